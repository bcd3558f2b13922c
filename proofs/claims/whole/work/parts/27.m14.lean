section ZM17
variable {G : zG} {n : Nat} {h0 : zF} {a : Nat} {I : Nat → Nat} {A : Nat → Nat → Nat} {B : Nat → Nat}
/-- the int -1 -/
def MX : Nat := 4294967295
theorem nI_MX : nI MX = -1 := by decide
def dom2 (x : Nat) : Prop := x < 256 ∨ x = MX
theorem dom2_0 {x : Nat} (h : dom2 x) : nI x = 0 ↔ x = 0 := by
  rcases h with h | h
  · exact nI_eq (by omega) (by decide : (0 : Nat) < 2 ^ 31)
  · rw [h]; exact ⟨fun q => absurd q (by decide), fun q => absurd q (by decide)⟩
theorem dom2_s {x s : Nat} (h : dom2 x) (hs : s < 256) : nI x = nI s ↔ x = s := by
  rcases h with h | h
  · exact nI_eq (by omega) (by omega)
  · rw [h, nI_MX]
    refine ⟨fun q => ?_, fun q => ?_⟩
    · have := congrArg Int32.toInt q
      rw [nI_toInt (by omega)] at this
      have h1 : (-1 : Int32).toInt = -1 := by decide
      omega
    · rw [show MX = 4294967295 from rfl] at q; omega
theorem dom2_lt {x : Nat} (h : dom2 x) : nI x < 0 ↔ x = MX := by
  rcases h with h | h
  · exact ⟨fun q => absurd q (nI_pos (by omega)), fun q => by rw [q, show MX = 4294967295 from rfl] at h; omega⟩
  · rw [h]; exact ⟨fun _ => rfl, fun _ => by decide⟩
def meetF (x s : Nat) : Nat := if x = 0 ∨ x = s then s else MX
theorem c_meet {j s : Nat} (hj : j < 3600) (hd : dom2 (A 25 j)) (hs : s < 256) : zPv G MX8_meet 0 [.ref a, .int (nI j), .int (nI s)] (mH h0 a I A B) n (fun h' => h' = mH h0 a I (va_up A 25 (va_up (A 25) j (meetF (A 25 j) s))) B) := by
  refine zCt.of rfl (Nat.le_of_ble_eq_true rfl) rfl ?_
  refine x_aload_n dX8_meet_0 rfl ?_
  refine x_getf dX8_meet_1 flX8_84 mH_a rfl ?_
  refine x_iload_n dX8_meet_4 rfl ?_
  refine x_aload_n dX8_meet_5 rfl ?_
  refine x_getf dX8_meet_6 flX8_84 mH_a rfl ?_
  refine x_iload_n dX8_meet_9 rfl ?_
  refine m_iald dX8_meet_10 rfl (by simp only [mLen]; omega) (by decide) ?_
  refine x_if_eq (tgt := 24) dX8_meet_11 (by decide) (fun c1 => ?_) (fun c1 => ?_)
  · have c1 := (dom2_0 hd).mp c1
    refine x_iload_n dX8_meet_24 rfl ?_
    refine x_goto (tgt := 29) dX8_meet_25 (by decide) ?_
    refine m_iast dX8_meet_29 rfl (by simp only [mLen]; omega) (by decide) ?_
    refine x_vret dX8_meet_30 rfl ⟨Nat.le_refl _, Nat.le_refl _⟩ ?_
    exact ⟨rfl, by unfold meetF; rw [if_pos (Or.inl c1)], rfl⟩
  · have c1 : ¬ A 25 j = 0 := fun q => c1 ((dom2_0 hd).mpr q)
    refine x_aload_n dX8_meet_14 rfl ?_
    refine x_getf dX8_meet_15 flX8_84 mH_a rfl ?_
    refine x_iload_n dX8_meet_18 rfl ?_
    refine m_iald dX8_meet_19 rfl (by simp only [mLen]; omega) (by decide) ?_
    refine x_iload_n dX8_meet_20 rfl ?_
    refine x_icmp_ne (tgt := 28) dX8_meet_21 (by decide) (fun c2 => ?_) (fun c2 => ?_)
    · have c2 : ¬ A 25 j = s := fun q => c2 ((dom2_s hd hs).mpr q)
      refine x_iconst (v := nI MX) dX8_meet_28 (by decide) ?_
      refine m_iast dX8_meet_29 rfl (by simp only [mLen]; omega) (by decide) ?_
      refine x_vret dX8_meet_30 rfl ⟨Nat.le_refl _, Nat.le_refl _⟩ ?_
      exact ⟨rfl, by unfold meetF; rw [if_neg (fun q => q.elim c1 c2)], rfl⟩
    · have c2 := (dom2_s hd hs).mp c2
      refine x_iload_n dX8_meet_24 rfl ?_
      refine x_goto (tgt := 29) dX8_meet_25 (by decide) ?_
      refine m_iast dX8_meet_29 rfl (by simp only [mLen]; omega) (by decide) ?_
      refine x_vret dX8_meet_30 rfl ⟨Nat.le_refl _, Nat.le_refl _⟩ ?_
      exact ⟨rfl, by unfold meetF; rw [if_pos (Or.inr c2)], rfl⟩
def o2i : Option Nat → Int32
  | none => -4
  | some k => nI k
def ansO (A : Nat → Nat → Nat) (o : Option Nat) (w : Nat) : Nat := match o with
  | none => 0
  | some k => av A (k / 4) (k % 4) w
/-- which set each pair of answers leaves (0 none, MX several) among the first worlds of μ -/
def twF (A : Nat → Nat → Nat) (μ : Nat → Bool) (p : Nat) (one two : Option Nat) : Nat → Nat → Nat
  | 0 => fun _ => 0
  | w + 1 => if μ w then va_up (twF A μ p one two w) (60 * ansO A one w + ansO A two w) (meetF (twF A μ p one two w (60 * ansO A one w + ansO A two w)) (sI (A 16 w) p)) else twF A μ p one two w
theorem twF_dom (A : Nat → Nat → Nat) (μ : Nat → Bool) (p : Nat) (one two : Option Nat) : ∀ w j, dom2 (twF A μ p one two w j)
  | 0, j => Or.inl (show 0 < 256 by decide)
  | w + 1, j => by
    unfold twF
    split
    · unfold va_up
      split
      · unfold meetF
        split
        · exact Or.inl (sI_lt _ _)
        · exact Or.inr rfl
      · exact twF_dom A μ p one two w j
    · exact twF_dom A μ p one two w j
def oOK (A : Nat → Nat → Nat) (o : Option Nat) : Prop := ∀ k, o = some k → k < 4 * A 7 0
theorem ansO_lt {A : Nat → Nat → Nat} {o : Option Nat} {w N : Nat} (h : a60 A N) (hw : w < N) (ho : oOK A o) : ansO A o w < 60 := by
  cases o with
  | none => exact (by decide : 0 < 60)
  | some k => exact h w hw (k / 4) (by have := ho k rfl; omega) (k % 4) (by omega)
set_option maxRecDepth 100000 in
theorem c_layTwo {μ : Nat → Bool} {p : Nat} {one two : Option Nat} (hk : tR A) (hp : p < 4) (h1 : oOK A one) (h2 : oOK A two) (h17 : I 17 ≤ 5040) (h60 : a60 A (I 17)) (hmu : ∀ w, w < I 17 → A 22 w = (μ w).toNat) : zPv G MX8_layTwo 3 [.ref a, .int (nI p), .int (o2i one), .int (o2i two)] (mH h0 a I A B) n (fun h' => ∃ f, (∀ j, j < 3600 → f j = twF A μ p one two (I 17) j) ∧ h' = mH h0 a I (va_up A 25 f) B) := by
  refine zCt.of rfl (Nat.le_of_ble_eq_true rfl) rfl ?_
  have k7 := hk.2.1
  have ca : ∀ (f : Nat → Nat) (k w : Nat), k < 4 * A 7 0 → zI G MX8_answerOf 2 [.ref a, .int (nI (k / 4)), .int (nI (k % 4)), .int (nI (sI (A 16 w) (k / 4))), .int (nI 0)] (mH h0 a I (va_up A 25 f) B) n (nI (av A (k / 4) (k % 4) w)) := by
    intro f k w hk4
    have := c_answerOf (G := G) (n := n) (h0 := h0) (a := a) (I := I) (B := B) (A := va_up A 25 f) (p := k / 4) (sort := k % 4) (s := sI (A 16 w) (k / 4)) (f := 0) (tR_up (by decide) hk) (show k / 4 < A 7 0 by omega) (by omega) (sI_lt _ _) (by decide)
    rwa [ansF_up (by decide)] at this
  refine x_iconst (v := nI 0) dX8_layTwo_0 (by decide) ?_
  refine x_is4 dX8_layTwo_1 (by decide) rfl ?_
  refine x_eqA (A' := va_up A 25 (A 25)) (up_self A 25).symm ?_
  have zl : ∀ i, i ≤ 3600 → ∀ f : Nat → Nat, (∀ j, j < i → f j = 0) → zEx G MX8_layTwo 3 0 0 3 [some (.ref a), some (.int (nI p)), some (.int (o2i one)), some (.int (o2i two)), some (.int (nI i)), none, none] [] (mH h0 a I (va_up A 25 f) B) n (0, 0) (fun r h' n' => r = none ∧ (∃ f, (∀ j, j < 3600 → f j = twF A μ p one two (I 17) j) ∧ h' = mH h0 a I (va_up A 25 f) B) ∧ n' = n) := by
    refine z_up 3600 ?_
    intro i hi ih f hz
    refine x_iload dX8_layTwo_3 rfl ?_
    refine x_sipush (v := nI 3600) dX8_layTwo_5 (by decide) ?_
    refine n_icmp_ge (tgt := 25) dX8_layTwo_8 (by decide) (by omega) (by omega) (fun hc => ?_) (fun hc => ?_)
    · have hi : i = 3600 := by omega
      subst hi
      refine x_iconst (v := nI 0) dX8_layTwo_25 (by decide) ?_
      refine x_is4 dX8_layTwo_26 (by decide) rfl ?_
      have key : ∀ w, w ≤ I 17 → ∀ (f : Nat → Nat) (o5 o6 : Option Value), (∀ j, j < 3600 → f j = twF A μ p one two w j) → zEx G MX8_layTwo 3 0 0 28 [some (.ref a), some (.int (nI p)), some (.int (o2i one)), some (.int (o2i two)), some (.int (nI w)), o5, o6] [] (mH h0 a I (va_up A 25 f) B) n (0, 0) (fun r h' n' => r = none ∧ (∃ f, (∀ j, j < 3600 → f j = twF A μ p one two (I 17) j) ∧ h' = mH h0 a I (va_up A 25 f) B) ∧ n' = n) := by
        refine z_up (I 17) ?_
        intro w hw ihw f o5 o6 hf
        refine x_iload dX8_layTwo_28 rfl ?_
        refine x_aload_n dX8_layTwo_30 rfl ?_
        refine x_getf dX8_layTwo_31 flX8_172 mH_a rfl ?_
        refine n_icmp_ge (tgt := 144) dX8_layTwo_34 (by decide) (by omega) (by omega) (fun hc2 => ?_) (fun hc2 => ?_)
        · refine x_vret dX8_layTwo_144 rfl ⟨Nat.le_refl _, Nat.le_refl _⟩ ?_
          exact ⟨rfl, ⟨f, by rw [show w = I 17 by omega] at hf; exact hf, rfl⟩, rfl⟩
        · have hwl : w < I 17 := by omega
          have ha1 := ansO_lt h60 hwl h1
          have ha2 := ansO_lt h60 hwl h2
          have e22 : (va_up A 25 f) 22 w = (μ w).toNat := hmu w hwl
          have ih9 := ihw hwl
          have K113 : ∀ b, b = ansO A two w → ∀ o6, zEx G MX8_layTwo 3 0 0 113 [some (.ref a), some (.int (nI p)), some (.int (o2i one)), some (.int (o2i two)), some (.int (nI w)), some (.int (nI (ansO A one w))), o6] [.int (nI b)] (mH h0 a I (va_up A 25 f) B) n (0, 0) (fun r h' n' => r = none ∧ (∃ f, (∀ j, j < 3600 → f j = twF A μ p one two (I 17) j) ∧ h' = mH h0 a I (va_up A 25 f) B) ∧ n' = n) ∨ μ w = false := by
            intro b hb o6
            cases hm : μ w with
            | false => right; rfl
            | true =>
              left
              subst hb
              have hjj : 60 * ansO A one w + ansO A two w < 3600 := by omega
              have hfj := hf _ hjj
              have cm := c_meet (G := G) (n := n) (h0 := h0) (a := a) (I := I) (B := B) (A := va_up A 25 f) (j := 60 * ansO A one w + ansO A two w) (s := sI (A 16 w) p) hjj (by rw [up_eq, hfj]; exact twF_dom A μ p one two w _) (sI_lt _ _)
              rw [up_eq, up_up] at cm
              refine x_is6 dX8_layTwo_113 (by decide) rfl ?_
              refine x_aload_n dX8_layTwo_115 rfl ?_
              refine x_bipush (v := nI 60) dX8_layTwo_116 (by decide) ?_
              refine x_iload dX8_layTwo_118 rfl ?_
              refine n_imul dX8_layTwo_120 ?_
              refine x_iload dX8_layTwo_121 rfl ?_
              refine n_iadd dX8_layTwo_123 ?_
              refine x_aload_n dX8_layTwo_124 rfl ?_
              refine x_getf dX8_layTwo_125 flX8_55 mH_a rfl ?_
              refine x_iload dX8_layTwo_128 rfl ?_
              refine m_iald dX8_layTwo_130 rfl (by simp only [mLen]; omega) (by decide) ?_
              refine x_iload_n dX8_layTwo_131 rfl ?_
              refine x_cSi2 dX8_layTwo_132 lkX8_192 mdX8_setIn stX8_setIn (by decide) (c_setIn _ (by omega)) (Nat.le_of_ble_eq_true rfl) ⟨Nat.le_refl _, Nat.le_refl _⟩ ?_
              refine x_cVV2 dX8_layTwo_135 lkX8_245 mdX8_meet isX8_meet rfl rfl mH_a (by decide) (cm) (Nat.le_of_ble_eq_true rfl) ⟨Nat.le_refl _, Nat.le_refl _⟩ ?_
              rintro _ rfl
              refine n_ii4 (w := 1) dX8_layTwo_138 (by decide) (by decide) rfl ?_
              refine x_goto (tgt := 28) dX8_layTwo_141 (by decide) ?_
              refine ih9 _ _ _ (fun j hj => ?_)
              rw [twF, hm, if_pos rfl]
              unfold va_up
              by_cases hj2 : j = 60 * ansO A one w + ansO A two w
              · rw [if_pos hj2, if_pos hj2, hfj]
              · rw [if_neg hj2, if_neg hj2]; exact hf j hj
          have K79 : ∀ b, b = ansO A one w → ∀ o5 o6, zEx G MX8_layTwo 3 0 0 79 [some (.ref a), some (.int (nI p)), some (.int (o2i one)), some (.int (o2i two)), some (.int (nI w)), o5, o6] [.int (nI b)] (mH h0 a I (va_up A 25 f) B) n (0, 0) (fun r h' n' => r = none ∧ (∃ f, (∀ j, j < 3600 → f j = twF A μ p one two (I 17) j) ∧ h' = mH h0 a I (va_up A 25 f) B) ∧ n' = n) ∨ μ w = false := by
            intro b hb o5 o6
            cases hm : μ w with
            | false => right; rfl
            | true =>
              left
              subst hb
              have K := fun b hb o6 => (K113 b hb o6).resolve_right (by rw [hm]; decide)
              refine x_is5 dX8_layTwo_79 (by decide) rfl ?_
              refine x_iload_n dX8_layTwo_81 rfl ?_
              cases two with
              | none =>
                refine x_if_ge (tgt := 89) dX8_layTwo_82 (by decide) (fun c => absurd c (by decide)) (fun c => ?_)
                refine x_iconst (v := nI 0) dX8_layTwo_85 (by decide) ?_
                refine x_goto (tgt := 113) dX8_layTwo_86 (by decide) ?_
                exact K 0 rfl _
              | some k =>
                have hk4 := h2 k rfl
                refine x_if_ge (tgt := 89) dX8_layTwo_82 (by decide) (fun c => ?_) (fun c => absurd (nI_pos' (by omega)) c)
                refine x_aload_n dX8_layTwo_89 rfl ?_
                refine x_iload_n (x := nI k) dX8_layTwo_90 rfl ?_
                refine x_iconst (v := nI 4) dX8_layTwo_91 (by decide) ?_
                refine n_idiv dX8_layTwo_92 (by omega) (by omega) (by omega) ?_
                refine x_iload_n (x := nI k) dX8_layTwo_93 rfl ?_
                refine x_iconst (v := nI 4) dX8_layTwo_94 (by decide) ?_
                refine n_irem dX8_layTwo_95 (by omega) (by omega) (by omega) ?_
                refine x_aload_n dX8_layTwo_96 rfl ?_
                refine x_getf dX8_layTwo_97 flX8_55 mH_a rfl ?_
                refine x_iload dX8_layTwo_100 rfl ?_
                refine m_iald dX8_layTwo_102 rfl (by simp only [mLen]; omega) (by decide) ?_
                refine x_iload_n (x := nI k) dX8_layTwo_103 rfl ?_
                refine x_iconst (v := nI 4) dX8_layTwo_104 (by decide) ?_
                refine n_idiv dX8_layTwo_105 (by omega) (by omega) (by omega) ?_
                refine x_cSi2 dX8_layTwo_106 lkX8_192 mdX8_setIn stX8_setIn (by decide) (c_setIn _ (by omega)) (Nat.le_of_ble_eq_true rfl) ⟨Nat.le_refl _, Nat.le_refl _⟩ ?_
                refine x_iconst (v := nI 0) dX8_layTwo_109 (by decide) ?_
                refine x_cVi4 dX8_layTwo_110 lkX8_203 mdX8_answerOf isX8_answerOf rfl rfl mH_a (by decide) (ca f k w hk4) (Nat.le_of_ble_eq_true rfl) ⟨Nat.le_refl _, Nat.le_refl _⟩ ?_
                exact K _ rfl _
          refine x_aload_n dX8_layTwo_37 rfl ?_
          refine x_getf dX8_layTwo_38 flX8_73 mH_a rfl ?_
          refine x_iload dX8_layTwo_41 rfl ?_
          refine m_zald dX8_layTwo_43 rfl (by simp only [mLen]; omega) (by decide) ?_
          rw [e22]
          refine b_if_eq (tgt := 138) dX8_layTwo_44 (by decide) (fun c1 => ?_) (fun c1 => ?_)
          · refine n_ii4 (w := 1) dX8_layTwo_138 (by decide) (by decide) rfl ?_
            refine x_goto (tgt := 28) dX8_layTwo_141 (by decide) ?_
            refine ih9 f o5 o6 (fun j hj => ?_)
            rw [twF, c1, if_neg (by decide)]
            exact hf j hj
          · have K := fun b hb o5 o6 => (K79 b hb o5 o6).resolve_right (by rw [c1]; decide)
            refine x_iload_n dX8_layTwo_47 rfl ?_
            cases one with
            | none =>
              refine x_if_ge (tgt := 55) dX8_layTwo_48 (by decide) (fun c => absurd c (by decide)) (fun c => ?_)
              refine x_iconst (v := nI 0) dX8_layTwo_51 (by decide) ?_
              refine x_goto (tgt := 79) dX8_layTwo_52 (by decide) ?_
              exact K 0 rfl _ _
            | some k =>
              have hk4 := h1 k rfl
              refine x_if_ge (tgt := 55) dX8_layTwo_48 (by decide) (fun c => ?_) (fun c => absurd (nI_pos' (by omega)) c)
              refine x_aload_n dX8_layTwo_55 rfl ?_
              refine x_iload_n (x := nI k) dX8_layTwo_56 rfl ?_
              refine x_iconst (v := nI 4) dX8_layTwo_57 (by decide) ?_
              refine n_idiv dX8_layTwo_58 (by omega) (by omega) (by omega) ?_
              refine x_iload_n (x := nI k) dX8_layTwo_59 rfl ?_
              refine x_iconst (v := nI 4) dX8_layTwo_60 (by decide) ?_
              refine n_irem dX8_layTwo_61 (by omega) (by omega) (by omega) ?_
              refine x_aload_n dX8_layTwo_62 rfl ?_
              refine x_getf dX8_layTwo_63 flX8_55 mH_a rfl ?_
              refine x_iload dX8_layTwo_66 rfl ?_
              refine m_iald dX8_layTwo_68 rfl (by simp only [mLen]; omega) (by decide) ?_
              refine x_iload_n (x := nI k) dX8_layTwo_69 rfl ?_
              refine x_iconst (v := nI 4) dX8_layTwo_70 (by decide) ?_
              refine n_idiv dX8_layTwo_71 (by omega) (by omega) (by omega) ?_
              refine x_cSi2 dX8_layTwo_72 lkX8_192 mdX8_setIn stX8_setIn (by decide) (c_setIn _ (by omega)) (Nat.le_of_ble_eq_true rfl) ⟨Nat.le_refl _, Nat.le_refl _⟩ ?_
              refine x_iconst (v := nI 0) dX8_layTwo_75 (by decide) ?_
              refine x_cVi4 dX8_layTwo_76 lkX8_203 mdX8_answerOf isX8_answerOf rfl rfl mH_a (by decide) (ca f k w hk4) (Nat.le_of_ble_eq_true rfl) ⟨Nat.le_refl _, Nat.le_refl _⟩ ?_
              exact K _ rfl _ _
      exact key 0 (Nat.zero_le _) f _ _ (fun j hj => hz j hj)
    · refine x_aload_n dX8_layTwo_11 rfl ?_
      refine x_getf dX8_layTwo_12 flX8_84 mH_a rfl ?_
      refine x_iload dX8_layTwo_15 rfl ?_
      refine x_iconst (v := nI 0) dX8_layTwo_17 (by decide) ?_
      refine m_iast dX8_layTwo_18 rfl (by simp only [mLen]; omega) (by decide) ?_
      refine n_ii4 (w := 1) dX8_layTwo_19 (by decide) (by decide) rfl ?_
      refine x_goto (tgt := 3) dX8_layTwo_22 (by decide) ?_
      refine x_eqA (A' := va_up A 25 (va_up f i 0)) (by rw [up_eq, up_up]) ?_
      refine ih (by omega) _ (fun j hj => ?_)
      unfold va_up
      by_cases hj2 : j = i
      · rw [if_pos hj2]
      · rw [if_neg hj2]; exact hz j (by omega)
  exact zl 0 (Nat.zero_le _) (A 25) (fun j hj => absurd hj (by omega))
def knF (f : Nat → Nat) (x : Nat) : Nat → Bool
  | 0 => true
  | b + 1 => knF f x b && !(f (60 * x + b) == MX)
theorem c_isKnown {x : Nat} (hx : x < 60) (hd : ∀ j, j < 3600 → dom2 (A 25 j)) : zI G MX8_isKnown 0 [.ref a, .int (nI x)] (mH h0 a I A B) n (nI (knF (A 25) x 60).toNat) := by
  refine zCt.of rfl (Nat.le_of_ble_eq_true rfl) rfl ?_
  refine x_iconst (v := nI 1) dX8_isKnown_0 (by decide) ?_
  refine x_is2 dX8_isKnown_1 (by decide) rfl ?_
  refine x_iconst (v := nI 0) dX8_isKnown_2 (by decide) ?_
  refine x_is3 dX8_isKnown_3 (by decide) rfl ?_
  refine z_up 60 (P := fun b => zEx G MX8_isKnown 0 0 0 4 [some (.ref a), some (.int (nI x)), some (.int (nI (knF (A 25) x b).toNat)), some (.int (nI b))] [] (mH h0 a I A B) n (0, 0) _) ?_ 0 (by decide)
  intro b hb ih
  refine x_iload_n dX8_isKnown_4 rfl ?_
  refine x_bipush (v := nI 60) dX8_isKnown_5 (by decide) ?_
  refine n_icmp_ge (tgt := 40) dX8_isKnown_7 (by decide) (by omega) (by omega) (fun hc => ?_) (fun hc => ?_)
  · refine x_iload_n dX8_isKnown_40 rfl ?_
    refine x_iret dX8_isKnown_41 rfl (nar_b _) ⟨Nat.le_refl _, Nat.le_refl _⟩ ?_
    exact ⟨by rw [show b = 60 by omega], rfl, rfl⟩
  · have ih9 := ih (by omega)
    have hdj := hd (60 * x + b) (by omega)
    rw [knF] at ih9
    refine x_iload_n dX8_isKnown_10 rfl ?_
    refine b_if_eq (tgt := 32) dX8_isKnown_11 (by decide) (fun c1 => ?_) (fun c1 => ?_)
    · refine x_iconst (v := nI 0) dX8_isKnown_32 (by decide) ?_
      refine x_is2 dX8_isKnown_33 (by decide) rfl ?_
      refine n_ii3 (w := 1) dX8_isKnown_34 (by decide) (by decide) rfl ?_
      refine x_goto (tgt := 4) dX8_isKnown_37 (by decide) ?_
      rw [c1] at ih9
      exact ih9
    · refine x_aload_n dX8_isKnown_14 rfl ?_
      refine x_getf dX8_isKnown_15 flX8_84 mH_a rfl ?_
      refine x_bipush (v := nI 60) dX8_isKnown_18 (by decide) ?_
      refine x_iload_n dX8_isKnown_20 rfl ?_
      refine n_imul dX8_isKnown_21 ?_
      refine x_iload_n dX8_isKnown_22 rfl ?_
      refine n_iadd dX8_isKnown_23 ?_
      refine m_iald dX8_isKnown_24 rfl (by simp only [mLen]; omega) (by decide) ?_
      refine x_if_lt (tgt := 32) dX8_isKnown_25 (by decide) (fun c2 => ?_) (fun c2 => ?_)
      · have c2 := (dom2_lt hdj).mp c2
        refine x_iconst (v := nI 0) dX8_isKnown_32 (by decide) ?_
        refine x_is2 dX8_isKnown_33 (by decide) rfl ?_
        refine n_ii3 (w := 1) dX8_isKnown_34 (by decide) (by decide) rfl ?_
        refine x_goto (tgt := 4) dX8_isKnown_37 (by decide) ?_
        rw [c1, c2] at ih9
        exact ih9
      · have c2 : (A 25 (60 * x + b) == MX) = false := by
          rw [beq_eq_false_iff_ne]; exact fun q => c2 ((dom2_lt hdj).mpr q)
        refine x_iconst (v := nI 1) dX8_isKnown_28 (by decide) ?_
        refine x_goto (tgt := 33) dX8_isKnown_29 (by decide) ?_
        refine x_is2 dX8_isKnown_33 (by decide) rfl ?_
        refine n_ii3 (w := 1) dX8_isKnown_34 (by decide) (by decide) rfl ?_
        refine x_goto (tgt := 4) dX8_isKnown_37 (by decide) ?_
        rw [c1, c2] at ih9
        exact ih9
/-- whether some second trial tells, for the answer x of the first one -/
def enK (A : Nat → Nat → Nat) (μ : Nat → Bool) (p : Nat) (one : Option Nat) (N x : Nat) : Nat → Bool
  | 0 => false
  | t + 1 => enK A μ p one N x t || knF (twF A μ p one (some t) N) x 60
def alF (g : Nat → Bool) : Nat → Bool
  | 0 => true
  | x + 1 => alF g x && g x
def enF (A : Nat → Nat → Nat) (μ : Nat → Bool) (p : Nat) (one : Option Nat) (N : Nat) : Bool := alF (fun x => enK A μ p one N x (4 * A 7 0)) 60
theorem knF_cong {f g : Nat → Nat} {x : Nat} (hx : x < 60) (h : ∀ j, j < 3600 → f j = g j) : ∀ b, b ≤ 60 → knF f x b = knF g x b
  | 0, _ => rfl
  | b + 1, hb => by rw [knF, knF, knF_cong hx h b (by omega), h _ (by omega)]
theorem twF_up {A : Nat → Nat → Nat} {q : Nat} {f : Nat → Nat} (hq : 17 ≤ q) (μ : Nat → Bool) (p : Nat) (one two : Option Nat) : ∀ w, twF (va_up A q f) μ p one two w = twF A μ p one two w := by
  have e1 : ∀ p so w, av (va_up A q f) p so w = av A p so w := fun p so w => by
    unfold av; rw [ansF_up (by omega), up_ne A f (show (16 : Nat) ≠ q by omega)]
  have e2 : ∀ o w, ansO (va_up A q f) o w = ansO A o w := fun o w => by
    cases o with
    | none => rfl
    | some k => exact e1 _ _ _
  intro w
  induction w with
  | zero => rfl
  | succ w ih => rw [twF, twF, ih, e2, e2, up_ne A f (show (16 : Nat) ≠ q by omega)]
set_option maxRecDepth 100000 in
theorem c_isEnough {μ : Nat → Bool} {p : Nat} {one : Option Nat} (hk : tR A) (hp : p < 4) (h1 : oOK A one) (h17 : I 17 ≤ 5040) (h60 : a60 A (I 17)) (hmu : ∀ w, w < I 17 → A 22 w = (μ w).toNat) : zPi G MX8_isEnough 4 [.ref a, .int (nI p), .int (o2i one)] (mH h0 a I A B) n (fun v h' => v = nI (enF A μ p one (I 17)).toNat ∧ ∃ f g, h' = mH h0 a I (va_up (va_up A 25 f) 26 g) B) := by
  refine zCt.of rfl (Nat.le_of_ble_eq_true rfl) rfl ?_
  have k7 := hk.2.1
  have cl : ∀ (f g : Nat → Nat) (t : Nat), t < 4 * A 7 0 → zPv G MX8_layTwo 3 [.ref a, .int (nI p), .int (o2i one), .int (nI t)] (mH h0 a I (va_up (va_up A 25 f) 26 g) B) n (fun h' => ∃ f', (∀ j, j < 3600 → f' j = twF A μ p one (some t) (I 17) j) ∧ h' = mH h0 a I (va_up (va_up A 25 f') 26 g) B) := by
    intro f g t ht
    have := c_layTwo (G := G) (n := n) (h0 := h0) (a := a) (I := I) (B := B) (A := va_up (va_up A 25 f) 26 g) (μ := μ) (p := p) (one := one) (two := some t) (tR_up (by decide) (tR_up (by decide) hk)) hp h1 (fun k hk => by cases hk; exact ht) h17 (a60_up (by decide) (a60_up (by decide) h60)) hmu
    simp only [twF_up (show 17 ≤ 25 by decide), twF_up (show 17 ≤ 26 by decide)] at this
    have e : ∀ f' : Nat → Nat, va_up (va_up (va_up A 25 f) 26 g) 25 f' = va_up (va_up A 25 f') 26 g := fun f' => by funext k j; simp only [va_up, ite_app]; grind
    simp only [e] at this
    exact this
  refine x_iconst (v := nI 0) dX8_isEnough_0 (by decide) ?_
  refine x_is3 dX8_isEnough_1 (by decide) rfl ?_
  refine x_eqA (A' := va_up (va_up A 25 (A 25)) 26 (A 26)) (by funext k j; simp only [va_up, ite_app]; grind) ?_
  have zl : ∀ i, i ≤ 60 → ∀ f g : Nat → Nat, (∀ j, j < i → g j = 0) → zEx G MX8_isEnough 4 0 0 2 [some (.ref a), some (.int (nI p)), some (.int (o2i one)), some (.int (nI i)), none] [] (mH h0 a I (va_up (va_up A 25 f) 26 g) B) n (0, 0) (fun r h' n' => ∃ v, r = some (.int v) ∧ (v = nI (enF A μ p one (I 17)).toNat ∧ ∃ f g, h' = mH h0 a I (va_up (va_up A 25 f) 26 g) B) ∧ n' = n) := by
    refine z_up 60 ?_
    intro i hi ih f g hz
    refine x_iload_n dX8_isEnough_2 rfl ?_
    refine x_bipush (v := nI 60) dX8_isEnough_3 (by decide) ?_
    refine n_icmp_ge (tgt := 21) dX8_isEnough_5 (by decide) (by omega) (by omega) (fun hc => ?_) (fun hc => ?_)
    · have hi : i = 60 := by omega
      subst hi
      refine x_iconst (v := nI 0) dX8_isEnough_21 (by decide) ?_
      refine x_is3 dX8_isEnough_22 (by decide) rfl ?_
      have key : ∀ t, t ≤ 4 * A 7 0 → ∀ (f g : Nat → Nat) (o4 : Option Value), (∀ j, j < 60 → g j = (enK A μ p one (I 17) j t).toNat) → zEx G MX8_isEnough 4 0 0 23 [some (.ref a), some (.int (nI p)), some (.int (o2i one)), some (.int (nI t)), o4] [] (mH h0 a I (va_up (va_up A 25 f) 26 g) B) n (0, 0) (fun r h' n' => ∃ v, r = some (.int v) ∧ (v = nI (enF A μ p one (I 17)).toNat ∧ ∃ f g, h' = mH h0 a I (va_up (va_up A 25 f) 26 g) B) ∧ n' = n) := by
        refine z_up (4 * A 7 0) ?_
        intro t ht iht f g o4 hg
        refine x_iload_n dX8_isEnough_23 rfl ?_
        refine x_iconst (v := nI 4) dX8_isEnough_24 (by decide) ?_
        refine x_aload_n dX8_isEnough_25 rfl ?_
        refine x_getf dX8_isEnough_26 flX8_28 mH_a rfl ?_
        refine x_iconst (v := nI 0) dX8_isEnough_29 (by decide) ?_
        refine m_iald (A := va_up (va_up A 25 f) 26 g) (j := 0) dX8_isEnough_30 rfl (by simp only [mLen]; omega) (by decide) ?_
        have e7 : (va_up (va_up A 25 f) 26 g) 7 0 = A 7 0 := rfl
        rw [e7]
        refine n_imul dX8_isEnough_31 ?_
        refine n_icmp_ge (tgt := 95) dX8_isEnough_32 (by decide) (by omega) (by omega) (fun hc2 => ?_) (fun hc2 => ?_)
        · have hte : t = 4 * A 7 0 := by omega
          subst hte
          refine x_iconst (v := nI 1) dX8_isEnough_95 (by decide) ?_
          refine x_is3 dX8_isEnough_96 (by decide) rfl ?_
          refine x_iconst (v := nI 0) dX8_isEnough_97 (by decide) ?_
          refine x_is4 dX8_isEnough_98 (by decide) rfl ?_
          refine z_up 60 (P := fun x => zEx G MX8_isEnough 4 0 0 100 [some (.ref a), some (.int (nI p)), some (.int (o2i one)), some (.int (nI (alF (fun x => enK A μ p one (I 17) x (4 * A 7 0)) x).toNat)), some (.int (nI x))] [] (mH h0 a I (va_up (va_up A 25 f) 26 g) B) n (0, 0) _) ?_ 0 (by decide)
          intro x hx ihx
          refine x_iload dX8_isEnough_100 rfl ?_
          refine x_bipush (v := nI 60) dX8_isEnough_102 (by decide) ?_
          refine n_icmp_ge (tgt := 133) dX8_isEnough_104 (by decide) (by omega) (by omega) (fun hc3 => ?_) (fun hc3 => ?_)
          · refine x_iload_n dX8_isEnough_133 rfl ?_
            refine x_iret dX8_isEnough_134 rfl (nar_b _) ⟨Nat.le_refl _, Nat.le_refl _⟩ ?_
            exact ⟨_, rfl, ⟨by rw [show x = 60 by omega]; rfl, f, g, rfl⟩, rfl⟩
          · have ih9 := ihx (by omega)
            rw [alF] at ih9
            have e26 : (va_up (va_up A 25 f) 26 g) 26 x = (enK A μ p one (I 17) x (4 * A 7 0)).toNat := hg x (by omega)
            refine x_iload_n dX8_isEnough_107 rfl ?_
            refine b_if_eq (tgt := 125) dX8_isEnough_108 (by decide) (fun c1 => ?_) (fun c1 => ?_)
            · refine x_iconst (v := nI 0) dX8_isEnough_125 (by decide) ?_
              refine x_is3 dX8_isEnough_126 (by decide) rfl ?_
              refine n_ii4 (w := 1) dX8_isEnough_127 (by decide) (by decide) rfl ?_
              refine x_goto (tgt := 100) dX8_isEnough_130 (by decide) ?_
              rw [c1] at ih9
              exact ih9
            · refine x_aload_n dX8_isEnough_111 rfl ?_
              refine x_getf dX8_isEnough_112 flX8_87 mH_a rfl ?_
              refine x_iload dX8_isEnough_115 rfl ?_
              refine m_zald dX8_isEnough_117 rfl (by simp only [mLen]; omega) (by decide) ?_
              rw [e26]
              refine b_if_eq (tgt := 125) dX8_isEnough_118 (by decide) (fun c2 => ?_) (fun c2 => ?_)
              · refine x_iconst (v := nI 0) dX8_isEnough_125 (by decide) ?_
                refine x_is3 dX8_isEnough_126 (by decide) rfl ?_
                refine n_ii4 (w := 1) dX8_isEnough_127 (by decide) (by decide) rfl ?_
                refine x_goto (tgt := 100) dX8_isEnough_130 (by decide) ?_
                rw [c1, c2] at ih9
                exact ih9
              · refine x_iconst (v := nI 1) dX8_isEnough_121 (by decide) ?_
                refine x_goto (tgt := 126) dX8_isEnough_122 (by decide) ?_
                refine x_is3 dX8_isEnough_126 (by decide) rfl ?_
                refine n_ii4 (w := 1) dX8_isEnough_127 (by decide) (by decide) rfl ?_
                refine x_goto (tgt := 100) dX8_isEnough_130 (by decide) ?_
                rw [c1, c2] at ih9
                exact ih9
        · refine x_aload_n dX8_isEnough_35 rfl ?_
          refine x_iload_n dX8_isEnough_36 rfl ?_
          refine x_iload_n dX8_isEnough_37 rfl ?_
          refine x_iload_n dX8_isEnough_38 rfl ?_
          refine x_cVV3 dX8_isEnough_39 lkX8_249 mdX8_layTwo isX8_layTwo rfl rfl mH_a (by decide) (cl f g t (by omega)) (Nat.le_of_ble_eq_true rfl) ⟨Nat.le_refl _, Nat.le_refl _⟩ ?_
          rintro h' ⟨f', hf', rfl⟩
          refine x_iconst (v := nI 0) dX8_isEnough_42 (by decide) ?_
          refine x_is4 dX8_isEnough_43 (by decide) rfl ?_
          have il : ∀ x, x ≤ 60 → ∀ g : Nat → Nat, (∀ j, j < x → g j = (enK A μ p one (I 17) j (t + 1)).toNat) → (∀ j, x ≤ j → j < 60 → g j = (enK A μ p one (I 17) j t).toNat) → zEx G MX8_isEnough 4 0 0 45 [some (.ref a), some (.int (nI p)), some (.int (o2i one)), some (.int (nI t)), some (.int (nI x))] [] (mH h0 a I (va_up (va_up A 25 f') 26 g) B) n (0, 0) (fun r h' n' => ∃ v, r = some (.int v) ∧ (v = nI (enF A μ p one (I 17)).toNat ∧ ∃ f g, h' = mH h0 a I (va_up (va_up A 25 f) 26 g) B) ∧ n' = n) := by
            refine z_up 60 ?_
            intro x hx ihx g hg1 hg2
            refine x_iload dX8_isEnough_45 rfl ?_
            refine x_bipush (v := nI 60) dX8_isEnough_47 (by decide) ?_
            refine n_icmp_ge (tgt := 89) dX8_isEnough_49 (by decide) (by omega) (by omega) (fun hc3 => ?_) (fun hc3 => ?_)
            · refine n_ii3 (w := 1) dX8_isEnough_89 (by decide) (by decide) rfl ?_
              refine x_goto (tgt := 23) dX8_isEnough_92 (by decide) ?_
              exact iht (by omega) f' g _ (fun j hj => hg1 j (by omega))
            · have hgx := hg2 x (Nat.le_refl _) (by omega)
              have e26 : (va_up (va_up A 25 f') 26 g) 26 x = (enK A μ p one (I 17) x t).toNat := hgx
              have K82 : ∀ b : Bool, b = enK A μ p one (I 17) x (t + 1) → zEx G MX8_isEnough 4 0 0 82 [some (.ref a), some (.int (nI p)), some (.int (o2i one)), some (.int (nI t)), some (.int (nI x))] [.int (nI b.toNat), .int (nI x), .ref (a + 26)] (mH h0 a I (va_up (va_up A 25 f') 26 g) B) n (0, 0) (fun r h' n' => ∃ v, r = some (.int v) ∧ (v = nI (enF A μ p one (I 17)).toNat ∧ ∃ f g, h' = mH h0 a I (va_up (va_up A 25 f) 26 g) B) ∧ n' = n) := by
                intro b hb
                subst hb
                refine m_zast dX8_isEnough_82 rfl (by simp only [mLen]; omega) (by decide) ?_
                refine x_eqA (A' := va_up (va_up A 25 f') 26 (va_up g x (enK A μ p one (I 17) x (t + 1)).toNat)) (by rw [up_eq, up_up]) ?_
                refine n_ii4 (w := 1) dX8_isEnough_83 (by decide) (by decide) rfl ?_
                refine x_goto (tgt := 45) dX8_isEnough_86 (by decide) ?_
                refine ihx (by omega) _ (fun j hj => ?_) (fun j hj hj2 => ?_)
                · unfold va_up
                  by_cases hj2 : j = x
                  · rw [if_pos hj2, hj2]
                  · rw [if_neg hj2]; exact hg1 j (by omega)
                · rw [up_ne _ _ (by omega)]; exact hg2 j (by omega) hj2
              have ck : zI G MX8_isKnown 0 [.ref a, .int (nI x)] (mH h0 a I (va_up (va_up A 25 f') 26 g) B) n (nI (knF (twF A μ p one (some t) (I 17)) x 60).toNat) := by
                have := c_isKnown (G := G) (n := n) (h0 := h0) (a := a) (I := I) (B := B) (A := va_up (va_up A 25 f') 26 g) (x := x) (by omega) (fun j hj => by
                  show dom2 (f' j)
                  rw [hf' j hj]; exact twF_dom _ _ _ _ _ _ _)
                have e : knF ((va_up (va_up A 25 f') 26 g) 25) x 60 = knF (twF A μ p one (some t) (I 17)) x 60 := knF_cong (by omega) hf' 60 (Nat.le_refl _)
                rwa [e] at this
              refine x_aload_n dX8_isEnough_52 rfl ?_
              refine x_getf dX8_isEnough_53 flX8_87 mH_a rfl ?_
              refine x_iload dX8_isEnough_56 rfl ?_
              refine x_aload_n dX8_isEnough_58 rfl ?_
              refine x_getf dX8_isEnough_59 flX8_87 mH_a rfl ?_
              refine x_iload dX8_isEnough_62 rfl ?_
              refine m_zald dX8_isEnough_64 rfl (by simp only [mLen]; omega) (by decide) ?_
              rw [e26]
              refine b_if_ne (tgt := 77) dX8_isEnough_65 (by decide) (fun c1 => ?_) (fun c1 => ?_)
              · refine x_iconst (v := nI 1) dX8_isEnough_77 (by decide) ?_
                refine x_goto (tgt := 82) dX8_isEnough_78 (by decide) ?_
                exact K82 true (by rw [enK, c1]; rfl)
              · refine x_aload_n dX8_isEnough_68 rfl ?_
                refine x_iload dX8_isEnough_69 rfl ?_
                refine x_cVi1 dX8_isEnough_71 lkX8_252 mdX8_isKnown isX8_isKnown rfl rfl mH_a (by decide) (ck) (Nat.le_of_ble_eq_true rfl) ⟨Nat.le_refl _, Nat.le_refl _⟩ ?_
                refine b_if_eq (tgt := 81) dX8_isEnough_74 (by decide) (fun c2 => ?_) (fun c2 => ?_)
                · refine x_iconst (v := nI 0) dX8_isEnough_81 (by decide) ?_
                  exact K82 false (by rw [enK, c1, c2]; rfl)
                · refine x_iconst (v := nI 1) dX8_isEnough_77 (by decide) ?_
                  refine x_goto (tgt := 82) dX8_isEnough_78 (by decide) ?_
                  exact K82 true (by rw [enK, c1, c2]; rfl)
          exact il 0 (Nat.zero_le _) g (fun j hj => absurd hj (Nat.not_lt_zero _)) (fun j _ hj => hg j hj)
      exact key 0 (Nat.zero_le _) f g _ (fun j hj => hz j hj)
    · refine x_aload_n dX8_isEnough_8 rfl ?_
      refine x_getf dX8_isEnough_9 flX8_87 mH_a rfl ?_
      refine x_iload_n dX8_isEnough_12 rfl ?_
      refine x_iconst (v := nI 0) dX8_isEnough_13 (by decide) ?_
      refine m_zast (b := false) dX8_isEnough_14 rfl (by simp only [mLen]; omega) (by decide) ?_
      refine x_eqA (A' := va_up (va_up A 25 f) 26 (va_up g i 0)) (by rw [up_eq, up_up]; rfl) ?_
      refine n_ii3 (w := 1) dX8_isEnough_15 (by decide) (by decide) rfl ?_
      refine x_goto (tgt := 2) dX8_isEnough_18 (by decide) ?_
      refine ih (by omega) f _ (fun j hj => ?_)
      unfold va_up
      by_cases hj2 : j = i
      · rw [if_pos hj2]
      · rw [if_neg hj2]; exact hz j (by omega)
  exact zl 0 (Nat.zero_le _) (A 25) (A 26) (fun j hj => absurd hj (by omega))
/-- whether a first trial and a second one are enough: the first of those from k on -/
def fewL (A : Nat → Nat → Nat) (μ : Nat → Bool) (p N : Nat) : Nat → Nat → Int32
  | 0, _ => -4
  | r + 1, k => if enF A μ p (some k) N then nI 2 else fewL A μ p N r (k + 1)
def sFew (A : Nat → Nat → Nat) (μ : Nat → Bool) (p N : Nat) : Int32 := if knF (twF A μ p none none N) 0 60 then nI 0 else if enF A μ p none N then nI 1 else fewL A μ p N (4 * A 7 0) 0
def fFew (I : Nat → Nat) (A : Nat → Nat → Nat) (p : Int32) : Int32 := if bR p (A 7 0) then (if nLeft A (A 17 8) (I 17) = 0 then -4 else sFew A (lf A (A 17 8)) p.toNatClampNeg (I 17)) else -1
theorem enK_up {A : Nat → Nat → Nat} {q : Nat} {f : Nat → Nat} (hq : 17 ≤ q) (μ : Nat → Bool) (p : Nat) (one : Option Nat) (N x : Nat) : ∀ t, enK (va_up A q f) μ p one N x t = enK A μ p one N x t
  | 0 => rfl
  | t + 1 => by rw [enK, enK, enK_up hq μ p one N x t, twF_up hq]
theorem enF_up {A : Nat → Nat → Nat} {q : Nat} {f : Nat → Nat} (hq : 17 ≤ q) (μ : Nat → Bool) (p : Nat) (one : Option Nat) (N : Nat) : enF (va_up A q f) μ p one N = enF A μ p one N := by
  unfold enF
  rw [up_ne A f (show (7 : Nat) ≠ q by omega)]
  congr 1
  funext x
  rw [enK_up hq]
end ZM17
