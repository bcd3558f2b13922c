section ZM18
variable {G : zG} {n : Nat} {h0 : zF} {a : Nat} {I : Nat → Nat} {A : Nat → Nat → Nat} {B : Nat → Nat}
set_option maxRecDepth 100000 in
theorem c_fewM {x : Int32} (hk : tR A) (h1 : 1 ≤ A 7 0) (hs : sOK A (A 17)) (h17 : I 17 ≤ 5040) (h60 : a60 A (I 17)) : zPi G MX8_few 5 [.ref a, .int x] (mH h0 a I A B) n (fun v h' => v = fFew I A x ∧ ∃ e f g, h' = mH h0 a I (va_up (va_up (va_up A 22 e) 25 f) 26 g) B) := by
  refine zCt.of rfl (Nat.le_of_ble_eq_true rfl) rfl ?_
  have k7 := hk.2.1
  have self : ∀ e : Nat → Nat, mH h0 a I (va_up A 22 e) B = mH h0 a I (va_up (va_up (va_up A 22 e) 25 (A 25)) 26 (A 26)) B := fun e => by congr 1; funext k j; simp only [va_up, ite_app]; grind
  refine x_aload_n dX8_few_0 rfl ?_
  refine x_iload_n dX8_few_1 rfl ?_
  refine x_cVi1 dX8_few_2 lkX8_189 mdX8_isParcel isX8_isParcel rfl rfl mH_a (by decide) (c_isParcel h1 k7) (Nat.le_of_ble_eq_true rfl) ⟨Nat.le_refl _, Nat.le_refl _⟩ ?_
  refine b_if_ne (tgt := 10) dX8_few_5 (by decide) (fun c1 => ?_) (fun c1 => ?_)
  · obtain ⟨p, hp, rfl⟩ := inR_of (bR_true.mp c1) (by omega)
    have hnl := nLeft_le A (A 17 8) (I 17)
    refine x_aload_n dX8_few_10 rfl ?_
    refine x_aload_n dX8_few_11 rfl ?_
    refine x_getf dX8_few_12 flX8_58 mH_a rfl ?_
    refine x_bipush (v := nI 8) dX8_few_15 (by decide) ?_
    refine m_iald dX8_few_17 rfl (by simp only [mLen]; omega) (by decide) ?_
    refine x_cVI1 dX8_few_18 lkX8_221 mdX8_layLeft isX8_layLeft rfl rfl mH_a (by decide) (c_layLeft hk hs (Nat.le_refl _) h17) (Nat.le_of_ble_eq_true rfl) ⟨Nat.le_refl _, Nat.le_refl _⟩ ?_
    rintro v h' ⟨rfl, rfl⟩
    refine n_if_ne (tgt := 27) dX8_few_21 (by decide) (by omega) (fun c2 => ?_) (fun c2 => ?_)
    · have hF : fFew I A (nI p) = sFew A (lf A (A 17 8)) p (I 17) := by unfold fFew; rw [if_pos c1, if_neg c2, nI_clamp (by omega)]
      rw [hF]
      have hmu : ∀ w, w < I 17 → (va_up A 22 (mayF A (A 17 8) (I 17))) 22 w = (lf A (A 17 8) w).toNat := fun w hw => by
        show mayF A (A 17 8) (I 17) w = _
        unfold mayF; rw [if_pos hw]
      generalize hE : mayF A (A 17 8) (I 17) = e at hmu
      generalize lf A (A 17 8) = μ at hmu
      have cl := c_layTwo (G := G) (n := n) (h0 := h0) (a := a) (I := I) (B := B) (A := va_up A 22 e) (μ := μ) (p := p) (one := none) (two := none) (tR_up (by decide) hk) (by omega) (fun k hk => by cases hk) (fun k hk => by cases hk) h17 (a60_up (by decide) h60) hmu
      simp only [twF_up (show 17 ≤ 22 by decide)] at cl
      have ce : ∀ (f g : Nat → Nat) (one : Option Nat), oOK A one → zPi G MX8_isEnough 4 [.ref a, .int (nI p), .int (o2i one)] (mH h0 a I (va_up (va_up (va_up A 22 e) 25 f) 26 g) B) n (fun v h' => v = nI (enF A μ p one (I 17)).toNat ∧ ∃ f g, h' = mH h0 a I (va_up (va_up (va_up A 22 e) 25 f) 26 g) B) := by
        intro f g one ho
        have := c_isEnough (G := G) (n := n) (h0 := h0) (a := a) (I := I) (B := B) (A := va_up (va_up (va_up A 22 e) 25 f) 26 g) (μ := μ) (p := p) (one := one) (tR_up (by decide) (tR_up (by decide) (tR_up (by decide) hk))) (by omega) ho h17 (a60_up (by decide) (a60_up (by decide) (a60_up (by decide) h60))) hmu
        simp only [enF_up (show 17 ≤ 22 by decide), enF_up (show 17 ≤ 25 by decide), enF_up (show 17 ≤ 26 by decide)] at this
        have ee : ∀ f' g' : Nat → Nat, va_up (va_up (va_up (va_up (va_up A 22 e) 25 f) 26 g) 25 f') 26 g' = va_up (va_up (va_up A 22 e) 25 f') 26 g' := fun f' g' => by funext k j; simp only [va_up, ite_app]; grind
        simp only [ee] at this
        exact this
      refine x_aload_n dX8_few_27 rfl ?_
      refine x_iload_n dX8_few_28 rfl ?_
      refine x_bipush (v := -4) dX8_few_29 (by decide) ?_
      refine x_bipush (v := -4) dX8_few_31 (by decide) ?_
      refine x_cVV3 dX8_few_33 lkX8_249 mdX8_layTwo isX8_layTwo rfl rfl mH_a (by decide) (cl) (Nat.le_of_ble_eq_true rfl) ⟨Nat.le_refl _, Nat.le_refl _⟩ ?_
      rintro h' ⟨f, hf, rfl⟩
      have ck : zI G MX8_isKnown 0 [.ref a, .int (nI 0)] (mH h0 a I (va_up (va_up A 22 e) 25 f) B) n (nI (knF (twF A μ p none none (I 17)) 0 60).toNat) := by
        have := c_isKnown (G := G) (n := n) (h0 := h0) (a := a) (I := I) (B := B) (A := va_up (va_up A 22 e) 25 f) (x := 0) (by decide) (fun j hj => by
          show dom2 (f j)
          rw [hf j hj]; exact twF_dom _ _ _ _ _ _ _)
        have e : knF ((va_up (va_up A 22 e) 25 f) 25) 0 60 = knF (twF A μ p none none (I 17)) 0 60 := knF_cong (by decide) hf 60 (Nat.le_refl _)
        rwa [e] at this
      have self2 : ∀ f : Nat → Nat, va_up (va_up A 22 e) 25 f = va_up (va_up (va_up A 22 e) 25 f) 26 (A 26) := fun f => by funext k j; simp only [va_up, ite_app]; grind
      refine x_aload_n dX8_few_36 rfl ?_
      refine x_iconst (v := nI 0) dX8_few_37 (by decide) ?_
      refine x_cVi1 dX8_few_38 lkX8_252 mdX8_isKnown isX8_isKnown rfl rfl mH_a (by decide) (ck) (Nat.le_of_ble_eq_true rfl) ⟨Nat.le_refl _, Nat.le_refl _⟩ ?_
      refine b_if_eq (tgt := 46) dX8_few_41 (by decide) (fun c3 => ?_) (fun c3 => ?_)
      · refine x_eqA (self2 f) ?_
        refine x_aload_n dX8_few_46 rfl ?_
        refine x_iload_n dX8_few_47 rfl ?_
        refine x_bipush (v := -4) dX8_few_48 (by decide) ?_
        refine x_cVI2 dX8_few_50 lkX8_255 mdX8_isEnough isX8_isEnough rfl rfl mH_a (by decide) (ce f (A 26) none (fun k hk => by cases hk)) (Nat.le_of_ble_eq_true rfl) ⟨Nat.le_refl _, Nat.le_refl _⟩ ?_
        rintro v h' ⟨rfl, f1, g1, rfl⟩
        refine b_if_eq (tgt := 58) dX8_few_53 (by decide) (fun c4 => ?_) (fun c4 => ?_)
        · refine x_iconst (v := nI 0) dX8_few_58 (by decide) ?_
          refine x_is2 dX8_few_59 (by decide) rfl ?_
          have key : ∀ r k, r + k = 4 * A 7 0 → ∀ f g : Nat → Nat, zEx G MX8_few 5 0 0 60 [some (.ref a), some (.int (nI p)), some (.int (nI k))] [] (mH h0 a I (va_up (va_up (va_up A 22 e) 25 f) 26 g) B) n (0, 0) (fun r1 h' n' => ∃ v, r1 = some (.int v) ∧ (v = fewL A μ p (I 17) r k ∧ ∃ e f g, h' = mH h0 a I (va_up (va_up (va_up A 22 e) 25 f) 26 g) B) ∧ n' = n) := by
            intro r
            induction r with
            | zero =>
              intro k hrk f g
              refine x_iload_n dX8_few_60 rfl ?_
              refine x_iconst (v := nI 4) dX8_few_61 (by decide) ?_
              refine x_aload_n dX8_few_62 rfl ?_
              refine x_getf dX8_few_63 flX8_28 mH_a rfl ?_
              refine x_iconst (v := nI 0) dX8_few_66 (by decide) ?_
              refine m_iald (A := va_up (va_up (va_up A 22 e) 25 f) 26 g) (j := 0) dX8_few_67 rfl (by simp only [mLen]; omega) (by decide) ?_
              have e7 : (va_up (va_up (va_up A 22 e) 25 f) 26 g) 7 0 = A 7 0 := rfl
              rw [e7]
              refine n_imul dX8_few_68 ?_
              refine n_icmp_ge (tgt := 89) dX8_few_69 (by decide) (by omega) (by omega) (fun hc => ?_) (fun hc => ?_)
              · refine x_bipush (v := -4) dX8_few_89 (by decide) ?_
                refine x_iret dX8_few_91 rfl rfl ⟨Nat.le_refl _, Nat.le_refl _⟩ ?_
                exact ⟨_, rfl, ⟨rfl, e, f, g, rfl⟩, rfl⟩
              · exact absurd hrk (by omega)
            | succ r ih =>
              intro k hrk f g
              refine x_iload_n dX8_few_60 rfl ?_
              refine x_iconst (v := nI 4) dX8_few_61 (by decide) ?_
              refine x_aload_n dX8_few_62 rfl ?_
              refine x_getf dX8_few_63 flX8_28 mH_a rfl ?_
              refine x_iconst (v := nI 0) dX8_few_66 (by decide) ?_
              refine m_iald (A := va_up (va_up (va_up A 22 e) 25 f) 26 g) (j := 0) dX8_few_67 rfl (by simp only [mLen]; omega) (by decide) ?_
              have e7 : (va_up (va_up (va_up A 22 e) 25 f) 26 g) 7 0 = A 7 0 := rfl
              rw [e7]
              refine n_imul dX8_few_68 ?_
              refine n_icmp_ge (tgt := 89) dX8_few_69 (by decide) (by omega) (by omega) (fun hc => ?_) (fun hc => ?_)
              · exact absurd hrk (by omega)
              · refine x_aload_n dX8_few_72 rfl ?_
                refine x_iload_n dX8_few_73 rfl ?_
                refine x_iload_n dX8_few_74 rfl ?_
                refine x_cVI2 dX8_few_75 lkX8_255 mdX8_isEnough isX8_isEnough rfl rfl mH_a (by decide) (ce f g (some k) (fun j hj => by cases hj; omega)) (Nat.le_of_ble_eq_true rfl) ⟨Nat.le_refl _, Nat.le_refl _⟩ ?_
                rintro v h' ⟨rfl, f2, g2, rfl⟩
                refine b_if_eq (tgt := 83) dX8_few_78 (by decide) (fun c5 => ?_) (fun c5 => ?_)
                · refine n_ii2 (w := 1) dX8_few_83 (by decide) (by decide) rfl ?_
                  refine x_goto (tgt := 60) dX8_few_86 (by decide) ?_
                  refine zEx.post (ih (k + 1) (by omega) f2 g2) ?_
                  rw [fewL, c5]
                  exact fun _ _ _ h => h
                · refine x_iconst (v := nI 2) dX8_few_81 (by decide) ?_
                  refine x_iret dX8_few_82 rfl rfl ⟨Nat.le_refl _, Nat.le_refl _⟩ ?_
                  exact ⟨_, rfl, ⟨by rw [fewL, c5]; rfl, e, f2, g2, rfl⟩, rfl⟩
          refine zEx.post (key (4 * A 7 0) 0 rfl f1 g1) ?_
          unfold sFew
          rw [c3, c4]
          exact fun _ _ _ h => h
        · refine x_iconst (v := nI 1) dX8_few_56 (by decide) ?_
          refine x_iret dX8_few_57 rfl rfl ⟨Nat.le_refl _, Nat.le_refl _⟩ ?_
          exact ⟨_, rfl, ⟨by unfold sFew; rw [c3, c4]; rfl, e, f1, g1, rfl⟩, rfl⟩
      · refine x_iconst (v := nI 0) dX8_few_44 (by decide) ?_
        refine x_iret dX8_few_45 rfl rfl ⟨Nat.le_refl _, Nat.le_refl _⟩ ?_
        exact ⟨_, rfl, ⟨by unfold sFew; rw [c3]; rfl, e, f, A 26, by rw [← self2]⟩, rfl⟩
    · refine x_bipush (v := -4) dX8_few_24 (by decide) ?_
      refine x_iret dX8_few_26 rfl rfl ⟨Nat.le_refl _, Nat.le_refl _⟩ ?_
      exact ⟨_, rfl, ⟨by unfold fFew; rw [if_pos c1, if_pos c2], _, _, _, self _⟩, rfl⟩
  · refine x_iconst (v := -1) dX8_few_8 (by decide) ?_
    refine x_iret dX8_few_9 rfl rfl ⟨Nat.le_refl _, Nat.le_refl _⟩ ?_
    exact ⟨_, rfl, ⟨by unfold fFew; rw [c1]; rfl, A 22, _, _, by rw [← self, up_self]⟩, rfl⟩
/-- how many of the first N are in μ; whether a code is among them -/
def nMu (μ : Nat → Bool) : Nat → Nat := zsum 0 (fun w => (μ w).toNat)
def hasW (A : Nat → Nat → Nat) (μ : Nat → Bool) (c : Nat) : Nat → Bool
  | 0 => false
  | w + 1 => hasW A μ c w || (μ w && A 16 w == c)
theorem nMu_le (μ : Nat → Bool) : ∀ N, nMu μ N ≤ N
  | 0 => Nat.le_refl _
  | N + 1 => by
    have := nMu_le μ N
    show nMu μ N + (μ N).toNat ≤ _
    cases μ N <;> simp <;> omega
/-- those of μ that answer trial k as the code c does -/
def nar (A : Nat → Nat → Nat) (μ : Nat → Bool) (c k : Nat) : Nat → Bool := fun w => μ w && (av A (k / 4) (k % 4) w == ansF A (k / 4) (k % 4) (sI c (k / 4)) 0)
/-- solving: how many trials (none: it does not come to that), and the seconds -/
def slF (A : Nat → Nat → Nat) (c N : Nat) : Nat → Nat → (Nat → Bool) → Nat → Option Nat × Nat
  | 0, _, _, took => (none, took)
  | r + 1, m, μ, took => if hasW A μ c N = false ∨ nMu μ N = 1 then (if hasW A μ c N then (some m, took) else (none, took)) else slF A c N r (m + 1) (nar A μ c (btF A μ N (4 * A 7 0 - 1)).1) (took + A 14 ((btF A μ N (4 * A 7 0 - 1)).1 % 4))
theorem nI_inj32 {x y : Nat} (hx : x < 2 ^ 32) (hy : y < 2 ^ 32) : nI x = nI y ↔ x = y := by
  constructor
  · intro h
    have := congrArg (fun z => z.toBitVec.toNat) h
    simp only [nI_bv, BitVec.toNat_ofNat] at this
    omega
  · intro h; rw [h]
def res (q : Option Nat × Nat) : Int32 := match q.1 with
  | none => -4
  | some m => nI m
theorem zsum_congr {f g : Nat → Nat} (b : Nat) : ∀ N, (∀ t, t < N → f t = g t) → zsum b f N = zsum b g N
  | 0, _ => rfl
  | N + 1, h => by
    show zsum b f N + f N = zsum b g N + g N
    rw [zsum_congr b N (fun t ht => h t (by omega)), h N (by omega)]
set_option maxHeartbeats 4000000 in
set_option maxRecDepth 100000 in
theorem c_solve {μ : Nat → Bool} {c : Nat} (hk : tR A) (h1 : 1 ≤ A 7 0) (h17 : I 17 ≤ 5040) (h60 : a60 A (I 17)) (h32 : ∀ w, w < I 17 → A 16 w < 2 ^ 32) (hc32 : c < 2 ^ 32) (hmu : ∀ w, w < I 17 → A 22 w = (μ w).toNat) : zPi G MX8_solve 5 [.ref a, .int (nI c)] (mH h0 a I A B) n (fun v h' => v = res (slF A c (I 17) 21 0 μ 0) ∧ ∃ e f g, h' = mH h0 a (va_up (va_up I 29 e) 32 (slF A c (I 17) 21 0 μ 0).2) (va_up (va_up A 22 f) 24 g) B) := by
  refine zCt.of rfl (Nat.le_of_ble_eq_true rfl) rfl ?_
  have k7 := hk.2.1
  have cb : ∀ (I' : Nat → Nat) (f g : Nat → Nat) (μ : Nat → Bool), I' 17 = I 17 → (∀ w, w < I 17 → f w = (μ w).toNat) → zPi G MX8_bestTrial 4 [.ref a] (mH h0 a I' (va_up (va_up A 22 f) 24 g) B) n (fun v h' => v = nI (btF A μ (I 17) (4 * A 7 0 - 1)).1 ∧ ∃ g', h' = mH h0 a (va_up I' 29 (btF A μ (I 17) (4 * A 7 0 - 1)).2) (va_up (va_up A 22 f) 24 g') B) := by
    intro I' f g μ hI hm
    have := c_bestTrial (G := G) (n := n) (h0 := h0) (a := a) (I := I') (B := B) (A := va_up (va_up A 22 f) 24 g) (μ := μ) (tR_up (by decide) (tR_up (by decide) hk)) h1 (by rw [hI]; exact h17) (by rw [hI]; exact a60_up (by decide) (a60_up (by decide) h60)) (by rw [hI]; exact hm)
    have e7 : (va_up (va_up A 22 f) 24 g) 7 0 = A 7 0 := rfl
    rw [hI, e7] at this
    simp only [btF_up (show 17 ≤ 22 by decide), btF_up (show 17 ≤ 24 by decide), up_up] at this
    exact this
  have ca : ∀ (I' : Nat → Nat) (f g : Nat → Nat) (k s : Nat), k < 4 * A 7 0 → s < 256 → zI G MX8_answerOf 2 [.ref a, .int (nI (k / 4)), .int (nI (k % 4)), .int (nI s), .int (nI 0)] (mH h0 a I' (va_up (va_up A 22 f) 24 g) B) n (nI (ansF A (k / 4) (k % 4) s 0)) := by
    intro I' f g k s hk4 hs
    have := c_answerOf (G := G) (n := n) (h0 := h0) (a := a) (I := I') (B := B) (A := va_up (va_up A 22 f) 24 g) (p := k / 4) (sort := k % 4) (s := s) (f := 0) (tR_up (by decide) (tR_up (by decide) hk)) (show k / 4 < A 7 0 by omega) (by omega) hs (by decide)
    rwa [ansF_up (by decide), ansF_up (by decide)] at this
  refine x_aload_n dX8_solve_0 rfl ?_
  refine x_iconst (v := nI 0) dX8_solve_1 (by decide) ?_
  refine m_put dX8_solve_2 flX8_258 ftX8_32 (by simp [mFs]) rfl ?_
  refine x_iconst (v := nI 0) dX8_solve_5 (by decide) ?_
  refine x_is2 dX8_solve_6 (by decide) rfl ?_
  refine x_eqI (I' := va_up (va_up I 29 (I 29)) 32 0) (by rw [up_self]) ?_
  refine x_eqA (A' := va_up (va_up A 22 (A 22)) 24 (A 24)) (by funext k j; simp only [va_up, ite_app]; grind) ?_
  have key : ∀ (r m : Nat) (μ : Nat → Bool) (took e : Nat) (f g : Nat → Nat) (o3 o4 o5 o6 o7 : Option Value), r + m = 21 → took ≤ 60 * m → (∀ w, w < I 17 → f w = (μ w).toNat) → zEx G MX8_solve 5 0 0 7 [some (.ref a), some (.int (nI c)), some (.int (nI m)), o3, o4, o5, o6, o7] [] (mH h0 a (va_up (va_up I 29 e) 32 took) (va_up (va_up A 22 f) 24 g) B) n (0, 0) (fun r1 h' n' => ∃ v, r1 = some (.int v) ∧ (v = res (slF A c (I 17) r m μ took) ∧ ∃ e f g, h' = mH h0 a (va_up (va_up I 29 e) 32 (slF A c (I 17) r m μ took).2) (va_up (va_up A 22 f) 24 g) B) ∧ n' = n) := by
    intro r
    induction r with
    | zero =>
      intro m μ took e f g o3 o4 o5 o6 o7 hrm htk hf
      refine x_iload_n dX8_solve_7 rfl ?_
      refine x_bipush (v := nI 20) dX8_solve_8 (by decide) ?_
      refine n_icmp_gt (tgt := 234) dX8_solve_10 (by decide) (by omega) (by omega) (fun hc => ?_) (fun hc => ?_)
      · refine x_bipush (v := -4) dX8_solve_234 (by decide) ?_
        refine x_iret dX8_solve_236 rfl rfl ⟨Nat.le_refl _, Nat.le_refl _⟩ ?_
        exact ⟨_, rfl, ⟨rfl, e, f, g, rfl⟩, rfl⟩
      · exact absurd hrm (by omega)
    | succ r ih =>
      intro m μ took e f g o3 o4 o5 o6 o7 hrm htk hf
      refine x_iload_n dX8_solve_7 rfl ?_
      refine x_bipush (v := nI 20) dX8_solve_8 (by decide) ?_
      refine n_icmp_gt (tgt := 234) dX8_solve_10 (by decide) (by omega) (by omega) (fun hc => ?_) (fun hc => ?_)
      · exact absurd hrm (by omega)
      · refine x_iconst (v := nI 0) dX8_solve_13 (by decide) ?_
        refine x_is3 dX8_solve_14 (by decide) rfl ?_
        refine x_iconst (v := nI 0) dX8_solve_15 (by decide) ?_
        refine x_is4 dX8_solve_16 (by decide) rfl ?_
        refine x_iconst (v := nI 0) dX8_solve_18 (by decide) ?_
        refine x_is5 dX8_solve_19 (by decide) rfl ?_
        have cl : ∀ w, w ≤ I 17 → zEx G MX8_solve 5 0 0 21 [some (.ref a), some (.int (nI c)), some (.int (nI m)), some (.int (nI (nMu μ w))), some (.int (nI (hasW A μ c w).toNat)), some (.int (nI w)), o6, o7] [] (mH h0 a (va_up (va_up I 29 e) 32 took) (va_up (va_up A 22 f) 24 g) B) n (0, 0) (fun r1 h' n' => ∃ v, r1 = some (.int v) ∧ (v = res (slF A c (I 17) (r + 1) m μ took) ∧ ∃ e f g, h' = mH h0 a (va_up (va_up I 29 e) 32 (slF A c (I 17) (r + 1) m μ took).2) (va_up (va_up A 22 f) 24 g) B) ∧ n' = n) := by
          refine z_up (I 17) ?_
          intro w hw ihw
          refine x_iload dX8_solve_21 rfl ?_
          refine x_aload_n dX8_solve_23 rfl ?_
          refine x_getf (v := .int (nI (I 17))) dX8_solve_24 flX8_172 mH_a rfl ?_
          refine n_icmp_ge (tgt := 87) dX8_solve_27 (by decide) (by omega) (by omega) (fun hc2 => ?_) (fun hc2 => ?_)
          · have hwe : w = I 17 := by omega
            subst hwe
            have hnm := nMu_le μ (I 17)
            have fin : hasW A μ c (I 17) = false ∨ nMu μ (I 17) = 1 → zEx G MX8_solve 5 0 0 97 [some (.ref a), some (.int (nI c)), some (.int (nI m)), some (.int (nI (nMu μ (I 17)))), some (.int (nI (hasW A μ c (I 17)).toNat)), some (.int (nI (I 17))), o6, o7] [] (mH h0 a (va_up (va_up I 29 e) 32 took) (va_up (va_up A 22 f) 24 g) B) n (0, 0) (fun r1 h' n' => ∃ v, r1 = some (.int v) ∧ (v = res (slF A c (I 17) (r + 1) m μ took) ∧ ∃ e f g, h' = mH h0 a (va_up (va_up I 29 e) 32 (slF A c (I 17) (r + 1) m μ took).2) (va_up (va_up A 22 f) 24 g) B) ∧ n' = n) := by
              intro hor
              have es : slF A c (I 17) (r + 1) m μ took = if hasW A μ c (I 17) then (some m, took) else (none, took) := by rw [slF, if_pos hor]
              rw [es]
              refine x_iload dX8_solve_97 rfl ?_
              refine b_if_eq (tgt := 106) dX8_solve_99 (by decide) (fun c3 => ?_) (fun c3 => ?_)
              · refine x_bipush (v := -4) dX8_solve_106 (by decide) ?_
                refine x_iret dX8_solve_108 rfl rfl ⟨Nat.le_refl _, Nat.le_refl _⟩ ?_
                rw [c3]
                exact ⟨_, rfl, ⟨rfl, e, f, g, rfl⟩, rfl⟩
              · refine x_iload_n dX8_solve_102 rfl ?_
                refine x_goto (tgt := 108) dX8_solve_103 (by decide) ?_
                refine x_iret dX8_solve_108 rfl rfl ⟨Nat.le_refl _, Nat.le_refl _⟩ ?_
                rw [c3]
                exact ⟨_, rfl, ⟨rfl, e, f, g, rfl⟩, rfl⟩
            refine x_iload dX8_solve_87 rfl ?_
            refine b_if_eq (tgt := 97) dX8_solve_89 (by decide) (fun c3 => ?_) (fun c3 => ?_)
            · exact fin (Or.inl c3)
            · refine x_iload_n dX8_solve_92 rfl ?_
              refine x_iconst (v := nI 1) dX8_solve_93 (by decide) ?_
              refine n_icmp_ne (tgt := 109) dX8_solve_94 (by decide) (by omega) (by omega) (fun c4 => ?_) (fun c4 => ?_)
              · have es : slF A c (I 17) (r + 1) m μ took = slF A c (I 17) r (m + 1) (nar A μ c (btF A μ (I 17) (4 * A 7 0 - 1)).1) (took + A 14 ((btF A μ (I 17) (4 * A 7 0 - 1)).1 % 4)) := by
                  rw [slF, if_neg (by rw [c3]; simp [c4])]
                rw [es]
                have hbk := (btF_le A μ (I 17) (4 * A 7 0 - 1)).1
                refine x_aload_n dX8_solve_109 rfl ?_
                refine x_cVI0 dX8_solve_110 lkX8_242 mdX8_bestTrial isX8_bestTrial rfl rfl mH_a (by decide) (cb (va_up (va_up I 29 e) 32 took) f g μ rfl hf) (Nat.le_of_ble_eq_true rfl) ⟨Nat.le_refl _, Nat.le_refl _⟩ ?_
                rintro v h' ⟨rfl, g', rfl⟩
                generalize hbe : btF A μ (I 17) (4 * A 7 0 - 1) = bb at hbk
                refine x_eqI (I' := va_up (va_up I 29 bb.2) 32 took) (by funext x; simp only [va_up]; grind) ?_
                have h14 := (hk.2.2.2.2.2.2 (bb.1 % 4) (by omega)).2
                refine x_is5 dX8_solve_113 (by decide) rfl ?_
                refine x_aload_n dX8_solve_115 rfl ?_
                refine x_iload dX8_solve_116 rfl ?_
                refine x_iconst (v := nI 4) dX8_solve_118 (by decide) ?_
                refine n_idiv dX8_solve_119 (by omega) (by omega) (by omega) ?_
                refine x_iload dX8_solve_120 rfl ?_
                refine x_iconst (v := nI 4) dX8_solve_122 (by decide) ?_
                refine n_irem dX8_solve_123 (by omega) (by omega) (by omega) ?_
                refine x_iload_n dX8_solve_124 rfl ?_
                refine x_iload dX8_solve_125 rfl ?_
                refine x_iconst (v := nI 4) dX8_solve_127 (by decide) ?_
                refine n_idiv dX8_solve_128 (by omega) (by omega) (by omega) ?_
                refine x_cSi2 dX8_solve_129 lkX8_192 mdX8_setIn stX8_setIn (by decide) (c_setIn _ (by omega)) (Nat.le_of_ble_eq_true rfl) ⟨Nat.le_refl _, Nat.le_refl _⟩ ?_
                refine x_iconst (v := nI 0) dX8_solve_132 (by decide) ?_
                refine x_cVi4 dX8_solve_133 lkX8_203 mdX8_answerOf isX8_answerOf rfl rfl mH_a (by decide) (ca _ f g' bb.1 _ (by omega) (sI_lt _ _)) (Nat.le_of_ble_eq_true rfl) ⟨Nat.le_refl _, Nat.le_refl _⟩ ?_
                refine x_is6 dX8_solve_136 (by decide) rfl ?_
                refine x_aload_n dX8_solve_138 rfl ?_
                refine x_dup dX8_solve_139 rfl ?_
                refine x_getf (v := .int (nI took)) dX8_solve_140 flX8_258 mH_a rfl ?_
                refine x_aload_n dX8_solve_143 rfl ?_
                refine x_getf dX8_solve_144 flX8_49 mH_a rfl ?_
                refine x_iload dX8_solve_147 rfl ?_
                refine x_iconst (v := nI 4) dX8_solve_149 (by decide) ?_
                refine n_irem dX8_solve_150 (by omega) (by omega) (by omega) ?_
                refine m_iald dX8_solve_151 rfl (by simp only [mLen]; omega) (by decide) ?_
                refine n_iadd dX8_solve_152 ?_
                refine m_put dX8_solve_153 flX8_258 ftX8_32 (by simp [mFs]) rfl ?_
                refine x_eqI (I' := va_up (va_up I 29 bb.2) 32 (took + A 14 (bb.1 % 4))) (up_up _ _ _ _) ?_
                refine x_iconst (v := nI 0) dX8_solve_156 (by decide) ?_
                refine x_is7 dX8_solve_157 (by decide) rfl ?_
                have nl : ∀ w, w ≤ I 17 → ∀ f : Nat → Nat, (∀ j, j < w → f j = (nar A μ c bb.1 j).toNat) → (∀ j, w ≤ j → j < I 17 → f j = (μ j).toNat) → zEx G MX8_solve 5 0 0 159 [some (.ref a), some (.int (nI c)), some (.int (nI m)), some (.int (nI (nMu μ (I 17)))), some (.int (nI (hasW A μ c (I 17)).toNat)), some (.int (nI bb.1)), some (.int (nI (ansF A (bb.1 / 4) (bb.1 % 4) (sI c (bb.1 / 4)) 0))), some (.int (nI w))] [] (mH h0 a (va_up (va_up I 29 bb.2) 32 (took + A 14 (bb.1 % 4))) (va_up (va_up A 22 f) 24 g') B) n (0, 0) (fun r1 h' n' => ∃ v, r1 = some (.int v) ∧ (v = res (slF A c (I 17) r (m + 1) (nar A μ c bb.1) (took + A 14 (bb.1 % 4))) ∧ ∃ e f g, h' = mH h0 a (va_up (va_up I 29 e) 32 (slF A c (I 17) r (m + 1) (nar A μ c bb.1) (took + A 14 (bb.1 % 4))).2) (va_up (va_up A 22 f) 24 g) B) ∧ n' = n) := by
                  refine z_up (I 17) ?_
                  intro w hw ihw f hf1 hf2
                  refine x_iload dX8_solve_159 rfl ?_
                  refine x_aload_n dX8_solve_161 rfl ?_
                  refine x_getf (v := .int (nI (I 17))) dX8_solve_162 flX8_172 mH_a rfl ?_
                  refine n_icmp_ge (tgt := 228) dX8_solve_165 (by decide) (by omega) (by omega) (fun hc5 => ?_) (fun hc5 => ?_)
                  · refine n_ii2 (w := 1) dX8_solve_228 (by decide) (by decide) rfl ?_
                    refine x_goto (tgt := 7) dX8_solve_231 (by decide) ?_
                    exact ih (m + 1) _ _ _ f g' _ _ _ _ _ (by omega) (by omega) (fun j hj => hf1 j (by omega))
                  · have hwl : w < I 17 := by omega
                    have e22 : (va_up (va_up A 22 f) 24 g') 22 w = (μ w).toNat := hf2 w (Nat.le_refl _) hwl
                    have hal := h60 w hwl (bb.1 / 4) (by omega) (bb.1 % 4) (by omega)
                    have hac := ansF_lt (sort := bb.1 % 4) (f := 0) hk (show bb.1 / 4 < A 7 0 by omega) (sI_lt c (bb.1 / 4)) (by decide)
                    have K221 : ∀ b : Bool, b = nar A μ c bb.1 w → zEx G MX8_solve 5 0 0 221 [some (.ref a), some (.int (nI c)), some (.int (nI m)), some (.int (nI (nMu μ (I 17)))), some (.int (nI (hasW A μ c (I 17)).toNat)), some (.int (nI bb.1)), some (.int (nI (ansF A (bb.1 / 4) (bb.1 % 4) (sI c (bb.1 / 4)) 0))), some (.int (nI w))] [.int (nI b.toNat), .int (nI w), .ref (a + 22)] (mH h0 a (va_up (va_up I 29 bb.2) 32 (took + A 14 (bb.1 % 4))) (va_up (va_up A 22 f) 24 g') B) n (0, 0) (fun r1 h' n' => ∃ v, r1 = some (.int v) ∧ (v = res (slF A c (I 17) r (m + 1) (nar A μ c bb.1) (took + A 14 (bb.1 % 4))) ∧ ∃ e f g, h' = mH h0 a (va_up (va_up I 29 e) 32 (slF A c (I 17) r (m + 1) (nar A μ c bb.1) (took + A 14 (bb.1 % 4))).2) (va_up (va_up A 22 f) 24 g) B) ∧ n' = n) := by
                      intro b hb
                      subst hb
                      refine m_zast dX8_solve_221 rfl (by simp only [mLen]; omega) (by decide) ?_
                      refine x_eqA (A' := va_up (va_up A 22 (va_up f w (nar A μ c bb.1 w).toNat)) 24 g') (by funext k j; simp only [va_up, ite_app]; grind) ?_
                      refine n_ii7 (w := 1) dX8_solve_222 (by decide) (by decide) rfl ?_
                      refine x_goto (tgt := 159) dX8_solve_225 (by decide) ?_
                      refine ihw hwl _ (fun j hj => ?_) (fun j hj hj2 => ?_)
                      · unfold va_up
                        by_cases hj2 : j = w
                        · rw [if_pos hj2, hj2]
                        · rw [if_neg hj2]; exact hf1 j (by omega)
                      · rw [up_ne _ _ (by omega)]; exact hf2 j (by omega) hj2
                    refine x_aload_n dX8_solve_168 rfl ?_
                    refine x_getf dX8_solve_169 flX8_73 mH_a rfl ?_
                    refine x_iload dX8_solve_172 rfl ?_
                    refine x_aload_n dX8_solve_174 rfl ?_
                    refine x_getf dX8_solve_175 flX8_73 mH_a rfl ?_
                    refine x_iload dX8_solve_178 rfl ?_
                    refine m_zald dX8_solve_180 rfl (by simp only [mLen]; omega) (by decide) ?_
                    rw [e22]
                    refine b_if_eq (tgt := 220) dX8_solve_181 (by decide) (fun c6 => ?_) (fun c6 => ?_)
                    · refine x_iconst (v := nI 0) dX8_solve_220 (by decide) ?_
                      exact K221 false (by unfold nar; rw [c6]; rfl)
                    · refine x_aload_n dX8_solve_184 rfl ?_
                      refine x_iload dX8_solve_185 rfl ?_
                      refine x_iconst (v := nI 4) dX8_solve_187 (by decide) ?_
                      refine n_idiv dX8_solve_188 (by omega) (by omega) (by omega) ?_
                      refine x_iload dX8_solve_189 rfl ?_
                      refine x_iconst (v := nI 4) dX8_solve_191 (by decide) ?_
                      refine n_irem dX8_solve_192 (by omega) (by omega) (by omega) ?_
                      refine x_aload_n dX8_solve_193 rfl ?_
                      refine x_getf dX8_solve_194 flX8_55 mH_a rfl ?_
                      refine x_iload dX8_solve_197 rfl ?_
                      refine m_iald dX8_solve_199 rfl (by simp only [mLen]; omega) (by decide) ?_
                      refine x_iload dX8_solve_200 rfl ?_
                      refine x_iconst (v := nI 4) dX8_solve_202 (by decide) ?_
                      refine n_idiv dX8_solve_203 (by omega) (by omega) (by omega) ?_
                      refine x_cSi2 dX8_solve_204 lkX8_192 mdX8_setIn stX8_setIn (by decide) (c_setIn _ (by omega)) (Nat.le_of_ble_eq_true rfl) ⟨Nat.le_refl _, Nat.le_refl _⟩ ?_
                      refine x_iconst (v := nI 0) dX8_solve_207 (by decide) ?_
                      refine x_cVi4 dX8_solve_208 lkX8_203 mdX8_answerOf isX8_answerOf rfl rfl mH_a (by decide) (ca _ f g' bb.1 _ (by omega) (sI_lt _ _)) (Nat.le_of_ble_eq_true rfl) ⟨Nat.le_refl _, Nat.le_refl _⟩ ?_
                      refine x_iload dX8_solve_211 rfl ?_
                      refine n_icmp_ne (x := av A (bb.1 / 4) (bb.1 % 4) w) (tgt := 220) dX8_solve_213 (by decide) (by omega) (by omega) (fun c7 => ?_) (fun c7 => ?_)
                      · refine x_iconst (v := nI 0) dX8_solve_220 (by decide) ?_
                        exact K221 false (by unfold nar; rw [c6, beq_eq_false_iff_ne.mpr c7]; rfl)
                      · refine x_iconst (v := nI 1) dX8_solve_216 (by decide) ?_
                        refine x_goto (tgt := 221) dX8_solve_217 (by decide) ?_
                        exact K221 true (by unfold nar; rw [c6, c7, beq_self_eq_true]; rfl)
                exact nl 0 (Nat.zero_le _) f (fun j hj => absurd hj (Nat.not_lt_zero _)) (fun j _ hj => hf j hj)
              · exact fin (Or.inr c4)
          · have hwl : w < I 17 := by omega
            have e22 : (va_up (va_up A 22 f) 24 g) 22 w = (μ w).toNat := hf w hwl
            have ih9 := ihw hwl
            have en : nMu μ (w + 1) = nMu μ w + (μ w).toNat := rfl
            rw [en, hasW] at ih9
            refine x_iload_n dX8_solve_30 rfl ?_
            refine x_aload_n dX8_solve_31 rfl ?_
            refine x_getf dX8_solve_32 flX8_73 mH_a rfl ?_
            refine x_iload dX8_solve_35 rfl ?_
            refine m_zald dX8_solve_37 rfl (by simp only [mLen]; omega) (by decide) ?_
            rw [e22]
            refine b_if_eq (tgt := 45) dX8_solve_38 (by decide) (fun c3 => ?_) (fun c3 => ?_)
            · rw [c3] at ih9
              refine x_iconst (v := nI 0) dX8_solve_45 (by decide) ?_
              refine n_iadd dX8_solve_46 ?_
              refine x_is3 dX8_solve_47 (by decide) rfl ?_
              refine x_iload dX8_solve_48 rfl ?_
              refine b_if_ne (b := hasW A μ c w) (tgt := 74) dX8_solve_50 (by decide) (fun c4 => ?_) (fun c4 => ?_)
              · refine x_iconst (v := nI 1) dX8_solve_74 (by decide) ?_
                refine x_goto (tgt := 79) dX8_solve_75 (by decide) ?_
                refine x_is4 dX8_solve_79 (by decide) rfl ?_
                refine n_ii5 (w := 1) dX8_solve_81 (by decide) (by decide) rfl ?_
                refine x_goto (tgt := 21) dX8_solve_84 (by decide) ?_
                rw [c4] at ih9
                exact ih9
              · refine x_aload_n dX8_solve_53 rfl ?_
                refine x_getf dX8_solve_54 flX8_73 mH_a rfl ?_
                refine x_iload dX8_solve_57 rfl ?_
                refine m_zald dX8_solve_59 rfl (by simp only [mLen]; omega) (by decide) ?_
                rw [e22]
                refine b_if_eq (b := μ w) (tgt := 78) dX8_solve_60 (by decide) (fun c5 => ?_) (fun c5 => by rw [c3] at c5; cases c5)
                refine x_iconst (v := nI 0) dX8_solve_78 (by decide) ?_
                refine x_is4 dX8_solve_79 (by decide) rfl ?_
                refine n_ii5 (w := 1) dX8_solve_81 (by decide) (by decide) rfl ?_
                refine x_goto (tgt := 21) dX8_solve_84 (by decide) ?_
                rw [c4] at ih9
                exact ih9
            · rw [c3] at ih9
              refine x_iconst (v := nI 1) dX8_solve_41 (by decide) ?_
              refine x_goto (tgt := 46) dX8_solve_42 (by decide) ?_
              refine n_iadd dX8_solve_46 ?_
              refine x_is3 dX8_solve_47 (by decide) rfl ?_
              refine x_iload dX8_solve_48 rfl ?_
              refine b_if_ne (b := hasW A μ c w) (tgt := 74) dX8_solve_50 (by decide) (fun c4 => ?_) (fun c4 => ?_)
              · refine x_iconst (v := nI 1) dX8_solve_74 (by decide) ?_
                refine x_goto (tgt := 79) dX8_solve_75 (by decide) ?_
                refine x_is4 dX8_solve_79 (by decide) rfl ?_
                refine n_ii5 (w := 1) dX8_solve_81 (by decide) (by decide) rfl ?_
                refine x_goto (tgt := 21) dX8_solve_84 (by decide) ?_
                rw [c4] at ih9
                exact ih9
              · refine x_aload_n dX8_solve_53 rfl ?_
                refine x_getf dX8_solve_54 flX8_73 mH_a rfl ?_
                refine x_iload dX8_solve_57 rfl ?_
                refine m_zald dX8_solve_59 rfl (by simp only [mLen]; omega) (by decide) ?_
                rw [e22]
                refine b_if_eq (b := μ w) (tgt := 78) dX8_solve_60 (by decide) (fun c5 => by rw [c3] at c5; cases c5) (fun c5 => ?_)
                refine x_aload_n dX8_solve_63 rfl ?_
                refine x_getf dX8_solve_64 flX8_55 mH_a rfl ?_
                refine x_iload dX8_solve_67 rfl ?_
                refine m_iald dX8_solve_69 rfl (by simp only [mLen]; omega) (by decide) ?_
                refine x_iload_n dX8_solve_70 rfl ?_
                have e16 : (va_up (va_up A 22 f) 24 g) 16 w = A 16 w := rfl
                rw [e16]
                refine x_icmp_ne (tgt := 78) dX8_solve_71 (by decide) (fun c6 => ?_) (fun c6 => ?_)
                · have c6 : (A 16 w == c) = false := beq_eq_false_iff_ne.mpr (fun q => c6 (by rw [q]))
                  refine x_iconst (v := nI 0) dX8_solve_78 (by decide) ?_
                  refine x_is4 dX8_solve_79 (by decide) rfl ?_
                  refine n_ii5 (w := 1) dX8_solve_81 (by decide) (by decide) rfl ?_
                  refine x_goto (tgt := 21) dX8_solve_84 (by decide) ?_
                  rw [c4, c6] at ih9
                  exact ih9
                · have c6 : (A 16 w == c) = true := by rw [(nI_inj32 (h32 w hwl) hc32).mp c6]; exact beq_self_eq_true c
                  refine x_iconst (v := nI 1) dX8_solve_74 (by decide) ?_
                  refine x_goto (tgt := 79) dX8_solve_75 (by decide) ?_
                  refine x_is4 dX8_solve_79 (by decide) rfl ?_
                  refine n_ii5 (w := 1) dX8_solve_81 (by decide) (by decide) rfl ?_
                  refine x_goto (tgt := 21) dX8_solve_84 (by decide) ?_
                  rw [c4, c6] at ih9
                  exact ih9
        exact cl 0 (Nat.zero_le _)
  exact key 21 0 μ 0 (I 29) (A 22) (A 24) _ _ _ _ _ rfl (by decide) hmu
end ZM18
