section ZK9
variable {G : zG} {n : Nat} {h0 : zF} {L : zSh} {V : Nat → Nat → Nat} {c : Nat} {P J I : Nat → Nat} {X A : Nat → Nat → Nat} {S : Nat → Nat}
theorem sI_xor (a b r : Nat) : sI (a ^^^ b) r = sI a r ^^^ sI b r := by
  apply Nat.eq_of_testBit_eq
  intro i
  unfold sI
  rw [show (256 : Nat) = 2 ^ 8 from rfl]
  rw [Nat.testBit_xor, Nat.testBit_mod_two_pow, Nat.testBit_mod_two_pow, Nat.testBit_mod_two_pow, Nat.testBit_div_two_pow, Nat.testBit_div_two_pow, Nat.testBit_div_two_pow, Nat.testBit_xor]
  cases decide (i < 8) <;> simp
theorem sI_sh : ∀ p, p < 4 → ∀ r, r < 4 → ∀ d, d < 256 → sI (d * 2 ^ (8 * p)) r = if r = p then d else 0 := by decide +kernel
theorem xor_l (a b : Nat) : a ^^^ (a ^^^ b) = b := by rw [← Nat.xor_assoc, Nat.xor_self, Nat.zero_xor]
theorem xor_r (a b : Nat) : b ^^^ (a ^^^ b) = a := by rw [Nat.xor_comm a b, ← Nat.xor_assoc, Nat.xor_self, Nat.zero_xor]
theorem chS_p (S : Nat → Nat) (p q : Nat) : chS S p q p = S q := by unfold chS; rw [if_pos rfl, xor_l]
theorem chS_q {p q : Nat} (h : p ≠ q) : chS S p q q = S p := by unfold chS; rw [if_neg (Ne.symm h), if_pos rfl, xor_r]
theorem chS_o {p q r : Nat} (h1 : r ≠ p) (h2 : r ≠ q) : chS S p q r = S r := by unfold chS; rw [if_neg h1, if_neg h2]
theorem chW_sI {p q r : Nat} (hS : ∀ r, r < 4 → sI (trC S) r = S r) (hl : ∀ r, r < 4 → S r < 256) (hp : p < 4) (hq : q < 4) (hn : p ≠ q) (hr : r < 4) : sI (chW S p q) r = chS S p q r := by
  have hD : S p ^^^ S q < 256 := Nat.xor_lt_two_pow (n := 8) (hl p hp) (hl q hq)
  unfold chW
  rw [sI_xor, sI_xor, hS r hr, sI_sh p hp r hr _ hD, sI_sh q hq r hr _ hD]
  by_cases e1 : r = p
  · subst e1
    rw [if_pos rfl, if_neg hn, Nat.xor_zero, xor_l, chS_p]
  · by_cases e2 : r = q
    · subst e2
      rw [if_neg e1, if_pos rfl, Nat.xor_zero, xor_r, chS_q hn]
    · rw [if_neg e1, if_neg e2, Nat.xor_zero, Nat.xor_zero, chS_o e1 e2]
theorem chW_lt {p q : Nat} (ht : trC S < 2 ^ 32) (hl : ∀ r, r < 4 → S r < 256) (hp : p < 4) (hq : q < 4) : chW S p q < 2 ^ 32 := by
  have hD : S p ^^^ S q < 256 := Nat.xor_lt_two_pow (n := 8) (hl p hp) (hl q hq)
  have hs : ∀ r, r < 4 → (S p ^^^ S q) * 2 ^ (8 * r) < 2 ^ 32 := by
    intro r hr
    have h1 : 2 ^ (8 * r) ≤ 2 ^ 24 := Nat.pow_le_pow_right (by decide) (by omega)
    have h2 : (S p ^^^ S q) * 2 ^ (8 * r) ≤ 255 * 2 ^ 24 := Nat.mul_le_mul (by omega) h1
    omega
  exact Nat.xor_lt_two_pow (Nat.xor_lt_two_pow ht (hs p hp)) (hs q hq)
theorem scOK_ch {p q : Nat} (h : scOK A S) (h7 : A 7 0 ≤ 4) (hp : p < A 7 0) (hq : q < A 7 0) (hn : p ≠ q) (hs : A 10 p = A 10 q) : scOK A (chS S p q) := by
  obtain ⟨⟨a1, a2⟩, a3, a4, a5, a6⟩ := h
  have hbig : ∀ k, 4 ≤ k → chS S p q k = S k := fun k hk => chS_o (by omega) (by omega)
  refine ⟨⟨by rw [hbig 8 (by omega)]; exact a1, fun k hk => ?_⟩, fun r hr => ?_, fun r u hr hu hru => ?_, fun r h1 h2 => ?_, fun r hr => ?_⟩
  · rw [hbig 8 (by omega)] at hk
    rw [hbig _ (by omega)]; exact a2 k hk
  · by_cases e1 : r = p
    · subst e1; rw [chS_p]; exact ⟨(a3 q hq).1, by rw [(a3 q hq).2, hs]⟩
    · by_cases e2 : r = q
      · subst e2; rw [chS_q hn]; exact ⟨(a3 p hp).1, by rw [(a3 p hp).2, hs]⟩
      · rw [chS_o e1 e2]; exact a3 r hr
  · by_cases e1 : r = p
    · subst e1
      rw [chS_p]
      by_cases e2 : u = q
      · subst e2; rw [chS_q hn]; exact a4 u r hu hr (Ne.symm hru)
      · rw [chS_o (Ne.symm hru) e2]; exact a4 q u hq hu (Ne.symm e2)
    · by_cases e3 : r = q
      · subst e3
        rw [chS_q hn]
        by_cases e2 : u = p
        · subst e2; rw [chS_p]; exact a4 u r hu hr (Ne.symm hru)
        · rw [chS_o e2 (Ne.symm hru)]; exact a4 p u hp hu (Ne.symm e2)
      · rw [chS_o e1 e3]
        by_cases e2 : u = p
        · subst e2; rw [chS_p]; exact a4 r q hr hq e3
        · by_cases e4 : u = q
          · subst e4; rw [chS_q hn]; exact a4 r p hr hp e1
          · rw [chS_o e2 e4]; exact a4 r u hr hu hru
  · rw [chS_o (by omega) (by omega)]; exact a5 r h1 h2
  · rw [hbig _ (by omega)]; exact a6 r hr
theorem wIs_of {w : Nat} {T : zT} : ∀ Q, (∀ p, p < Q → pop (sI w p) = T 10 p) → (∀ p q, p < Q → q < Q → p ≠ q → sI w p &&& sI w q = 0) → wIs T w Q = true
  | 0, _, _ => rfl
  | Q + 1, h1, h2 => by
    unfold wIs
    rw [wIs_of Q (fun p hp => h1 p (by omega)) (fun p q hp hq hn => h2 p q (by omega) (by omega) hn), decide_eq_true (h1 Q (by omega)), decide_eq_true ((au_dj Q).mpr (fun p hp => h2 Q p (by omega) (by omega) (by omega)))]
    rfl
set_option maxRecDepth 100000 in
theorem k_change {x y : Int32} (hL : kL L c P) (hT : ∀ V, zTr (gH h0 L V) (P 0) J X) (hV : kV V c P J X I A) : zPi G MX7_change 4 [.ref c, .int x, .int y] (gH h0 L V) n (fun v h' => ∃ I' A', rCh I A x y v I' A' ∧ kPo h0 L c P J X I' A' h') := by
  refine zCt.of rfl (Nat.le_of_ble_eq_true rfl) rfl ?_
  have hR := hV.2.1
  have k7 := hR.2.1.2.1
  have k2 := hR.2.1.1
  have hpow : 2 ^ A 2 0 ≤ 256 := (Nat.pow_le_pow_right (by decide) k2 : 2 ^ A 2 0 ≤ 2 ^ 8)
  have hS : zSc L (c + 44) := hL.2.2.2.2.2.2.1
  have hz := hL.2.2.2.2.2.2.2.1
  have hU := hV.2.2.2.2.1
  have hN := hV.2.2.2.1
  have up := un_push hL hU
  have hI0 := tI_vw.mpr hR.1
  have hk0 := tR_vw.mpr hR.2.1
  have etr := hN.1.tr
  have hsI : ∀ r, r < 4 → sI (trC (A 17)) r = A 17 r := fun r hr => by rw [← etr]; exact (hN.1.2.1 r hr).1
  have hsl : ∀ r, r < 4 → A 17 r < 256 := fun r hr => by rw [← hsI r hr]; exact sI_lt _ _
  have hno : (bR x (A 7 0) = false ∨ bR y (A 7 0) = false ∨ x = y) → zEx G MX7_change 4 0 0 21 [some (.ref c), some (.int x), some (.int y), none] [] (gH h0 L V) n (0, 0) (fun r h' n' => ∃ v, r = some (.int v) ∧ (∃ I' A', rCh I A x y v I' A' ∧ kPo h0 L c P J X I' A' h') ∧ n' = n) := by
    intro hc
    refine x_iconst (v := -1) dX7_change_21 (by decide) ?_
    refine x_iret dX7_change_22 rfl rfl ⟨Nat.le_refl _, Nat.le_refl _⟩ ?_
    exact ⟨_, rfl, ⟨I, A, Or.inl ⟨hc, rfl, rfl, rfl⟩, V, rfl, hV⟩, rfl⟩
  refine x_aload_n dX7_change_0 rfl ?_
  refine x_iload_n dX7_change_1 rfl ?_
  refine x_cVi1 dX7_change_2 lkX7_139 mdX7_isParcel isX7_isParcel rfl rfl (g_c (And.left hL)) (by decide) (k_isParcel hL hT hR) (Nat.le_of_ble_eq_true rfl) ⟨Nat.le_refl _, Nat.le_refl _⟩ ?_
  refine b_if_eq (tgt := 21) dX7_change_5 (by decide) (fun c1 => ?_) (fun c1 => ?_)
  · exact hno (Or.inl c1)
  · refine x_aload_n dX7_change_8 rfl ?_
    refine x_iload_n dX7_change_9 rfl ?_
    refine x_cVi1 dX7_change_10 lkX7_139 mdX7_isParcel isX7_isParcel rfl rfl (g_c (And.left hL)) (by decide) (k_isParcel hL hT hR) (Nat.le_of_ble_eq_true rfl) ⟨Nat.le_refl _, Nat.le_refl _⟩ ?_
    refine b_if_eq (tgt := 21) dX7_change_13 (by decide) (fun c2 => ?_) (fun c2 => ?_)
    · exact hno (Or.inr (Or.inl c2))
    · refine x_iload_n dX7_change_16 rfl ?_
      refine x_iload_n dX7_change_17 rfl ?_
      refine x_icmp_ne (tgt := 23) dX7_change_18 (by decide) (fun c3 => ?_) (fun c3 => ?_)
      · have hnb : ¬ (bR x (A 7 0) = false ∨ bR y (A 7 0) = false ∨ x = y) := by
          rintro (z | z | z)
          · rw [c1] at z; cases z
          · rw [c2] at z; cases z
          · exact c3 z
        obtain ⟨p, hp, rfl⟩ := inR_of (bR_true.mp c1) (by omega)
        obtain ⟨q, hq, rfl⟩ := inR_of (bR_true.mp c2) (by omega)
        have hpq : p ≠ q := fun z => c3 (by rw [z])
        have csw := c_swapped (G := G) (n := n) (h := gH h0 L V) (w := trC (A 17)) (p := p) (q := q) (by omega) (by omega)
        rw [hsI p (by omega), hsI q (by omega)] at csw
        have csw : zI G MX7_swapped 1 [.int (nI (trC (A 17))), .int (nI p), .int (nI q)] (gH h0 L V) n (nI (chW (A 17) p q)) := csw
        have hcs := fun r (hr : r < 4) => chW_sI (p := p) (q := q) hsI hsl (by omega) (by omega) hpq hr
        have hcl := chW_lt (p := p) (q := q) (by rw [← etr]; exact hN.1.1) hsl (by omega) (by omega)
        have e11p := (hR.1.2.2.1 p hp).2.2
        have e11q := (hR.1.2.2.1 q hq).2.2
        have b10p := (hR.2.1.2.2.2.1 p hp).2.2
        have b10q := (hR.2.1.2.2.2.1 q hq).2.2
        have K72 : ¬ (A 10 p = A 10 q ∧ fairT (vw A 0) (chW (A 17) p q) = true) → zEx G MX7_change 4 0 0 72 [some (.ref c), some (.int (nI p)), some (.int (nI q)), some (.int (nI (chW (A 17) p q)))] [] (gH h0 L V) n (0, 0) (fun r h' n' => ∃ v, r = some (.int v) ∧ (∃ I' A', rCh I A (nI p) (nI q) v I' A' ∧ kPo h0 L c P J X I' A' h') ∧ n' = n) := by
          intro hc
          refine x_bipush (v := -2) dX7_change_72 (by decide) ?_
          refine x_iret dX7_change_74 rfl rfl ⟨Nat.le_refl _, Nat.le_refl _⟩ ?_
          exact ⟨_, rfl, ⟨I, A, Or.inr ⟨hnb, p, q, ⟨hp, hq, hpq⟩, ⟨rfl, rfl⟩, Or.inl ⟨hc, rfl, rfl, rfl⟩⟩, V, rfl, hV⟩, rfl⟩
        refine x_aload_n dX7_change_23 rfl ?_
        refine x_getf dX7_change_24 flX7_49 (g_c (And.left hL)) rfl ?_
        refine x_getf dX7_change_27 flX7_151 (g_c hS.1) rfl ?_
        rw [etr]
        refine x_iload_n dX7_change_30 rfl ?_
        refine x_iload_n dX7_change_31 rfl ?_
        refine x_cSi3 dX7_change_32 lkX7_188 mdX7_swapped stX7_swapped (by decide) (csw) (Nat.le_of_ble_eq_true rfl) ⟨Nat.le_refl _, Nat.le_refl _⟩ ?_
        refine x_is3 dX7_change_35 (by decide) rfl ?_
        refine x_aload_n dX7_change_36 rfl ?_
        refine x_getf dX7_change_37 flX7_19 (g_c (And.left hL)) rfl ?_
        refine x_getf dX7_change_40 flX7_148 (And.left (hT _)) rfl ?_
        refine x_iload_n dX7_change_43 rfl ?_
        refine x_cSi2 dX7_change_44 lkX7_122 mdX7_at stX7_at (by decide) (c_atN ((hT _).2.2 11 (by decide) (by decide)) (by decide) (by simp only [tLen]; omega)) (Nat.le_of_ble_eq_true rfl) ⟨Nat.le_refl _, Nat.le_refl _⟩ ?_
        rw [e11p]
        refine x_aload_n dX7_change_47 rfl ?_
        refine x_getf dX7_change_48 flX7_19 (g_c (And.left hL)) rfl ?_
        refine x_getf dX7_change_51 flX7_148 (And.left (hT _)) rfl ?_
        refine x_iload_n dX7_change_54 rfl ?_
        refine x_cSi2 dX7_change_55 lkX7_122 mdX7_at stX7_at (by decide) (c_atN ((hT _).2.2 11 (by decide) (by decide)) (by decide) (by simp only [tLen]; omega)) (Nat.le_of_ble_eq_true rfl) ⟨Nat.le_refl _, Nat.le_refl _⟩ ?_
        rw [e11q]
        refine n_icmp_ne (tgt := 72) dX7_change_58 (by decide) (by omega) (by omega) (fun c4 => ?_) (fun c4 => ?_)
        · exact K72 (fun z => c4 z.1)
        · have hsc := scOK_ch hN.2 k7 hp hq hpq c4
          have hwt : ∀ r, r < vw A 0 7 0 → sI (chW (A 17) p q) r < 2 ^ vw A 0 2 0 := by
            rw [vw0 (k := 7) (by decide) (by decide), vw0 (k := 2) (by decide) (by decide)]
            intro r hr
            rw [hcs r (by omega)]; exact (hsc.2.1 r hr).1
          have eW : isW (vw A 0) (chW (A 17) p q) = fairT (vw A 0) (chW (A 17) p q) := by
            unfold isW
            rw [wIs_of (T := vw A 0) (w := chW (A 17) p q) (vw A 0 7 0)]
            · rfl
            · rw [vw0 (k := 7) (by decide) (by decide), vw0 (k := 10) (by decide) (by decide)]
              intro r hr
              rw [hcs r (by omega)]; exact (hsc.2.1 r hr).2
            · rw [vw0 (k := 7) (by decide) (by decide)]
              intro r u hr hu hru
              rw [hcs r (by omega), hcs u (by omega)]; exact hsc.2.2.1 r u hr hu hru
          refine x_aload_n dX7_change_61 rfl ?_
          refine x_getf dX7_change_62 flX7_19 (g_c (And.left hL)) rfl ?_
          refine x_iload_n dX7_change_65 rfl ?_
          refine x_cVi1 dX7_change_66 lkX7_192 mdX5_isWorld isX5_isWorld rfl rfl (And.left (hT _)) (by decide) (c_isWorld (hT _) hI0 hk0 hwt) (Nat.le_of_ble_eq_true rfl) ⟨Nat.le_refl _, Nat.le_refl _⟩ ?_
          rw [eW]
          refine b_if_ne (tgt := 75) dX7_change_69 (by decide) (fun c5 => ?_) (fun c5 => ?_)
          · refine x_aload_n dX7_change_75 rfl ?_
            refine x_getf dX7_change_76 flX7_58 (g_c (And.left hL)) rfl ?_
            refine x_aload_n dX7_change_79 rfl ?_
            refine x_getf dX7_change_80 flX7_49 (g_c (And.left hL)) rfl ?_
            refine x_cVV1 dX7_change_83 lkX7_195 mdX2_push isX2_push rfl rfl (g_c hz.1) (by decide) (c_push hz.1 hz.2.1 (by decide) (by decide) up.1 (kUn_sc hL hU) hS up.2) (Nat.le_of_ble_eq_true rfl) ⟨Nat.le_refl _, Nat.le_refl _⟩ ?_
            rintro h' ⟨V1, rfl, f1, f2, f3, f4⟩
            obtain ⟨q1, q2⟩ := kUn_push hU hN k7 f1 f2 f3 f4
            clear f1 f2 f3 f4
            have e44 : ∀ b, c + 44 ≤ b → b < c + 48 → V1 b = V b := fun b h1 h2 => q1 b (by omega)
            refine x_aload_n dX7_change_86 rfl ?_
            refine x_getf dX7_change_87 flX7_49 (g_c (And.left hL)) rfl ?_
            refine x_iload_n dX7_change_90 rfl ?_
            refine g_put dX7_change_91 flX7_151 ftX1_0 hS.1 (Nat.le_of_ble_eq_true rfl) rfl ?_
            refine x_iload_n dX7_change_94 rfl ?_
            refine x_iload_n dX7_change_95 rfl ?_
            refine x_cSi2 dX7_change_96 lkX7_154 mdX7_inside stX7_inside (by decide) (c_inside _ (by omega)) (Nat.le_of_ble_eq_true rfl) ⟨Nat.le_refl _, Nat.le_refl _⟩ ?_
            refine x_iret dX7_change_99 rfl rfl ⟨Nat.le_refl _, Nat.le_refl _⟩ ?_
            have w1 : ∀ b, b ≠ c + 44 → (va_up V1 (c + 44) (va_up (V1 (c + 44)) 0 (chW (A 17) p q))) b = V1 b := fun b hb => up_ne _ _ hb
            refine ⟨_, rfl, ⟨_, _, Or.inr ⟨hnb, p, q, ⟨hp, hq, hpq⟩, ⟨rfl, rfl⟩, Or.inr ⟨⟨c4, c5⟩, by rw [hcs p (by omega)], rfl, rfl⟩⟩, _, rfl, ?_⟩, rfl⟩
            have hbig : ∀ k, 4 ≤ k → chS (A 17) p q k = A 17 k := fun k hk => chS_o (by omega) (by omega)
            refine kV.nt hL hV ?_ ?_ ⟨?_, ?_⟩ ?_
            · intro b hb hbc; rw [w1 b (by omega), q1 b (by omega)]
            · exact q2.fr (fun b h1 h2 => by rw [w1 b (by omega)])
            · rw [up_eq (va_up A 18 _)]
              obtain ⟨a1, a2, a3, a4⟩ := hN.1
              refine ⟨?_, ?_, ?_, ?_⟩
              · rw [up_eq, up_eq]; exact hcl
              · intro p' hp'
                rw [up_eq, up_eq, w1 _ (by omega), e44 _ (by omega) (by omega), hbig (4 + p') (by omega)]
                exact ⟨hcs p' hp', (a2 p' hp').2⟩
              · rw [up_eq, up_ne _ _ (by decide), e44 _ (by omega) (by omega), hbig _ (by omega)]; exact a3
              · intro k hk
                rw [hbig _ (by omega)] at hk
                rw [w1 _ (by omega), w1 _ (by omega), e44 _ (by omega) (by omega), e44 _ (by omega) (by omega), hbig _ (by omega)]
                exact a4 k hk
            · rw [up_eq]
              exact ((rwE_up (by decide)).tr (rwE_up (by decide))).sc hsc
            · refine (hV.2.2.2.2.2.2.now (I' := va_up I 20 (ntU (I 20))) ((rwE_up (k := 18) (by decide)).tr (rwE_up (k := 17) (by decide))) ?_ ?_ rfl rfl).fr2 hL ?_
              · rw [up_eq, hbig _ (by omega)]
              · intro j; rw [up_eq, hbig _ (by omega)]
              · intro b hb; rw [w1 b (by omega), q1 b (by omega)]
          · exact K72 (fun z => by rw [z.2] at c5; cases c5)
      · exact hno (Or.inr (Or.inr c3))
set_option maxRecDepth 100000 in
theorem k_undo (hL : kL L c P) (hV : kV V c P J X I A) : zPi G MX7_undo 3 [.ref c] (gH h0 L V) n (fun v h' => ∃ I' A', rUd I A v I' A' ∧ kPo h0 L c P J X I' A' h') := by
  refine zCt.of rfl (Nat.le_of_ble_eq_true rfl) rfl ?_
  have hR := hV.2.1
  have k7 := hR.2.1.2.1
  have hP := hL.2.2.2.2.2.2.2.2.2.2.2.2.1
  have hS : zSc L (c + 44) := hL.2.2.2.2.2.2.1
  have hz := hL.2.2.2.2.2.2.2.1
  have hU := hV.2.2.2.2.1
  have up := un_push hL hU
  refine x_aload_n dX7_undo_0 rfl ?_
  refine x_getf dX7_undo_1 flX7_58 (g_c (And.left hL)) rfl ?_
  refine x_aload_n dX7_undo_4 rfl ?_
  refine x_getf dX7_undo_5 flX7_49 (g_c (And.left hL)) rfl ?_
  refine x_cVI1 dX7_undo_8 lkX7_203 mdX2_popInto isX2_popInto rfl rfl (g_c hz.1) (by decide) (c_pop hz.1 hz.2.1 (by decide) up.1 (kUn_sc hL hU) hS (fun j hj => (up.2 j hj).symm) (by omega) (by omega)) (Nat.le_of_ble_eq_true rfl) ⟨Nat.le_refl _, Nat.le_refl _⟩ ?_
  rw [hU.1]
  rintro v h' (⟨q1, rfl, rfl⟩ | ⟨q1, rfl, V1, rfl, q2, q3, q4⟩)
  · refine b_if_ne (b := false) (tgt := 17) dX7_undo_11 (by decide) (fun z => by cases z) (fun _ => ?_)
    refine x_bipush (v := -2) dX7_undo_14 (by decide) ?_
    refine x_iret dX7_undo_16 rfl rfl ⟨Nat.le_refl _, Nat.le_refl _⟩ ?_
    exact ⟨_, rfl, ⟨I, A, Or.inl ⟨q1, rfl, rfl, rfl⟩, V, rfl, hV⟩, rfl⟩
  · refine b_if_ne (b := true) (tgt := 17) dX7_undo_11 (by decide) (fun _ => ?_) (fun z => by cases z)
    refine x_aload_n dX7_undo_17 rfl ?_
    refine x_iconst (v := nI 1) dX7_undo_18 (by decide) ?_
    refine g_putZ (b := true) dX7_undo_19 flX7_69 ftX7_11 hL.1 (Nat.le_of_ble_eq_true rfl) rfl ?_
    have w1 : ∀ b, b ≠ c → (va_up V1 c (va_up (V1 c) 11 true.toNat)) b = V1 b := fun b hb => up_ne _ _ hb
    refine x_aload_n dX7_undo_22 rfl ?_
    refine x_getf dX7_undo_23 flX7_58 (g_c (And.left hL)) rfl ?_
    refine x_getf dX7_undo_26 flX7_207 (g_c hz.1) rfl ?_
    rw [w1 (c + 48) (by omega), q3, up_eq]
    refine x_iret dX7_undo_29 rfl rfl ⟨Nat.le_refl _, Nat.le_refl _⟩ ?_
    refine ⟨_, rfl, ⟨_, _, Or.inr ⟨q1, rfl, rfl, rfl⟩, _, rfl, ?_⟩, rfl⟩
    have r : rwE A (va_up A 17 (blk (A 18) (A 17) (I 20 - 1) 21)) := rwE_up (by decide)
    have e : ∀ b, b ≠ c → b ≠ c + 48 → (b < c + 44 ∨ c + 44 + 3 < b) → (va_up V1 c (va_up (V1 c) 11 true.toNat)) b = V b := fun b h1 h2 h3 => by rw [w1 b h1, q2 b h2 h3]
    obtain ⟨a1, a2, a3, a4, a5, a6, a7⟩ := hV
    have hs := hU.2.2.2.2 (I 20 - 1) (by omega)
    have h8 := hU.2.1
    have eS : ∀ k, k < 21 → blk (A 18) (A 17) (I 20 - 1) 21 k = A 18 (21 * (I 20 - 1) + k) := fun k hk => by unfold blk; rw [if_pos hk]
    refine ⟨(a1.fr (e _ (by omega) (by omega) (by omega)) (e _ (by omega) (by omega) (by omega)) (e _ (by omega) (by omega) (by omega))).co rfl rfl, a2.co r, (a3.fr (e _ (by omega) (by omega) (by omega)) (e _ (by omega) (by omega) (by omega))).co r rfl rfl, ⟨?_, ?_⟩, ⟨?_, ?_, ?_, ?_, ?_⟩, (a6.fr (fun b h1 h2 => e _ (by omega) (by omega) (by omega))).co r rfl rfl, Or.inl (by rw [up_eq, up_eq]; rfl)⟩
    · rw [up_eq]
      refine ((hs.1.eq hs.2.1.1 q4).fr (w1 _ (by omega)) (w1 _ (by omega)) (w1 _ (by omega)) (w1 _ (by omega))).cg hs.2.1.1 eS
    · rw [up_eq]
      exact r.sc (hs.2.cg k7 eS)
    · rw [w1 _ (by omega), q3, up_eq, up_eq]
    · rw [up_eq]; omega
    · rw [e (c + 49) (by omega) (by omega) (by omega)]; exact hU.2.2.1
    · rw [e (c + 49) (by omega) (by omega) (by omega)]; exact hU.2.2.2.1
    · intro u hu
      rw [up_eq] at hu
      rw [e (c + 49) (by omega) (by omega) (by omega)]
      have hu5 := hU.2.2.2.2 u (by omega)
      obtain ⟨i, hi, ei⟩ := hU.2.2.1 u (by omega)
      refine ⟨hu5.1.fr ?_ ?_ ?_ ?_, r.sc hu5.2⟩ <;> (rw [ei]; exact e _ (by omega) (by omega) (by omega))
theorem kKe_sc (hL : kL L c P) (h : kKe V c I A) : ∀ j, j < 2 → zSc L (V (c + 83) j) := by
  intro j hj
  rw [h.2.2.1 j hj]; exact hL.2.2.2.2.2.2.2.2.1.2.2 j hj
set_option maxRecDepth 100000 in
theorem k_keep (hL : kL L c P) (hV : kV V c P J X I A) : zPi G MX7_keep 3 [.ref c] (gH h0 L V) n (fun v h' => ∃ I' A', rKp I A v I' A' ∧ kPo h0 L c P J X I' A' h') := by
  refine zCt.of rfl (Nat.le_of_ble_eq_true rfl) rfl ?_
  have hR := hV.2.1
  have k7 := hR.2.1.2.1
  have hP := hL.2.2.2.2.2.2.2.2.2.2.2.2.1
  have hS : zSc L (c + 44) := hL.2.2.2.2.2.2.1
  have hz := hL.2.2.2.2.2.2.2.2.1
  have hK := hV.2.2.2.2.2.1
  have hN := hV.2.2.2.1
  have h2 := hK.2.1
  have ek := hK.1
  refine x_aload_n dX7_keep_0 rfl ?_
  refine x_getf dX7_keep_1 flX7_62 (g_c (And.left hL)) rfl ?_
  refine x_cVi0 dX7_keep_4 lkX7_285 mdX2_isFull isX2_isFull rfl rfl (g_c hz.1) (by decide) (c_ssFull hz.1 hz.2.1 (by decide) (by omega)) (Nat.le_of_ble_eq_true rfl) ⟨Nat.le_refl _, Nat.le_refl _⟩ ?_
  rw [ek]
  refine b_if_eq (tgt := 13) dX7_keep_7 (by decide) (fun c1 => ?_) (fun c1 => ?_)
  · have c1 := of_decide_eq_false c1
    have hu : V (c + 82) 1 < 2 := by omega
    refine x_aload_n dX7_keep_13 rfl ?_
    refine x_getf dX7_keep_14 flX7_62 (g_c (And.left hL)) rfl ?_
    refine x_aload_n dX7_keep_17 rfl ?_
    refine x_getf dX7_keep_18 flX7_49 (g_c (And.left hL)) rfl ?_
    refine x_cVV1 dX7_keep_21 lkX7_195 mdX2_push isX2_push rfl rfl (g_c hz.1) (by decide) (c_push hz.1 hz.2.1 (by decide) (by decide) (by omega) (kKe_sc hL hK) hS (fun j hj => by rw [hK.2.2.1 j hj]; omega)) (Nat.le_of_ble_eq_true rfl) ⟨Nat.le_refl _, Nat.le_refl _⟩ ?_
    rintro h' ⟨V1, rfl, f1, f2, f3, f4⟩
    have eu : rotU 2 (V (c + 82) 1) = V (c + 82) 1 := if_pos hu
    have er : ∀ j, rotR 2 (V (c + 82) 1) (V (c + 83)) j = V (c + 83) j := fun j => if_pos hu
    rw [eu, er, ek, hK.2.2.1 _ (by omega)] at f1 f4
    rw [eu, ek] at f2
    have f3 : ∀ j, j < 2 → V1 (c + 83) j = c + 84 + 4 * j := fun j hj => ((f3 j hj).trans (er j)).trans (hK.2.2.1 j hj)
    refine x_aload_n dX7_keep_24 rfl ?_
    refine x_getf dX7_keep_25 flX7_62 (g_c (And.left hL)) rfl ?_
    refine x_getf dX7_keep_28 flX7_207 (g_c hz.1) rfl ?_
    rw [f2]
    refine x_iret dX7_keep_31 rfl rfl ⟨Nat.le_refl _, Nat.le_refl _⟩ ?_
    refine ⟨_, rfl, ⟨_, _, Or.inr ⟨by omega, rfl, rfl, rfl⟩, V1, rfl, ?_⟩, rfl⟩
    have r : rwE A (va_up A 19 (kpB (A 19) (A 17) (I 22) 21)) := rwE_up (by decide)
    have e : ∀ b, (b < c + 82 ∨ c + 92 ≤ b) → V1 b = V b := fun b hb => f1 b (by omega) (by omega) (by omega)
    obtain ⟨a1, a2, a3, a4, a5, a6, a7⟩ := hV
    refine ⟨(a1.fr (e _ (by omega)) (e _ (by omega)) (e _ (by omega))).co rfl rfl, a2.co r, (a3.fr (e _ (by omega)) (e _ (by omega))).co r rfl rfl, (a4.fr (fun b h1 h2 => e _ (by omega))).co r rfl, (a5.fr (fun b h1 h2 => e _ (by omega))).co r rfl rfl, ⟨?_, ?_, f3, ?_⟩, (a7.fr (e _ (by omega)) (e _ (by omega)) (e _ (by omega))).co r rfl rfl rfl⟩
    · rw [f2, up_eq]
    · rw [up_eq]; omega
    · intro u hu'
      rw [up_eq] at hu'
      rw [up_eq]
      by_cases eu' : u = I 22
      · subst eu'
        have eS : ∀ k, k < 21 → kpB (A 19) (A 17) (I 22) 21 (21 * I 22 + k) = A 17 k := by
          intro k hk
          unfold kpB
          rw [if_pos (by omega), show 21 * I 22 + k - 21 * I 22 = k by omega]
        exact ⟨(hN.1.eq hN.2.1.1 f4).cg hN.2.1.1 eS, r.sc (hN.2.cg k7 eS)⟩
      · have eS : ∀ k, k < 21 → kpB (A 19) (A 17) (I 22) 21 (21 * u + k) = A 19 (21 * u + k) := by
          intro k hk
          unfold kpB
          rw [if_neg (by omega)]
        have hs := hK.2.2.2 u (by omega)
        refine ⟨(hs.1.fr ?_ ?_ ?_ ?_).cg hs.2.1.1 eS, r.sc (hs.2.cg k7 eS)⟩ <;> exact f1 _ (by omega) (by omega) (by omega)
  · have c1 := of_decide_eq_true c1
    refine x_bipush (v := -3) dX7_keep_10 (by decide) ?_
    refine x_iret dX7_keep_12 rfl rfl ⟨Nat.le_refl _, Nat.le_refl _⟩ ?_
    exact ⟨_, rfl, ⟨I, A, Or.inl ⟨by omega, rfl, rfl, rfl⟩, V, rfl, hV⟩, rfl⟩
set_option maxRecDepth 100000 in
theorem k_back (hL : kL L c P) (hV : kV V c P J X I A) : zPi G MX7_back 3 [.ref c] (gH h0 L V) n (fun v h' => ∃ I' A', rBk I A v I' A' ∧ kPo h0 L c P J X I' A' h') := by
  refine zCt.of rfl (Nat.le_of_ble_eq_true rfl) rfl ?_
  have hR := hV.2.1
  have k7 := hR.2.1.2.1
  have hP := hL.2.2.2.2.2.2.2.2.2.2.2.2.1
  have hS : zSc L (c + 44) := hL.2.2.2.2.2.2.1
  have hz := hL.2.2.2.2.2.2.2.2.1
  have hzu := hL.2.2.2.2.2.2.2.1
  have hK := hV.2.2.2.2.2.1
  have h2 := hK.2.1
  have ek := hK.1
  refine x_aload_n dX7_back_0 rfl ?_
  refine x_getf dX7_back_1 flX7_62 (g_c (And.left hL)) rfl ?_
  refine x_aload_n dX7_back_4 rfl ?_
  refine x_getf dX7_back_5 flX7_49 (g_c (And.left hL)) rfl ?_
  refine x_cVI1 dX7_back_8 lkX7_203 mdX2_popInto isX2_popInto rfl rfl (g_c hz.1) (by decide) (c_pop hz.1 hz.2.1 (by decide) (by omega) (kKe_sc hL hK) hS (fun j hj => by rw [hK.2.2.1 j hj]; omega) (by omega) (by omega)) (Nat.le_of_ble_eq_true rfl) ⟨Nat.le_refl _, Nat.le_refl _⟩ ?_
  rw [ek]
  rintro v h' (⟨q1, rfl, rfl⟩ | ⟨q1, rfl, V1, rfl, q2, q3, q4⟩)
  · refine b_if_ne (b := false) (tgt := 17) dX7_back_11 (by decide) (fun z => by cases z) (fun _ => ?_)
    refine x_bipush (v := -2) dX7_back_14 (by decide) ?_
    refine x_iret dX7_back_16 rfl rfl ⟨Nat.le_refl _, Nat.le_refl _⟩ ?_
    exact ⟨_, rfl, ⟨I, A, Or.inl ⟨q1, rfl, rfl, rfl⟩, V, rfl, hV⟩, rfl⟩
  · refine b_if_ne (b := true) (tgt := 17) dX7_back_11 (by decide) (fun _ => ?_) (fun z => by cases z)
    rw [hK.2.2.1 _ (by omega)] at q4
    refine x_aload_n dX7_back_17 rfl ?_
    refine x_getf dX7_back_18 flX7_58 (g_c (And.left hL)) rfl ?_
    refine x_cVV0 dX7_back_21 lkX7_286 mdX2_clear isX2_clear rfl rfl (g_c hzu.1) (by decide) (c_ssClear hzu.1) (Nat.le_of_ble_eq_true rfl) ⟨Nat.le_refl _, Nat.le_refl _⟩ ?_
    rintro h' rfl
    generalize hV2 : va_up V1 (c + 48) (va_up (V1 (c + 48)) 1 0) = V2
    have g1 : ∀ b, b ≠ c + 48 → V2 b = V1 b := fun b hb => by rw [← hV2]; exact up_ne _ _ hb
    have g2 : V2 (c + 48) 1 = 0 := by rw [← hV2, up_eq, up_eq]
    refine x_aload_n dX7_back_24 rfl ?_
    refine x_iconst (v := nI 1) dX7_back_25 (by decide) ?_
    refine g_putZ (b := true) dX7_back_26 flX7_69 ftX7_11 hL.1 (Nat.le_of_ble_eq_true rfl) rfl ?_
    have w1 : ∀ b, b ≠ c → (va_up V2 c (va_up (V2 c) 11 true.toNat)) b = V2 b := fun b hb => up_ne _ _ hb
    refine x_aload_n dX7_back_29 rfl ?_
    refine x_getf dX7_back_30 flX7_62 (g_c (And.left hL)) rfl ?_
    refine x_getf dX7_back_33 flX7_207 (g_c hz.1) rfl ?_
    rw [w1 (c + 82) (by omega), g1 (c + 82) (by omega), q3, up_eq]
    refine x_iret dX7_back_36 rfl rfl ⟨Nat.le_refl _, Nat.le_refl _⟩ ?_
    refine ⟨_, rfl, ⟨_, _, Or.inr ⟨q1, rfl, rfl, rfl⟩, _, rfl, ?_⟩, rfl⟩
    have r : rwE A (va_up A 17 (blk (A 19) (A 17) (I 22 - 1) 21)) := rwE_up (by decide)
    have e : ∀ b, b ≠ c → b ≠ c + 48 → b ≠ c + 82 → (b < c + 44 ∨ c + 44 + 3 < b) → (va_up V2 c (va_up (V2 c) 11 true.toNat)) b = V b := fun b h1 h2 h3 h4 => by rw [w1 b h1, g1 b h2, q2 b h3 h4]
    obtain ⟨a1, a2, a3, a4, a5, a6, a7⟩ := hV
    have hs := hK.2.2.2 (I 22 - 1) (by omega)
    have eS : ∀ k, k < 21 → blk (A 19) (A 17) (I 22 - 1) 21 k = A 19 (21 * (I 22 - 1) + k) := fun k hk => by unfold blk; rw [if_pos hk]
    have ws : ∀ b, c + 44 ≤ b → b < c + 48 → (va_up V2 c (va_up (V2 c) 11 true.toNat)) b = V1 b := fun b h1 h2 => by rw [w1 b (by omega), g1 b (by omega)]
    refine ⟨(a1.fr (e _ (by omega) (by omega) (by omega) (by omega)) (e _ (by omega) (by omega) (by omega) (by omega)) (e _ (by omega) (by omega) (by omega) (by omega))).co rfl rfl, a2.co r, (a3.fr (e _ (by omega) (by omega) (by omega) (by omega)) (e _ (by omega) (by omega) (by omega) (by omega))).co r rfl rfl, ⟨?_, ?_⟩, ⟨?_, ?_, ?_, ?_, ?_⟩, ⟨?_, ?_, ?_, ?_⟩, Or.inl (by rw [up_eq, up_eq]; rfl)⟩
    · rw [up_eq]
      exact ((hs.1.eq hs.2.1.1 q4).fr (ws _ (by omega) (by omega)) (ws _ (by omega) (by omega)) (ws _ (by omega) (by omega)) (ws _ (by omega) (by omega))).cg hs.2.1.1 eS
    · rw [up_eq]
      exact r.sc (hs.2.cg k7 eS)
    · rw [w1 _ (by omega), g2, up_eq]
    · rw [up_eq]; exact Nat.zero_le _
    · rw [e (c + 49) (by omega) (by omega) (by omega) (by omega)]; exact a5.2.2.1
    · rw [e (c + 49) (by omega) (by omega) (by omega) (by omega)]; exact a5.2.2.2.1
    · intro u hu
      rw [up_eq] at hu
      exact absurd hu (Nat.not_lt_zero _)
    · rw [w1 _ (by omega), g1 _ (by omega), q3, up_eq, up_ne _ _ (by decide), up_eq]
    · rw [up_ne _ _ (by decide), up_eq]; omega
    · rw [e (c + 83) (by omega) (by omega) (by omega) (by omega)]; exact hK.2.2.1
    · intro u hu
      rw [up_ne _ _ (by decide), up_eq] at hu
      have hu5 := hK.2.2.2 u (by omega)
      refine ⟨hu5.1.fr ?_ ?_ ?_ ?_, r.sc hu5.2⟩ <;> exact e _ (by omega) (by omega) (by omega) (by omega)
end ZK9
