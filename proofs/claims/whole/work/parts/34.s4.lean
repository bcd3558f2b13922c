section ZS7
variable {G : zG} {n : Nat} {h : zF} {t : Nat} {J : Nat → Nat} {X : Nat → Nat → Nat} {T : zT}
theorem wC_1000 {w c : Nat} (h2 : T 2 0 ≤ 8) (h3 : ∀ t, t < T 2 0 → T 5 t ≤ 9) (h7 : T 7 0 ≤ 4) : wC T w c (T 7 0) ≤ 288 := by
  have h1 : ∀ s, wr T s (T 2 0) ≤ 72 := by
    intro s
    have := zsum_le (f := fun t => if s.testBit t then T 5 t else 0) (m := 9) (T 2 0) 0 (fun t ht => by have := h3 t ht; show (if s.testBit t then T 5 t else 0) ≤ 9; split <;> omega)
    unfold wr; omega
  have := zsum_le (f := fun p => if T 9 p = c then wr T (sI w p) (T 2 0) else 0) (m := 72) (T 7 0) 0 (fun p _ => by have := h1 (sI w p); show (if T 9 p = c then wr T (sI w p) (T 2 0) else 0) ≤ 72; split <;> omega)
  unfold wC; omega
theorem c_isFairS {w : Nat} (hT : zTr h t J X) (hI : tI J X T) (hk : tR T) (hw : djW T w) : zI G MX5_isFair 2 [.ref t, .int (nI w)] h n (nI (fairT T w).toNat) := by
  refine zCt.of rfl (Nat.le_of_ble_eq_true rfl) rfl ?_
  have w0 := wC_1000 (w := w) (c := 0) hk.1 (fun t ht => (hk.2.2.1 t ht).2.2.1) hk.2.1
  have w1 := wC_1000 (w := w) (c := 1) hk.1 (fun t ht => (hk.2.2.1 t ht).2.2.1) hk.2.1
  have k6 := hk.2.2.2.2.2.1
  have e7 := hI.1.2.2.2
  have K39 : fairT T w = true → zEx G MX5_isFair 2 0 0 39 [some (.ref t), some (.int (nI w))] [] h n (0, 0) (fun r h' n' => r = some (.int (nI (fairT T w).toNat)) ∧ h' = h ∧ n' = n) := by
    intro hf
    refine x_iconst (v := nI 1) dX5_isFair_39 (by decide) ?_
    refine x_goto (tgt := 44) dX5_isFair_40 (by decide) ?_
    refine x_iret dX5_isFair_44 rfl (nar_b true) ⟨Nat.le_refl _, Nat.le_refl _⟩ ?_
    exact ⟨by rw [hf]; rfl, rfl, rfl⟩
  refine x_aload_n dX5_isFair_0 rfl ?_
  refine x_iconst (v := nI 0) dX5_isFair_1 (by decide) ?_
  refine x_cVi1 dX5_isFair_2 lkX5_115 mdX5_hasParcels isX5_hasParcels rfl rfl hT.1 (by decide) (c_hasParcels hT hI hk (by decide)) (Nat.le_of_ble_eq_true rfl) ⟨Nat.le_refl _, Nat.le_refl _⟩ ?_
  refine b_if_eq (tgt := 39) dX5_isFair_5 (by decide) (fun c1 => ?_) (fun c1 => ?_)
  · exact K39 (by unfold fairT; rw [c1]; rfl)
  · refine x_aload_n dX5_isFair_8 rfl ?_
    refine x_iconst (v := nI 1) dX5_isFair_9 (by decide) ?_
    refine x_cVi1 dX5_isFair_10 lkX5_115 mdX5_hasParcels isX5_hasParcels rfl rfl hT.1 (by decide) (c_hasParcels hT hI hk (by decide)) (Nat.le_of_ble_eq_true rfl) ⟨Nat.le_refl _, Nat.le_refl _⟩ ?_
    refine b_if_eq (tgt := 39) dX5_isFair_13 (by decide) (fun c2 => ?_) (fun c2 => ?_)
    · exact K39 (by unfold fairT; rw [c1, c2]; rfl)
    · refine x_aload_n dX5_isFair_16 rfl ?_
      refine x_iload_n dX5_isFair_17 rfl ?_
      refine x_iconst (v := nI 0) dX5_isFair_18 (by decide) ?_
      refine x_cVi2 dX5_isFair_19 lkX5_118 mdX5_worthFor isX5_worthFor rfl rfl hT.1 (by decide) (c_worthFor hT hI hk hw (by decide)) (Nat.le_of_ble_eq_true rfl) ⟨Nat.le_refl _, Nat.le_refl _⟩ ?_
      refine x_aload_n dX5_isFair_22 rfl ?_
      refine x_iload_n dX5_isFair_23 rfl ?_
      refine x_iconst (v := nI 1) dX5_isFair_24 (by decide) ?_
      refine x_cVi2 dX5_isFair_25 lkX5_118 mdX5_worthFor isX5_worthFor rfl rfl hT.1 (by decide) (c_worthFor hT hI hk hw (by decide)) (Nat.le_of_ble_eq_true rfl) ⟨Nat.le_refl _, Nat.le_refl _⟩ ?_
      refine x_isub dX5_isFair_28 ?_
      refine x_abs dX5_isFair_29 (zmem 480 (by decide +kernel) rfl) (by decide) (by omega) (by omega) (by decide) ⟨Nat.le_refl _, Nat.le_refl _⟩ ?_
      refine x_aload_n dX5_isFair_32 rfl ?_
      refine x_getf dX5_isFair_33 flX5_47 hT.1 rfl ?_
      rw [e7]
      have hd : (if wC T w 0 (T 7 0) ≤ wC T w 1 (T 7 0) then wC T w 1 (T 7 0) - wC T w 0 (T 7 0) else wC T w 0 (T 7 0) - wC T w 1 (T 7 0)) ≤ 288 := by split <;> omega
      refine n_icmp_gt (tgt := 43) dX5_isFair_36 (by decide) (by omega) (by omega) (fun c3 => ?_) (fun c3 => ?_)
      · refine x_iconst (v := nI 0) dX5_isFair_43 (by decide) ?_
        refine x_iret dX5_isFair_44 rfl (nar_b false) ⟨Nat.le_refl _, Nat.le_refl _⟩ ?_
        refine ⟨?_, rfl, rfl⟩
        have : fairT T w = false := by
          unfold fairT; rw [c1, c2, decide_eq_false (by split at c3 <;> omega)]; rfl
        rw [this]; rfl
      · refine K39 ?_
        unfold fairT; rw [c1, c2, decide_eq_true (by split at c3 <;> omega)]; rfl
/-- whether a code is a world -/
def wIs (T : zT) (w : Nat) : Nat → Bool
  | 0 => true
  | p + 1 => wIs T w p && decide (pop (sI w p) = T 10 p) && decide (sI w p &&& au w p = 0)
def isW (T : zT) (w : Nat) : Bool := wIs T w (T 7 0) && fairT T w
theorem wIs_ext {w : Nat} : ∀ d p, wIs T w p = false → wIs T w (p + d) = false := by
  intro d p hh
  induction d with
  | zero => exact hh
  | succ d ih => show (wIs T w (p + d) && _ && _) = false; rw [ih]; rfl
theorem wIs_dj {w : Nat} : ∀ P, wIs T w P = true → ∀ p q, p < P → q < P → p ≠ q → sI w p &&& sI w q = 0
  | 0, _, p, q, hp, _, _ => absurd hp (by omega)
  | P + 1, hh, p, q, hp, hq, hn => by
    have hh : (wIs T w P && decide (pop (sI w P) = T 10 P) && decide (sI w P &&& au w P = 0)) = true := hh
    rw [Bool.and_eq_true, Bool.and_eq_true, decide_eq_true_eq, decide_eq_true_eq] at hh
    have ha := (au_dj P).mp hh.2
    by_cases h1 : p = P
    · subst h1
      exact ha q (by omega)
    · by_cases h2 : q = P
      · subst h2
        rw [Nat.and_comm]
        exact ha p (by omega)
      · exact wIs_dj P hh.1.1 p q (by omega) (by omega) hn
theorem c_isWorld {w : Nat} (hT : zTr h t J X) (hI : tI J X T) (hk : tR T) (hw : ∀ p, p < T 7 0 → sI w p < 2 ^ T 2 0) : zI G MX5_isWorld 3 [.ref t, .int (nI w)] h n (nI (isW T w).toNat) := by
  refine zCt.of rfl (Nat.le_of_ble_eq_true rfl) rfl ?_
  have k2 := hk.1
  have k7 := hk.2.1
  have k4 := hk.2.2.2.1
  have hpow : 2 ^ T 2 0 ≤ 256 := (Nat.pow_le_pow_right (by decide) k2 : 2 ^ T 2 0 ≤ 2 ^ 8)
  have e4 := hI.1.2.1
  refine x_iconst (v := nI 0) dX5_isWorld_0 (by decide) ?_
  refine x_is2 dX5_isWorld_1 (by decide) rfl ?_
  refine x_iconst (v := nI 0) dX5_isWorld_2 (by decide) ?_
  refine x_is3 dX5_isWorld_3 (by decide) rfl ?_
  refine z_up (T 7 0) (P := fun p => wIs T w p = true → ∀ o4, zEx G MX5_isWorld 3 0 0 4 [some (.ref t), some (.int (nI w)), some (.int (nI (au w p))), some (.int (nI p)), o4] [] h n (0, 0) _) ?_ 0 (Nat.zero_le _) rfl none
  intro p hp ih hf o4
  have hal := au_lt (w := w) (m := T 2 0) p (fun q hq => hw q (by omega))
  refine x_iload_n dX5_isWorld_4 rfl ?_
  refine x_aload_n dX5_isWorld_5 rfl ?_
  refine x_getf dX5_isWorld_6 flX5_41 hT.1 rfl ?_
  rw [e4]
  refine n_icmp_ge (tgt := 55) dX5_isWorld_9 (by decide) (by omega) (by omega) (fun hc => ?_) (fun hc => ?_)
  · have hpe : p = T 7 0 := by omega
    subst hpe
    refine x_aload_n dX5_isWorld_55 rfl ?_
    refine x_iload_n dX5_isWorld_56 rfl ?_
    refine x_cVi1 dX5_isWorld_57 lkX5_112 mdX5_isFair isX5_isFair rfl rfl hT.1 (by decide) (c_isFairS hT hI hk ⟨hw, wIs_dj _ hf⟩) (Nat.le_of_ble_eq_true rfl) ⟨Nat.le_refl _, Nat.le_refl _⟩ ?_
    refine x_iret dX5_isWorld_60 rfl (nar_b _) ⟨Nat.le_refl _, Nat.le_refl _⟩ ?_
    exact ⟨by unfold isW; rw [hf]; rfl, rfl, rfl⟩
  · have hsl := sI_lt w p
    have hpl := pop_lt _ hsl
    have e11 := (hI.2.2.1 p (by omega)).2.2
    have h10 := (k4 p (by omega)).2.2
    have K42 : wIs T w (p + 1) = false → zEx G MX5_isWorld 3 0 0 42 [some (.ref t), some (.int (nI w)), some (.int (nI (au w p))), some (.int (nI p)), some (.int (nI (sI w p)))] [] h n (0, 0) (fun r h' n' => r = some (.int (nI (isW T w).toNat)) ∧ h' = h ∧ n' = n) := by
      intro hb
      have := wIs_ext (T := T) (w := w) (T 7 0 - (p + 1)) (p + 1) hb
      rw [show p + 1 + (T 7 0 - (p + 1)) = T 7 0 by omega] at this
      refine x_iconst (v := nI 0) dX5_isWorld_42 (by decide) ?_
      refine x_iret dX5_isWorld_43 rfl (nar_b false) ⟨Nat.le_refl _, Nat.le_refl _⟩ ?_
      exact ⟨by unfold isW; rw [this]; rfl, rfl, rfl⟩
    have ew : wIs T w (p + 1) = (wIs T w p && decide (pop (sI w p) = T 10 p) && decide (sI w p &&& au w p = 0)) := rfl
    have hand : sI w p &&& au w p ≤ sI w p := Nat.and_le_left
    refine x_iload_n dX5_isWorld_12 rfl ?_
    refine x_iload_n dX5_isWorld_13 rfl ?_
    refine x_cSi2 dX5_isWorld_14 lkX5_102 mdX7_inside stX7_inside (by decide) (c_inside _ (by omega)) (Nat.le_of_ble_eq_true rfl) ⟨Nat.le_refl _, Nat.le_refl _⟩ ?_
    refine x_is4 dX5_isWorld_17 (by decide) rfl ?_
    refine x_iload dX5_isWorld_19 rfl ?_
    refine x_cSi1 dX5_isWorld_21 lkX5_106 mdJ6_bitCount_0f7a4 stJ6_bitCount_0f7a4 (by decide) (c_bitCount (by omega)) (Nat.le_of_ble_eq_true rfl) ⟨Nat.le_refl _, Nat.le_refl _⟩ ?_
    refine x_aload_n dX5_isWorld_24 rfl ?_
    refine x_getf dX5_isWorld_25 flX5_25 hT.1 rfl ?_
    refine x_iload_n dX5_isWorld_28 rfl ?_
    refine x_cSi2 dX5_isWorld_29 lkX5_63 mdX7_at stX7_at (by decide) (c_atN (hT.2.2 11 (by decide) (by decide)) (by decide) (by simp only [tLen]; omega)) (Nat.le_of_ble_eq_true rfl) ⟨Nat.le_refl _, Nat.le_refl _⟩ ?_
    rw [e11]
    refine n_icmp_ne (tgt := 42) dX5_isWorld_32 (by decide) (by omega) (by omega) (fun c1 => ?_) (fun c1 => ?_)
    · exact K42 (by rw [ew, decide_eq_false c1]; simp)
    · refine x_iload dX5_isWorld_35 rfl ?_
      refine x_iload_n dX5_isWorld_37 rfl ?_
      refine n_iand dX5_isWorld_38 ?_
      refine n_if_eq (tgt := 44) dX5_isWorld_39 (by decide) (by omega) (fun c2 => ?_) (fun c2 => ?_)
      · refine x_iload_n dX5_isWorld_44 rfl ?_
        refine x_iload dX5_isWorld_45 rfl ?_
        refine n_ior dX5_isWorld_47 ?_
        refine x_is2 dX5_isWorld_48 (by decide) rfl ?_
        refine n_ii3 (w := 1) dX5_isWorld_49 (by decide) (by decide) rfl ?_
        refine x_goto (tgt := 4) dX5_isWorld_52 (by decide) ?_
        exact ih (by omega) (by rw [ew, hf, decide_eq_true c1, decide_eq_true c2]; rfl) _
      · exact K42 (by rw [ew, decide_eq_false c2]; simp)
theorem c_trials (hT : zTr h t J X) (hI : tI J X T) (hk : tR T) : zI G MX5_trials 0 [.ref t] h n (nI (4 * T 7 0)) := by
  refine zCt.of rfl (Nat.le_of_ble_eq_true rfl) rfl ?_
  have k7 := hk.2.1
  have e4 := hI.1.2.1
  refine x_iconst (v := nI 4) dX5_trials_0 (by decide) ?_
  refine x_aload_n dX5_trials_1 rfl ?_
  refine x_getf dX5_trials_2 flX5_41 hT.1 rfl ?_
  rw [e4]
  refine n_imul dX5_trials_5 ?_
  refine x_iret dX5_trials_6 rfl rfl ⟨Nat.le_refl _, Nat.le_refl _⟩ ?_
  exact ⟨rfl, rfl, rfl⟩
/-- how many worlds there are at the most -/
def mw (T : zT) : Nat → Nat
  | 0 => 1
  | p + 1 => mw T p * (if T 10 p = 1 then T 2 0 - szs T p else (T 2 0 - szs T p) * (T 2 0 - szs T p - 1) / 2)
theorem mw_le (h2 : T 2 0 ≤ 8) : ∀ p, p ≤ 4 → mw T p ≤ 28 ^ p
  | 0, _ => Nat.le_refl _
  | p + 1, hp => by
    have ih := mw_le h2 p (by omega)
    have : (if T 10 p = 1 then T 2 0 - szs T p else (T 2 0 - szs T p) * (T 2 0 - szs T p - 1) / 2) ≤ 28 := by
      split
      · omega
      · have h1 : (T 2 0 - szs T p) * (T 2 0 - szs T p - 1) ≤ 8 * 7 := Nat.mul_le_mul (by omega) (by omega)
        omega
    unfold mw
    rw [Nat.pow_succ]
    exact Nat.mul_le_mul ih this
theorem c_mostWorlds (hT : zTr h t J X) (hI : tI J X T) (hk : tR T) (hz : szs T (T 7 0) ≤ T 2 0) : zI G MX5_mostWorlds 1 [.ref t] h n (nI (mw T (T 7 0))) := by
  refine zCt.of rfl (Nat.le_of_ble_eq_true rfl) rfl ?_
  have k2 := hk.1
  have k7 := hk.2.1
  have k4 := hk.2.2.2.1
  have e4 := hI.1.2.1
  have e24 := hI.1.1
  have hzs : ∀ d p, p + d = T 7 0 → szs T p ≤ T 2 0 := by
    intro d p hd
    have := zsum_ext 0 (T 10) d p
    rw [hd] at this
    exact Nat.le_trans this hz
  refine x_iconst (v := nI 1) dX5_mostWorlds_0 (by decide) ?_
  refine x_is1 dX5_mostWorlds_1 (by decide) rfl ?_
  refine x_aload_n dX5_mostWorlds_2 rfl ?_
  refine x_getf dX5_mostWorlds_3 flX5_12 hT.1 rfl ?_
  refine x_getf dX5_mostWorlds_6 flX5_82 hT.2.1 rfl ?_
  rw [e24]
  refine x_is2 dX5_mostWorlds_9 (by decide) rfl ?_
  refine x_iconst (v := nI 0) dX5_mostWorlds_10 (by decide) ?_
  refine x_is3 dX5_mostWorlds_11 (by decide) rfl ?_
  refine z_up (T 7 0) (P := fun p => zEx G MX5_mostWorlds 1 0 0 12 [some (.ref t), some (.int (nI (mw T p))), some (.int (nI (T 2 0 - szs T p))), some (.int (nI p))] [] h n (0, 0) _) ?_ 0 (Nat.zero_le _)
  intro p hp ih
  have hm := mw_le k2 p (by omega)
  have hm2 : mw T p ≤ 614656 := Nat.le_trans hm (Nat.pow_le_pow_right (by decide) (by omega) : 28 ^ p ≤ 28 ^ 4)
  refine x_iload_n dX5_mostWorlds_12 rfl ?_
  refine x_aload_n dX5_mostWorlds_13 rfl ?_
  refine x_getf dX5_mostWorlds_14 flX5_41 hT.1 rfl ?_
  rw [e4]
  refine n_icmp_ge (tgt := 63) dX5_mostWorlds_17 (by decide) (by omega) (by omega) (fun hc => ?_) (fun hc => ?_)
  · have hpe : p = T 7 0 := by omega
    subst hpe
    refine x_iload_n dX5_mostWorlds_63 rfl ?_
    refine x_iret dX5_mostWorlds_64 rfl rfl ⟨Nat.le_refl _, Nat.le_refl _⟩ ?_
    exact ⟨rfl, rfl, rfl⟩
  · have e11 := (hI.2.2.1 p (by omega)).2.2
    have h10 := (k4 p (by omega)).2.2
    have hz1 := hzs (T 7 0 - (p + 1)) (p + 1) (by omega)
    have ez : szs T (p + 1) = szs T p + T 10 p := rfl
    have ih9 := ih (by omega)
    have ca := c_atN (G := G) (n := n) (j := p) (hT.2.2 11 (by decide) (by decide)) (by decide) (by simp only [tLen]; omega)
    rw [e11] at ca
    have K44 : ∀ x, x = (if T 10 p = 1 then T 2 0 - szs T p else (T 2 0 - szs T p) * (T 2 0 - szs T p - 1) / 2) → zEx G MX5_mostWorlds 1 0 0 44 [some (.ref t), some (.int (nI (mw T p))), some (.int (nI (T 2 0 - szs T p))), some (.int (nI p))] [.int (nI x), .int (nI (mw T p))] h n (0, 0) (fun r h' n' => r = some (.int (nI (mw T (T 7 0)))) ∧ h' = h ∧ n' = n) := by
      intro x hx
      refine n_imul dX5_mostWorlds_44 ?_
      refine x_is1 dX5_mostWorlds_45 (by decide) rfl ?_
      refine x_iload_n dX5_mostWorlds_46 rfl ?_
      refine x_aload_n dX5_mostWorlds_47 rfl ?_
      refine x_getf dX5_mostWorlds_48 flX5_25 hT.1 rfl ?_
      refine x_iload_n dX5_mostWorlds_51 rfl ?_
      refine x_cSi2 dX5_mostWorlds_52 lkX5_63 mdX7_at stX7_at (by decide) (ca) (Nat.le_of_ble_eq_true rfl) ⟨Nat.le_refl _, Nat.le_refl _⟩ ?_
      refine n_isub dX5_mostWorlds_55 (by omega) ?_
      refine x_is2 dX5_mostWorlds_56 (by decide) rfl ?_
      refine n_ii3 (w := 1) dX5_mostWorlds_57 (by decide) (by decide) rfl ?_
      refine x_goto (tgt := 12) dX5_mostWorlds_60 (by decide) ?_
      rw [show T 2 0 - szs T p - T 10 p = T 2 0 - szs T (p + 1) by omega, hx]
      exact ih9
    have hq : (T 2 0 - szs T p) * (T 2 0 - szs T p - 1) ≤ 8 * 7 := Nat.mul_le_mul (by omega) (by omega)
    refine x_iload_n dX5_mostWorlds_20 rfl ?_
    refine x_aload_n dX5_mostWorlds_21 rfl ?_
    refine x_getf dX5_mostWorlds_22 flX5_25 hT.1 rfl ?_
    refine x_iload_n dX5_mostWorlds_25 rfl ?_
    refine x_cSi2 dX5_mostWorlds_26 lkX5_63 mdX7_at stX7_at (by decide) (ca) (Nat.le_of_ble_eq_true rfl) ⟨Nat.le_refl _, Nat.le_refl _⟩ ?_
    refine x_iconst (v := nI 1) dX5_mostWorlds_29 (by decide) ?_
    refine n_icmp_ne (tgt := 37) dX5_mostWorlds_30 (by decide) (by omega) (by omega) (fun c1 => ?_) (fun c1 => ?_)
    · refine x_iload_n dX5_mostWorlds_37 rfl ?_
      refine x_iload_n dX5_mostWorlds_38 rfl ?_
      refine x_iconst (v := nI 1) dX5_mostWorlds_39 (by decide) ?_
      refine n_isub dX5_mostWorlds_40 (by omega) ?_
      refine n_imul dX5_mostWorlds_41 ?_
      refine x_iconst (v := nI 2) dX5_mostWorlds_42 (by decide) ?_
      refine n_idiv dX5_mostWorlds_43 (by omega) (by omega) (by omega) ?_
      exact K44 _ (by rw [if_neg c1])
    · refine x_iload_n dX5_mostWorlds_33 rfl ?_
      refine x_goto (tgt := 44) dX5_mostWorlds_34 (by decide) ?_
      exact K44 _ (by rw [if_pos c1])
end ZS7
