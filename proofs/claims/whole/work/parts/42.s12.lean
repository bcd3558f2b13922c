section ZS15
variable {G : zG} {n : Nat} {h0 : zF} {t : Nat} {J : Nat → Nat} {X : Nat → Nat → Nat} {T : zT}
theorem c_isBelowN {h : zF} {x m : Nat} (hx : x < 2 ^ 31) (hm : m < 2 ^ 31) : zI G MX7_isBelow 0 [.int (nI x), .int (nI m)] h n (nI (decide (x < m)).toNat) := by
  have := c_isBelow (G := G) (n := n) (h := h) (nI x) hm
  rwa [show bR (nI x) m = decide (x < m) by rw [Bool.eq_iff_iff, bR_true, inR_nI hx, decide_eq_true_eq]] at this
theorem c_isSortN {h : zF} {x : Nat} (hx : x < 2 ^ 31) : zI G MX7_isSort 1 [.int (nI x)] h n (nI (decide (x < 4)).toNat) := by
  have := c_isSort (G := G) (n := n) (h := h) (nI x)
  rwa [show bR (nI x) 4 = decide (x < 4) by rw [Bool.eq_iff_iff, bR_true, inR_nI hx, decide_eq_true_eq]] at this
theorem c_trClear : zPv G MX5_clear 2 [.ref t] (tH h0 t J X) n (fun h' => h' = tH h0 t (va_up (va_up (va_up (va_up (clJ J) 4 0) 5 0) 6 1) 7 40) (va_up (va_up (va_up X 8 (va_up (X 8) 0 1)) 12 (fun j => if j < 4 then 0 else X 12 j)) 13 (fun j => if j < 4 then 10 else X 13 j))) := by
  refine zCt.of rfl (Nat.le_of_ble_eq_true rfl) rfl ?_
  refine x_aload_n dX5_clear_0 rfl ?_
  refine x_getf dX5_clear_1 flX5_12 tH_0 rfl ?_
  refine x_cVV0 dX5_clear_4 lkX5_38 mdX4_clear isX4_clear rfl rfl tH_1 (by decide) (c_thClear) (Nat.le_of_ble_eq_true rfl) ⟨Nat.le_refl _, Nat.le_refl _⟩ ?_
  rintro h' rfl
  refine x_aload_n dX5_clear_7 rfl ?_
  refine x_iconst (v := nI 0) dX5_clear_8 (by decide) ?_
  refine t_putT dX5_clear_9 flX5_41 ftX5_4 (Nat.le_of_ble_eq_true rfl) rfl rfl ?_
  refine x_aload_n dX5_clear_12 rfl ?_
  refine x_iconst (v := nI 0) dX5_clear_13 (by decide) ?_
  refine t_putT dX5_clear_14 flX5_44 ftX5_5 (Nat.le_of_ble_eq_true rfl) rfl rfl ?_
  refine x_aload_n dX5_clear_17 rfl ?_
  refine x_iconst (v := nI 1) dX5_clear_18 (by decide) ?_
  refine t_putT dX5_clear_19 flX5_28 ftX5_6 (Nat.le_of_ble_eq_true rfl) rfl rfl ?_
  refine x_aload_n dX5_clear_22 rfl ?_
  refine x_bipush (v := nI 40) dX5_clear_23 (by decide) ?_
  refine t_putT dX5_clear_25 flX5_47 ftX5_7 (Nat.le_of_ble_eq_true rfl) rfl rfl ?_
  refine x_aload_n dX5_clear_28 rfl ?_
  refine x_getf dX5_clear_29 flX5_32 tH_0 rfl ?_
  refine x_iconst (v := nI 0) dX5_clear_32 (by decide) ?_
  refine x_cSV2 dX5_clear_33 lkX5_50 mdJ7_fill_53178 stJ7_fill_53178 (by decide) (c_fillI (tH_k (q := 12) (by decide) (by decide)) (by decide)) (Nat.le_of_ble_eq_true rfl) ⟨Nat.le_refl _, Nat.le_refl _⟩ ?_
  rintro h' rfl
  rw [tH_up (by decide) (by decide)]
  refine x_aload_n dX5_clear_36 rfl ?_
  refine x_getf dX5_clear_37 flX5_35 tH_0 rfl ?_
  refine x_bipush (v := nI 10) dX5_clear_40 (by decide) ?_
  refine x_cSV2 dX5_clear_42 lkX5_50 mdJ7_fill_53178 stJ7_fill_53178 (by decide) (c_fillI (tH_k (q := 13) (by decide) (by decide)) (by decide)) (Nat.le_of_ble_eq_true rfl) ⟨Nat.le_refl _, Nat.le_refl _⟩ ?_
  rintro h' rfl
  rw [tH_up (by decide) (by decide)]
  refine x_vret dX5_clear_45 rfl ⟨Nat.le_refl _, Nat.le_refl _⟩ ?_
  exact ⟨rfl, rfl, rfl⟩
theorem c_takesScale {x : Nat} (hx : x < 2 ^ 31) : zPi G MX5_takesScale 1 [.ref t, .int (nI x)] (tH h0 t J X) n (fun v h' => (v = nI 1 ∧ (1 ≤ x ∧ x ≤ 9) ∧ h' = tH h0 t (va_up J 6 x) X) ∨ (v = nI 0 ∧ ¬ (1 ≤ x ∧ x ≤ 9) ∧ h' = tH h0 t J X)) := by
  refine zCt.of rfl (Nat.le_of_ble_eq_true rfl) rfl ?_
  refine x_iload_n dX5_takesScale_0 rfl ?_
  refine x_iconst (v := nI 1) dX5_takesScale_1 (by decide) ?_
  refine x_bipush (v := nI 9) dX5_takesScale_2 (by decide) ?_
  refine x_cSi3 dX5_takesScale_4 lkX5_85 mdX7_isWithin stX7_isWithin (by decide) (c_isWithin hx (by decide) (by decide)) (Nat.le_of_ble_eq_true rfl) ⟨Nat.le_refl _, Nat.le_refl _⟩ ?_
  refine b_if_ne (tgt := 12) dX5_takesScale_7 (by decide) (fun c1 => ?_) (fun c1 => ?_)
  · refine x_aload_n dX5_takesScale_12 rfl ?_
    refine x_iload_n dX5_takesScale_13 rfl ?_
    refine t_putT dX5_takesScale_14 flX5_28 ftX5_6 (Nat.le_of_ble_eq_true rfl) rfl rfl ?_
    refine x_iconst (v := nI 1) dX5_takesScale_17 (by decide) ?_
    refine x_iret dX5_takesScale_18 rfl (nar_b true) ⟨Nat.le_refl _, Nat.le_refl _⟩ ?_
    exact ⟨_, rfl, Or.inl ⟨rfl, of_decide_eq_true c1, rfl⟩, rfl⟩
  · refine x_iconst (v := nI 0) dX5_takesScale_10 (by decide) ?_
    refine x_iret dX5_takesScale_11 rfl (nar_b false) ⟨Nat.le_refl _, Nat.le_refl _⟩ ?_
    exact ⟨_, rfl, Or.inr ⟨rfl, of_decide_eq_false c1, rfl⟩, rfl⟩
theorem c_takesApart {x : Nat} (hx : x < 2 ^ 31) : zPi G MX5_takesApart 1 [.ref t, .int (nI x)] (tH h0 t J X) n (fun v h' => (v = nI 1 ∧ x ≤ 40 ∧ h' = tH h0 t (va_up J 7 x) X) ∨ (v = nI 0 ∧ ¬ x ≤ 40 ∧ h' = tH h0 t J X)) := by
  refine zCt.of rfl (Nat.le_of_ble_eq_true rfl) rfl ?_
  refine x_iload_n dX5_takesApart_0 rfl ?_
  refine x_iconst (v := nI 0) dX5_takesApart_1 (by decide) ?_
  refine x_bipush (v := nI 40) dX5_takesApart_2 (by decide) ?_
  refine x_cSi3 dX5_takesApart_4 lkX5_85 mdX7_isWithin stX7_isWithin (by decide) (c_isWithin hx (by decide) (by decide)) (Nat.le_of_ble_eq_true rfl) ⟨Nat.le_refl _, Nat.le_refl _⟩ ?_
  refine b_if_ne (tgt := 12) dX5_takesApart_7 (by decide) (fun c1 => ?_) (fun c1 => ?_)
  · refine x_aload_n dX5_takesApart_12 rfl ?_
    refine x_iload_n dX5_takesApart_13 rfl ?_
    refine t_putT dX5_takesApart_14 flX5_47 ftX5_7 (Nat.le_of_ble_eq_true rfl) rfl rfl ?_
    refine x_iconst (v := nI 1) dX5_takesApart_17 (by decide) ?_
    refine x_iret dX5_takesApart_18 rfl (nar_b true) ⟨Nat.le_refl _, Nat.le_refl _⟩ ?_
    exact ⟨_, rfl, Or.inl ⟨rfl, (of_decide_eq_true c1).2, rfl⟩, rfl⟩
  · refine x_iconst (v := nI 0) dX5_takesApart_10 (by decide) ?_
    refine x_iret dX5_takesApart_11 rfl (nar_b false) ⟨Nat.le_refl _, Nat.le_refl _⟩ ?_
    exact ⟨_, rfl, Or.inr ⟨rfl, fun q => of_decide_eq_false c1 ⟨Nat.zero_le _, q⟩, rfl⟩, rfl⟩
theorem c_takesSort {x y z : Nat} (hx : x < 2 ^ 31) (hy : y < 2 ^ 31) (hz : z < 2 ^ 31) : zPi G MX5_takesSort 2 [.ref t, .int (nI x), .int (nI y), .int (nI z)] (tH h0 t J X) n (fun v h' => (v = nI 1 ∧ (x < 4 ∧ y ≤ 9 ∧ 1 ≤ z ∧ z ≤ 60) ∧ h' = tH h0 t J (va_up (va_up X 12 (va_up (X 12) x y)) 13 (va_up (X 13) x z))) ∨ (v = nI 0 ∧ ¬ (x < 4 ∧ y ≤ 9 ∧ 1 ≤ z ∧ z ≤ 60) ∧ h' = tH h0 t J X)) := by
  refine zCt.of rfl (Nat.le_of_ble_eq_true rfl) rfl ?_
  have K27 : ¬ (x < 4 ∧ y ≤ 9 ∧ 1 ≤ z ∧ z ≤ 60) → zEx G MX5_takesSort 2 0 0 27 [some (.ref t), some (.int (nI x)), some (.int (nI y)), some (.int (nI z))] [] (tH h0 t J X) n (0, 0) (fun r h' n' => ∃ v, r = some (.int v) ∧ ((v = nI 1 ∧ (x < 4 ∧ y ≤ 9 ∧ 1 ≤ z ∧ z ≤ 60) ∧ h' = tH h0 t J (va_up (va_up X 12 (va_up (X 12) x y)) 13 (va_up (X 13) x z))) ∨ (v = nI 0 ∧ ¬ (x < 4 ∧ y ≤ 9 ∧ 1 ≤ z ∧ z ≤ 60) ∧ h' = tH h0 t J X)) ∧ n' = n) := by
    intro hq
    refine x_iconst (v := nI 0) dX5_takesSort_27 (by decide) ?_
    refine x_iret dX5_takesSort_28 rfl (nar_b false) ⟨Nat.le_refl _, Nat.le_refl _⟩ ?_
    exact ⟨_, rfl, Or.inr ⟨rfl, hq, rfl⟩, rfl⟩
  refine x_iload_n dX5_takesSort_0 rfl ?_
  refine x_cSi1 dX5_takesSort_1 lkX5_99 mdX7_isSort stX7_isSort (by decide) (c_isSortN hx) (Nat.le_of_ble_eq_true rfl) ⟨Nat.le_refl _, Nat.le_refl _⟩ ?_
  refine b_if_eq (tgt := 27) dX5_takesSort_4 (by decide) (fun c1 => ?_) (fun c1 => ?_)
  · exact K27 (by have := of_decide_eq_false c1; omega)
  · have c1 := of_decide_eq_true c1
    refine x_iload_n dX5_takesSort_7 rfl ?_
    refine x_iconst (v := nI 0) dX5_takesSort_8 (by decide) ?_
    refine x_bipush (v := nI 9) dX5_takesSort_9 (by decide) ?_
    refine x_cSi3 dX5_takesSort_11 lkX5_85 mdX7_isWithin stX7_isWithin (by decide) (c_isWithin hy (by decide) (by decide)) (Nat.le_of_ble_eq_true rfl) ⟨Nat.le_refl _, Nat.le_refl _⟩ ?_
    refine b_if_eq (tgt := 27) dX5_takesSort_14 (by decide) (fun c2 => ?_) (fun c2 => ?_)
    · exact K27 (by have := of_decide_eq_false c2; omega)
    · have c2 := of_decide_eq_true c2
      refine x_iload_n dX5_takesSort_17 rfl ?_
      refine x_iconst (v := nI 1) dX5_takesSort_18 (by decide) ?_
      refine x_bipush (v := nI 60) dX5_takesSort_19 (by decide) ?_
      refine x_cSi3 dX5_takesSort_21 lkX5_85 mdX7_isWithin stX7_isWithin (by decide) (c_isWithin hz (by decide) (by decide)) (Nat.le_of_ble_eq_true rfl) ⟨Nat.le_refl _, Nat.le_refl _⟩ ?_
      refine b_if_ne (tgt := 29) dX5_takesSort_24 (by decide) (fun c3 => ?_) (fun c3 => ?_)
      · have c3 := of_decide_eq_true c3
        refine x_aload_n dX5_takesSort_29 rfl ?_
        refine x_getf dX5_takesSort_30 flX5_32 tH_0 rfl ?_
        refine x_iload_n dX5_takesSort_33 rfl ?_
        refine x_iload_n dX5_takesSort_34 rfl ?_
        refine x_cSV3 dX5_takesSort_35 lkX5_92 mdX7_put stX7_put (by decide) (c_putN (tH_k (q := 12) (by decide) (by decide)) (by decide) (by simp only [tLen]; omega)) (Nat.le_of_ble_eq_true rfl) ⟨Nat.le_refl _, Nat.le_refl _⟩ ?_
        rintro h' rfl
        rw [tH_up (by decide) (by decide)]
        refine x_aload_n dX5_takesSort_38 rfl ?_
        refine x_getf dX5_takesSort_39 flX5_35 tH_0 rfl ?_
        refine x_iload_n dX5_takesSort_42 rfl ?_
        refine x_iload_n dX5_takesSort_43 rfl ?_
        refine x_cSV3 dX5_takesSort_44 lkX5_92 mdX7_put stX7_put (by decide) (c_putN (tH_k (q := 13) (by decide) (by decide)) (by decide) (by simp only [tLen]; omega)) (Nat.le_of_ble_eq_true rfl) ⟨Nat.le_refl _, Nat.le_refl _⟩ ?_
        rintro h' rfl
        rw [tH_up (by decide) (by decide)]
        refine x_iconst (v := nI 1) dX5_takesSort_47 (by decide) ?_
        refine x_iret dX5_takesSort_48 rfl (nar_b true) ⟨Nat.le_refl _, Nat.le_refl _⟩ ?_
        exact ⟨_, rfl, Or.inl ⟨rfl, by omega, rfl⟩, rfl⟩
      · exact K27 (by have := of_decide_eq_false c3; omega)
theorem c_takesTruth {x y : Nat} (hx : x < 2 ^ 31) (hy : y < 2 ^ 31) (h4 : J 4 ≤ 4) (h24 : J 24 ≤ 8) : zPi G MX5_takesTruth 1 [.ref t, .int (nI x), .int (nI y)] (tH h0 t J X) n (fun v h' => (v = nI 1 ∧ (x < J 4 ∧ y < J 24) ∧ h' = tH h0 t (va_up J 5 (J 5 ||| 2 ^ (8 * x + y))) X) ∨ (v = nI 0 ∧ ¬ (x < J 4 ∧ y < J 24) ∧ h' = tH h0 t J X)) := by
  refine zCt.of rfl (Nat.le_of_ble_eq_true rfl) rfl ?_
  have K25 : ¬ (x < J 4 ∧ y < J 24) → zEx G MX5_takesTruth 1 0 0 25 [some (.ref t), some (.int (nI x)), some (.int (nI y))] [] (tH h0 t J X) n (0, 0) (fun r h' n' => ∃ v, r = some (.int v) ∧ ((v = nI 1 ∧ (x < J 4 ∧ y < J 24) ∧ h' = tH h0 t (va_up J 5 (J 5 ||| 2 ^ (8 * x + y))) X) ∨ (v = nI 0 ∧ ¬ (x < J 4 ∧ y < J 24) ∧ h' = tH h0 t J X)) ∧ n' = n) := by
    intro hq
    refine x_iconst (v := nI 0) dX5_takesTruth_25 (by decide) ?_
    refine x_iret dX5_takesTruth_26 rfl (nar_b false) ⟨Nat.le_refl _, Nat.le_refl _⟩ ?_
    exact ⟨_, rfl, Or.inr ⟨rfl, hq, rfl⟩, rfl⟩
  refine x_iload_n dX5_takesTruth_0 rfl ?_
  refine x_aload_n dX5_takesTruth_1 rfl ?_
  refine x_getf dX5_takesTruth_2 flX5_41 tH_0 rfl ?_
  refine x_cSi2 dX5_takesTruth_5 lkX5_96 mdX7_isBelow stX7_isBelow (by decide) (c_isBelowN hx (by omega)) (Nat.le_of_ble_eq_true rfl) ⟨Nat.le_refl _, Nat.le_refl _⟩ ?_
  refine b_if_eq (tgt := 25) dX5_takesTruth_8 (by decide) (fun c1 => ?_) (fun c1 => ?_)
  · exact K25 (by have := of_decide_eq_false c1; omega)
  · have c1 := of_decide_eq_true c1
    refine x_iload_n dX5_takesTruth_11 rfl ?_
    refine x_aload_n dX5_takesTruth_12 rfl ?_
    refine x_getf dX5_takesTruth_13 flX5_12 tH_0 rfl ?_
    refine x_getf dX5_takesTruth_16 flX5_82 tH_1 rfl ?_
    refine x_cSi2 dX5_takesTruth_19 lkX5_96 mdX7_isBelow stX7_isBelow (by decide) (c_isBelowN hy (by omega)) (Nat.le_of_ble_eq_true rfl) ⟨Nat.le_refl _, Nat.le_refl _⟩ ?_
    refine b_if_ne (tgt := 27) dX5_takesTruth_22 (by decide) (fun c2 => ?_) (fun c2 => ?_)
    · have c2 := of_decide_eq_true c2
      refine x_aload_n dX5_takesTruth_27 rfl ?_
      refine x_dup dX5_takesTruth_28 rfl ?_
      refine x_getf dX5_takesTruth_29 flX5_44 tH_0 rfl ?_
      refine x_iconst (v := nI 1) dX5_takesTruth_32 (by decide) ?_
      refine x_bipush (v := nI 8) dX5_takesTruth_33 (by decide) ?_
      refine x_iload_n dX5_takesTruth_35 rfl ?_
      refine n_imul dX5_takesTruth_36 ?_
      refine x_iload_n dX5_takesTruth_37 rfl ?_
      refine n_iadd dX5_takesTruth_38 ?_
      refine n_ishl dX5_takesTruth_39 (by omega) ?_
      refine n_ior dX5_takesTruth_40 ?_
      rw [Nat.one_mul]
      refine t_putT dX5_takesTruth_41 flX5_44 ftX5_5 (Nat.le_of_ble_eq_true rfl) rfl rfl ?_
      refine x_iconst (v := nI 1) dX5_takesTruth_44 (by decide) ?_
      refine x_iret dX5_takesTruth_45 rfl (nar_b true) ⟨Nat.le_refl _, Nat.le_refl _⟩ ?_
      exact ⟨_, rfl, Or.inl ⟨rfl, ⟨c1, c2⟩, rfl⟩, rfl⟩
    · exact K25 (by have := of_decide_eq_false c2; omega)
end ZS15
