section ZS16
variable {G : zG} {n : Nat} {h0 : zF} {t q : Nat} {J : Nat → Nat} {X : Nat → Nat → Nat} {T : zT} {N : Nat → Nat}
def prX (X : Nat → Nat → Nat) (m x0 x1 x2 : Nat) : Nat → Nat → Nat := va_up (va_up (va_up X 9 (va_up (X 9) m x0)) 10 (va_up (X 10) m x1)) 11 (va_up (X 11) m x2)
theorem c_takesParcel (hN : h0 q = some (iA 4 N)) (ho : q < t ∨ t + 14 ≤ q) (h4 : J 4 ≤ 4) (hb : ∀ j, j < 4 → N j < 2 ^ 31) : zPi G MX5_takesParcel 1 [.ref t, .ref q] (tH h0 t J X) n (fun v h' => (v = nI 1 ∧ (J 4 ≠ 4 ∧ N 0 ≤ 9 ∧ N 1 ≤ 1 ∧ 1 ≤ N 2 ∧ N 2 ≤ 2) ∧ h' = tH h0 t (va_up J 4 (J 4 + 1)) (prX X (J 4) (N 0) (N 1) (N 2))) ∨ (v = nI 0 ∧ ¬ (J 4 ≠ 4 ∧ N 0 ≤ 9 ∧ N 1 ≤ 1 ∧ 1 ≤ N 2 ∧ N 2 ≤ 2) ∧ h' = tH h0 t J X)) := by
  refine zCt.of rfl (Nat.le_of_ble_eq_true rfl) rfl ?_
  have hq : ∀ J X, tH h0 t J X q = some (iA 4 N) := fun _ _ => (tH_out ho).trans hN
  have b0 := hb 0 (by decide)
  have b1 := hb 1 (by decide)
  have b2 := hb 2 (by decide)
  have K48 : ¬ (J 4 ≠ 4 ∧ N 0 ≤ 9 ∧ N 1 ≤ 1 ∧ 1 ≤ N 2 ∧ N 2 ≤ 2) → zEx G MX5_takesParcel 1 0 0 48 [some (.ref t), some (.ref q)] [] (tH h0 t J X) n (0, 0) (fun r h' n' => ∃ v, r = some (.int v) ∧ ((v = nI 1 ∧ (J 4 ≠ 4 ∧ N 0 ≤ 9 ∧ N 1 ≤ 1 ∧ 1 ≤ N 2 ∧ N 2 ≤ 2) ∧ h' = tH h0 t (va_up J 4 (J 4 + 1)) (prX X (J 4) (N 0) (N 1) (N 2))) ∨ (v = nI 0 ∧ ¬ (J 4 ≠ 4 ∧ N 0 ≤ 9 ∧ N 1 ≤ 1 ∧ 1 ≤ N 2 ∧ N 2 ≤ 2) ∧ h' = tH h0 t J X)) ∧ n' = n) := by
    intro hq
    refine x_iconst (v := nI 0) dX5_takesParcel_48 (by decide) ?_
    refine x_iret dX5_takesParcel_49 rfl (nar_b false) ⟨Nat.le_refl _, Nat.le_refl _⟩ ?_
    exact ⟨_, rfl, Or.inr ⟨rfl, hq, rfl⟩, rfl⟩
  refine x_aload_n dX5_takesParcel_0 rfl ?_
  refine x_getf dX5_takesParcel_1 flX5_41 tH_0 rfl ?_
  refine x_iconst (v := nI 4) dX5_takesParcel_4 (by decide) ?_
  refine n_icmp_ge (tgt := 48) dX5_takesParcel_5 (by decide) (by omega) (by omega) (fun c0 => ?_) (fun c0 => ?_)
  · exact K48 (by omega)
  · refine x_aload_n dX5_takesParcel_8 rfl ?_
    refine x_iconst (v := nI 0) dX5_takesParcel_9 (by decide) ?_
    refine x_cSi2 dX5_takesParcel_10 lkX5_63 mdX7_at stX7_at (by decide) (c_atN (hq _ _) (by decide) (by decide)) (Nat.le_of_ble_eq_true rfl) ⟨Nat.le_refl _, Nat.le_refl _⟩ ?_
    refine x_iconst (v := nI 0) dX5_takesParcel_13 (by decide) ?_
    refine x_bipush (v := nI 9) dX5_takesParcel_14 (by decide) ?_
    refine x_cSi3 dX5_takesParcel_16 lkX5_85 mdX7_isWithin stX7_isWithin (by decide) (c_isWithin (by omega) (by decide) (by decide)) (Nat.le_of_ble_eq_true rfl) ⟨Nat.le_refl _, Nat.le_refl _⟩ ?_
    refine b_if_eq (tgt := 48) dX5_takesParcel_19 (by decide) (fun c1 => ?_) (fun c1 => ?_)
    · exact K48 (by have := of_decide_eq_false c1; omega)
    · have c1 := of_decide_eq_true c1
      refine x_aload_n dX5_takesParcel_22 rfl ?_
      refine x_iconst (v := nI 1) dX5_takesParcel_23 (by decide) ?_
      refine x_cSi2 dX5_takesParcel_24 lkX5_63 mdX7_at stX7_at (by decide) (c_atN (hq _ _) (by decide) (by decide)) (Nat.le_of_ble_eq_true rfl) ⟨Nat.le_refl _, Nat.le_refl _⟩ ?_
      refine x_iconst (v := nI 0) dX5_takesParcel_27 (by decide) ?_
      refine x_iconst (v := nI 1) dX5_takesParcel_28 (by decide) ?_
      refine x_cSi3 dX5_takesParcel_29 lkX5_85 mdX7_isWithin stX7_isWithin (by decide) (c_isWithin (by omega) (by decide) (by decide)) (Nat.le_of_ble_eq_true rfl) ⟨Nat.le_refl _, Nat.le_refl _⟩ ?_
      refine b_if_eq (tgt := 48) dX5_takesParcel_32 (by decide) (fun c2 => ?_) (fun c2 => ?_)
      · exact K48 (by have := of_decide_eq_false c2; omega)
      · have c2 := of_decide_eq_true c2
        refine x_aload_n dX5_takesParcel_35 rfl ?_
        refine x_iconst (v := nI 2) dX5_takesParcel_36 (by decide) ?_
        refine x_cSi2 dX5_takesParcel_37 lkX5_63 mdX7_at stX7_at (by decide) (c_atN (hq _ _) (by decide) (by decide)) (Nat.le_of_ble_eq_true rfl) ⟨Nat.le_refl _, Nat.le_refl _⟩ ?_
        refine x_iconst (v := nI 1) dX5_takesParcel_40 (by decide) ?_
        refine x_iconst (v := nI 2) dX5_takesParcel_41 (by decide) ?_
        refine x_cSi3 dX5_takesParcel_42 lkX5_85 mdX7_isWithin stX7_isWithin (by decide) (c_isWithin (by omega) (by decide) (by decide)) (Nat.le_of_ble_eq_true rfl) ⟨Nat.le_refl _, Nat.le_refl _⟩ ?_
        refine b_if_ne (tgt := 50) dX5_takesParcel_45 (by decide) (fun c3 => ?_) (fun c3 => ?_)
        · have c3 := of_decide_eq_true c3
          refine x_aload_n dX5_takesParcel_50 rfl ?_
          refine x_getf dX5_takesParcel_51 flX5_18 tH_0 rfl ?_
          refine x_aload_n dX5_takesParcel_54 rfl ?_
          refine x_getf dX5_takesParcel_55 flX5_41 tH_0 rfl ?_
          refine x_aload_n dX5_takesParcel_58 rfl ?_
          refine x_iconst (v := nI 0) dX5_takesParcel_59 (by decide) ?_
          refine x_cSi2 dX5_takesParcel_60 lkX5_63 mdX7_at stX7_at (by decide) (c_atN (hq _ _) (by decide) (by decide)) (Nat.le_of_ble_eq_true rfl) ⟨Nat.le_refl _, Nat.le_refl _⟩ ?_
          refine x_cSV3 dX5_takesParcel_63 lkX5_92 mdX7_put stX7_put (by decide) (c_putN (tH_k (q := 9) (by decide) (by decide)) (by decide) (by simp only [tLen]; omega)) (Nat.le_of_ble_eq_true rfl) ⟨Nat.le_refl _, Nat.le_refl _⟩ ?_
          rintro h' rfl
          rw [tH_up (by decide) (by decide)]
          refine x_aload_n dX5_takesParcel_66 rfl ?_
          refine x_getf dX5_takesParcel_67 flX5_22 tH_0 rfl ?_
          refine x_aload_n dX5_takesParcel_70 rfl ?_
          refine x_getf dX5_takesParcel_71 flX5_41 tH_0 rfl ?_
          refine x_aload_n dX5_takesParcel_74 rfl ?_
          refine x_iconst (v := nI 1) dX5_takesParcel_75 (by decide) ?_
          refine x_cSi2 dX5_takesParcel_76 lkX5_63 mdX7_at stX7_at (by decide) (c_atN (hq _ _) (by decide) (by decide)) (Nat.le_of_ble_eq_true rfl) ⟨Nat.le_refl _, Nat.le_refl _⟩ ?_
          refine x_cSV3 dX5_takesParcel_79 lkX5_92 mdX7_put stX7_put (by decide) (c_putN (tH_k (q := 10) (by decide) (by decide)) (by decide) (by simp only [tLen]; omega)) (Nat.le_of_ble_eq_true rfl) ⟨Nat.le_refl _, Nat.le_refl _⟩ ?_
          rintro h' rfl
          rw [tH_up (by decide) (by decide)]
          refine x_aload_n dX5_takesParcel_82 rfl ?_
          refine x_getf dX5_takesParcel_83 flX5_25 tH_0 rfl ?_
          refine x_aload_n dX5_takesParcel_86 rfl ?_
          refine x_getf dX5_takesParcel_87 flX5_41 tH_0 rfl ?_
          refine x_aload_n dX5_takesParcel_90 rfl ?_
          refine x_iconst (v := nI 2) dX5_takesParcel_91 (by decide) ?_
          refine x_cSi2 dX5_takesParcel_92 lkX5_63 mdX7_at stX7_at (by decide) (c_atN (hq _ _) (by decide) (by decide)) (Nat.le_of_ble_eq_true rfl) ⟨Nat.le_refl _, Nat.le_refl _⟩ ?_
          refine x_cSV3 dX5_takesParcel_95 lkX5_92 mdX7_put stX7_put (by decide) (c_putN (tH_k (q := 11) (by decide) (by decide)) (by decide) (by simp only [tLen]; omega)) (Nat.le_of_ble_eq_true rfl) ⟨Nat.le_refl _, Nat.le_refl _⟩ ?_
          rintro h' rfl
          rw [tH_up (by decide) (by decide)]
          refine x_aload_n dX5_takesParcel_98 rfl ?_
          refine x_dup dX5_takesParcel_99 rfl ?_
          refine x_getf dX5_takesParcel_100 flX5_41 tH_0 rfl ?_
          refine x_iconst (v := nI 1) dX5_takesParcel_103 (by decide) ?_
          refine n_iadd dX5_takesParcel_104 ?_
          refine t_putT dX5_takesParcel_105 flX5_41 ftX5_4 (Nat.le_of_ble_eq_true rfl) rfl rfl ?_
          refine x_iconst (v := nI 1) dX5_takesParcel_108 (by decide) ?_
          refine x_iret dX5_takesParcel_109 rfl (nar_b true) ⟨Nat.le_refl _, Nat.le_refl _⟩ ?_
          exact ⟨_, rfl, Or.inl ⟨rfl, by omega, rfl⟩, rfl⟩
        · exact K48 (by have := of_decide_eq_false c3; omega)
theorem c_takesThing (hN : h0 q = some (iA 4 N)) (ho : q < t ∨ t + 14 ≤ q) (h24 : J 24 ≤ 8) (hb : ∀ j, j < 4 → N j < 2 ^ 31) : zPi G MX5_takesThing 2 [.ref t, .ref q] (tH h0 t J X) n (fun v h' => (v = nI 1 ∧ (J 24 < 8 ∧ (1 ≤ N 0 ∧ N 0 ≤ 20) ∧ N 1 < 4 ∧ N 2 < 10 ∧ 1 ≤ N 3 ∧ N 3 ≤ 9) ∧ h' = tH h0 t (va_up (sbK J (2 ^ J 24) (N 1)) 24 (J 24 + 1)) (adX (ad4 X (J 24) (N 0) (N 1) (N 2) (N 3)) (2 ^ J 24) (2 ^ J 24) (N 0) (N 2) (N 3))) ∨ (v = nI 0 ∧ ¬ (J 24 < 8 ∧ (1 ≤ N 0 ∧ N 0 ≤ 20) ∧ N 1 < 4 ∧ N 2 < 10 ∧ 1 ≤ N 3 ∧ N 3 ≤ 9) ∧ h' = tH h0 t J X)) := by
  refine zCt.of rfl (Nat.le_of_ble_eq_true rfl) rfl ?_
  have hq : ∀ J X, tH h0 t J X q = some (iA 4 N) := fun _ _ => (tH_out ho).trans hN
  have b0 := hb 0 (by decide)
  have b1 := hb 1 (by decide)
  have b2 := hb 2 (by decide)
  have b3 := hb 3 (by decide)
  generalize hQ : (fun (v : Int32) (h' : zF) => (v = nI 1 ∧ (J 24 < 8 ∧ (1 ≤ N 0 ∧ N 0 ≤ 20) ∧ N 1 < 4 ∧ N 2 < 10 ∧ 1 ≤ N 3 ∧ N 3 ≤ 9) ∧ h' = tH h0 t (va_up (sbK J (2 ^ J 24) (N 1)) 24 (J 24 + 1)) (adX (ad4 X (J 24) (N 0) (N 1) (N 2) (N 3)) (2 ^ J 24) (2 ^ J 24) (N 0) (N 2) (N 3))) ∨ (v = nI 0 ∧ ¬ (J 24 < 8 ∧ (1 ≤ N 0 ∧ N 0 ≤ 20) ∧ N 1 < 4 ∧ N 2 < 10 ∧ 1 ≤ N 3 ∧ N 3 ≤ 9) ∧ h' = tH h0 t J X)) = Q
  have K67 : ¬ (J 24 < 8 ∧ (1 ≤ N 0 ∧ N 0 ≤ 20) ∧ N 1 < 4 ∧ N 2 < 10 ∧ 1 ≤ N 3 ∧ N 3 ≤ 9) → zEx G MX5_takesThing 2 0 0 67 [some (.ref t), some (.ref q)] [] (tH h0 t J X) n (0, 0) (fun r h' n' => ∃ v, r = some (.int v) ∧ Q v h' ∧ n' = n) := by
    intro hq
    refine x_iconst (v := nI 0) dX5_takesThing_67 (by decide) ?_
    refine x_iret dX5_takesThing_68 rfl (nar_b false) ⟨Nat.le_refl _, Nat.le_refl _⟩ ?_
    exact ⟨_, rfl, by rw [← hQ]; exact Or.inr ⟨rfl, hq, rfl⟩, rfl⟩
  refine x_aload_n dX5_takesThing_0 rfl ?_
  refine x_getf dX5_takesThing_1 flX5_12 tH_0 rfl ?_
  refine x_getf dX5_takesThing_4 flX5_82 tH_1 rfl ?_
  refine x_bipush (v := nI 8) dX5_takesThing_7 (by decide) ?_
  refine n_icmp_ge (tgt := 67) dX5_takesThing_9 (by decide) (by omega) (by omega) (fun c0 => ?_) (fun c0 => ?_)
  · exact K67 (by omega)
  · refine x_aload_n dX5_takesThing_12 rfl ?_
    refine x_iconst (v := nI 0) dX5_takesThing_13 (by decide) ?_
    refine x_cSi2 dX5_takesThing_14 lkX5_63 mdX7_at stX7_at (by decide) (c_atN (hq _ _) (by decide) (by decide)) (Nat.le_of_ble_eq_true rfl) ⟨Nat.le_refl _, Nat.le_refl _⟩ ?_
    refine x_iconst (v := nI 1) dX5_takesThing_17 (by decide) ?_
    refine x_bipush (v := nI 20) dX5_takesThing_18 (by decide) ?_
    refine x_cSi3 dX5_takesThing_20 lkX5_85 mdX7_isWithin stX7_isWithin (by decide) (c_isWithin (by omega) (by decide) (by decide)) (Nat.le_of_ble_eq_true rfl) ⟨Nat.le_refl _, Nat.le_refl _⟩ ?_
    refine b_if_eq (tgt := 67) dX5_takesThing_23 (by decide) (fun c1 => ?_) (fun c1 => ?_)
    · exact K67 (by have := of_decide_eq_false c1; omega)
    · have c1 := of_decide_eq_true c1
      refine x_aload_n dX5_takesThing_26 rfl ?_
      refine x_iconst (v := nI 1) dX5_takesThing_27 (by decide) ?_
      refine x_cSi2 dX5_takesThing_28 lkX5_63 mdX7_at stX7_at (by decide) (c_atN (hq _ _) (by decide) (by decide)) (Nat.le_of_ble_eq_true rfl) ⟨Nat.le_refl _, Nat.le_refl _⟩ ?_
      refine x_iconst (v := nI 0) dX5_takesThing_31 (by decide) ?_
      refine x_iconst (v := nI 3) dX5_takesThing_32 (by decide) ?_
      refine x_cSi3 dX5_takesThing_33 lkX5_85 mdX7_isWithin stX7_isWithin (by decide) (c_isWithin (by omega) (by decide) (by decide)) (Nat.le_of_ble_eq_true rfl) ⟨Nat.le_refl _, Nat.le_refl _⟩ ?_
      refine b_if_eq (tgt := 67) dX5_takesThing_36 (by decide) (fun c2 => ?_) (fun c2 => ?_)
      · exact K67 (by have := of_decide_eq_false c2; omega)
      · have c2 := of_decide_eq_true c2
        refine x_aload_n dX5_takesThing_39 rfl ?_
        refine x_iconst (v := nI 2) dX5_takesThing_40 (by decide) ?_
        refine x_cSi2 dX5_takesThing_41 lkX5_63 mdX7_at stX7_at (by decide) (c_atN (hq _ _) (by decide) (by decide)) (Nat.le_of_ble_eq_true rfl) ⟨Nat.le_refl _, Nat.le_refl _⟩ ?_
        refine x_iconst (v := nI 0) dX5_takesThing_44 (by decide) ?_
        refine x_bipush (v := nI 9) dX5_takesThing_45 (by decide) ?_
        refine x_cSi3 dX5_takesThing_47 lkX5_85 mdX7_isWithin stX7_isWithin (by decide) (c_isWithin (by omega) (by decide) (by decide)) (Nat.le_of_ble_eq_true rfl) ⟨Nat.le_refl _, Nat.le_refl _⟩ ?_
        refine b_if_eq (tgt := 67) dX5_takesThing_50 (by decide) (fun c3 => ?_) (fun c3 => ?_)
        · exact K67 (by have := of_decide_eq_false c3; omega)
        · have c3 := of_decide_eq_true c3
          refine x_aload_n dX5_takesThing_53 rfl ?_
          refine x_iconst (v := nI 3) dX5_takesThing_54 (by decide) ?_
          refine x_cSi2 dX5_takesThing_55 lkX5_63 mdX7_at stX7_at (by decide) (c_atN (hq _ _) (by decide) (by decide)) (Nat.le_of_ble_eq_true rfl) ⟨Nat.le_refl _, Nat.le_refl _⟩ ?_
          refine x_iconst (v := nI 1) dX5_takesThing_58 (by decide) ?_
          refine x_bipush (v := nI 9) dX5_takesThing_59 (by decide) ?_
          refine x_cSi3 dX5_takesThing_61 lkX5_85 mdX7_isWithin stX7_isWithin (by decide) (c_isWithin (by omega) (by decide) (by decide)) (Nat.le_of_ble_eq_true rfl) ⟨Nat.le_refl _, Nat.le_refl _⟩ ?_
          refine b_if_ne (tgt := 69) dX5_takesThing_64 (by decide) (fun c4 => ?_) (fun c4 => ?_)
          · have c4 := of_decide_eq_true c4
            refine x_aload_n dX5_takesThing_69 rfl ?_
            refine x_getf dX5_takesThing_70 flX5_12 tH_0 rfl ?_
            refine x_aload_n dX5_takesThing_73 rfl ?_
            refine x_cVV1 dX5_takesThing_74 lkX5_88 mdX4_add isX4_add rfl rfl tH_1 (by decide) (c_thAdd hN ho (by omega) (by omega)) (Nat.le_of_ble_eq_true rfl) ⟨Nat.le_refl _, Nat.le_refl _⟩ ?_
            rintro h' rfl
            refine x_iconst (v := nI 1) dX5_takesThing_77 (by decide) ?_
            refine x_iret dX5_takesThing_78 rfl (nar_b true) ⟨Nat.le_refl _, Nat.le_refl _⟩ ?_
            exact ⟨_, rfl, by rw [← hQ]; exact Or.inl ⟨rfl, by omega, rfl⟩, rfl⟩
          · exact K67 (by have := of_decide_eq_false c4; omega)
end ZS16
