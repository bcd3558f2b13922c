section ZS14
variable {G : zG} {n : Nat} {h0 : zF} {t : Nat} {J : Nat → Nat} {X : Nat → Nat → Nat} {T : zT}
def clJ (J : Nat → Nat) : Nat → Nat := va_up (va_up (va_up (va_up J 24 0) 28 0) 29 0) 30 0
theorem c_thClear : zPv G MX4_clear 1 [.ref (t + 1)] (tH h0 t J X) n (fun h' => h' = tH h0 t (clJ J) (va_up X 8 (va_up (X 8) 0 1))) := by
  refine zCt.of rfl (Nat.le_of_ble_eq_true rfl) rfl ?_
  refine x_aload_n dX4_clear_0 rfl ?_
  refine x_iconst (v := nI 0) dX4_clear_1 (by decide) ?_
  refine t_putG dX4_clear_2 flX4_33 ftX4_4 (Nat.le_of_ble_eq_true rfl) rfl rfl ?_
  refine x_aload_n dX4_clear_5 rfl ?_
  refine x_iconst (v := nI 0) dX4_clear_6 (by decide) ?_
  refine t_putG dX4_clear_7 flX4_37 ftX4_8 (Nat.le_of_ble_eq_true rfl) rfl rfl ?_
  refine x_aload_n dX4_clear_10 rfl ?_
  refine x_iconst (v := nI 0) dX4_clear_11 (by decide) ?_
  refine t_putG dX4_clear_12 flX4_40 ftX4_9 (Nat.le_of_ble_eq_true rfl) rfl rfl ?_
  refine x_aload_n dX4_clear_15 rfl ?_
  refine x_iconst (v := nI 0) dX4_clear_16 (by decide) ?_
  refine t_putG dX4_clear_17 flX4_43 ftX4_10 (Nat.le_of_ble_eq_true rfl) rfl rfl ?_
  refine x_aload_n dX4_clear_20 rfl ?_
  refine x_getf dX4_clear_21 flX4_30 tH_1 rfl ?_
  refine x_iconst (v := nI 0) dX4_clear_24 (by decide) ?_
  refine x_iconst (v := nI 1) dX4_clear_25 (by decide) ?_
  refine x_cSV3 dX4_clear_26 lkX4_46 mdX7_put stX7_put (by decide) (c_putN (tH_k (q := 8) (by decide) (by decide)) (by decide) (by decide)) (Nat.le_of_ble_eq_true rfl) ⟨Nat.le_refl _, Nat.le_refl _⟩ ?_
  rintro h' rfl
  rw [tH_up (by decide) (by decide)]
  refine x_vret dX4_clear_29 rfl ⟨Nat.le_refl _, Nat.le_refl _⟩ ?_
  exact ⟨rfl, rfl, rfl⟩
def sbK (J : Nat → Nat) (b kd : Nat) : Nat → Nat := va_up (va_up (va_up J 28 (if kd = 1 then J 28 ||| b else J 28)) 29 (if kd = 2 then J 29 ||| b else J 29)) 30 (if kd = 0 then J 30 else J 30 ||| b)
theorem c_sortByKind {b kd : Nat} (hk : kd < 2 ^ 31) : zPv G MX4_sortByKind 0 [.ref (t + 1), .int (nI b), .int (nI kd)] (tH h0 t J X) n (fun h' => h' = tH h0 t (sbK J b kd) X) := by
  refine zCt.of rfl (Nat.le_of_ble_eq_true rfl) rfl ?_
  have K30 : ∀ J' : Nat → Nat, va_up J' 30 (if kd = 0 then J' 30 else J' 30 ||| b) = sbK J b kd → zEx G MX4_sortByKind 0 0 0 30 [some (.ref (t + 1)), some (.int (nI b)), some (.int (nI kd))] [] (tH h0 t J' X) n (0, 0) (fun r h' n' => r = none ∧ h' = tH h0 t (sbK J b kd) X ∧ n' = n) := by
    intro J' hJ
    rw [← hJ]
    refine x_iload_n dX4_sortByKind_30 rfl ?_
    refine n_if_eq (tgt := 44) dX4_sortByKind_31 (by decide) (by omega) (fun c1 => ?_) (fun c1 => ?_)
    · refine x_vret dX4_sortByKind_44 rfl ⟨Nat.le_refl _, Nat.le_refl _⟩ ?_
      exact ⟨rfl, by rw [if_pos c1, up_self], rfl⟩
    · refine x_aload_n dX4_sortByKind_34 rfl ?_
      refine x_dup dX4_sortByKind_35 rfl ?_
      refine x_getf dX4_sortByKind_36 flX4_43 tH_1 rfl ?_
      refine x_iload_n dX4_sortByKind_39 rfl ?_
      refine n_ior dX4_sortByKind_40 ?_
      refine t_putG dX4_sortByKind_41 flX4_43 ftX4_10 (Nat.le_of_ble_eq_true rfl) rfl rfl ?_
      refine x_vret dX4_sortByKind_44 rfl ⟨Nat.le_refl _, Nat.le_refl _⟩ ?_
      exact ⟨rfl, by rw [if_neg c1], rfl⟩
  have K15 : ∀ J' : Nat → Nat, J' = va_up J 28 (if kd = 1 then J 28 ||| b else J 28) → zEx G MX4_sortByKind 0 0 0 15 [some (.ref (t + 1)), some (.int (nI b)), some (.int (nI kd))] [] (tH h0 t J' X) n (0, 0) (fun r h' n' => r = none ∧ h' = tH h0 t (sbK J b kd) X ∧ n' = n) := by
    intro J' hJ
    refine x_iload_n dX4_sortByKind_15 rfl ?_
    refine x_iconst (v := nI 2) dX4_sortByKind_16 (by decide) ?_
    refine n_icmp_ne (tgt := 30) dX4_sortByKind_17 (by decide) (by omega) (by omega) (fun c1 => ?_) (fun c1 => ?_)
    · exact K30 J' (by subst hJ; funext j; simp only [sbK, va_up]; grind)
    · refine x_aload_n dX4_sortByKind_20 rfl ?_
      refine x_dup dX4_sortByKind_21 rfl ?_
      refine x_getf dX4_sortByKind_22 flX4_40 tH_1 rfl ?_
      refine x_iload_n dX4_sortByKind_25 rfl ?_
      refine n_ior dX4_sortByKind_26 ?_
      refine t_putG dX4_sortByKind_27 flX4_40 ftX4_9 (Nat.le_of_ble_eq_true rfl) rfl rfl ?_
      exact K30 _ (by subst hJ; funext j; simp only [sbK, va_up]; grind)
  refine x_iload_n dX4_sortByKind_0 rfl ?_
  refine x_iconst (v := nI 1) dX4_sortByKind_1 (by decide) ?_
  refine n_icmp_ne (tgt := 15) dX4_sortByKind_2 (by decide) (by omega) (by omega) (fun c1 => ?_) (fun c1 => ?_)
  · exact K15 J (by rw [if_neg c1, up_self])
  · refine x_aload_n dX4_sortByKind_5 rfl ?_
    refine x_dup dX4_sortByKind_6 rfl ?_
    refine x_getf dX4_sortByKind_7 flX4_37 tH_1 rfl ?_
    refine x_iload_n dX4_sortByKind_10 rfl ?_
    refine n_ior dX4_sortByKind_11 ?_
    refine t_putG dX4_sortByKind_12 flX4_37 ftX4_8 (Nat.le_of_ble_eq_true rfl) rfl rfl ?_
    exact K15 _ (by rw [if_pos c1])
def adX (X : Nat → Nat → Nat) (b s x0 x2 x3 : Nat) : Nat → Nat → Nat := fun k j => if b ≤ j ∧ j < b + s then (if k = 6 then X 6 (j - b) + x0 else if k = 7 then X 7 (j - b) + x2 else if k = 8 then X 8 (j - b) * x3 else X k j) else X k j
def ad4 (X : Nat → Nat → Nat) (m x0 x1 x2 x3 : Nat) : Nat → Nat → Nat := va_up (va_up (va_up (va_up X 2 (va_up (X 2) m x0)) 3 (va_up (X 3) m x1)) 4 (va_up (X 4) m x2)) 5 (va_up (X 5) m x3)
theorem or_pow {s m : Nat} (h : s < 2 ^ m) : s ||| 2 ^ m = 2 ^ m + s := by
  have := or_add 1 h
  rw [Nat.one_mul] at this
  rw [this, Nat.add_comm]
set_option maxRecDepth 100000 in
theorem c_thAdd {q : Nat} {N : Nat → Nat} (hN : h0 q = some (iA 4 N)) (ho : q < t ∨ t + 14 ≤ q) (hm : J 24 < 8) (h1 : N 1 < 2 ^ 31) : zPv G MX4_add 1 [.ref (t + 1), .ref q] (tH h0 t J X) n (fun h' => h' = tH h0 t (va_up (sbK J (2 ^ J 24) (N 1)) 24 (J 24 + 1)) (adX (ad4 X (J 24) (N 0) (N 1) (N 2) (N 3)) (2 ^ J 24) (2 ^ J 24) (N 0) (N 2) (N 3))) := by
  refine zCt.of rfl (Nat.le_of_ble_eq_true rfl) rfl ?_
  have hq : ∀ J X, tH h0 t J X q = some (iA 4 N) := fun _ _ => (tH_out ho).trans hN
  have hpow : 2 ^ J 24 ≤ 128 := (Nat.pow_le_pow_right (by decide) (by omega) : 2 ^ J 24 ≤ 2 ^ 7)
  refine x_aload_n dX4_add_0 rfl ?_
  refine x_getf dX4_add_1 flX4_33 tH_1 rfl ?_
  refine x_bipush (v := nI 8) dX4_add_4 (by decide) ?_
  refine n_icmp_lt (tgt := 10) dX4_add_6 (by decide) (by omega) (by omega) (fun c0 => ?_) (fun c0 => ?_)
  · refine x_aload_n dX4_add_10 rfl ?_
    refine x_getf dX4_add_11 flX4_9 tH_1 rfl ?_
    refine x_aload_n dX4_add_14 rfl ?_
    refine x_getf dX4_add_15 flX4_33 tH_1 rfl ?_
    refine x_aload_n dX4_add_18 rfl ?_
    refine x_iconst (v := nI 0) dX4_add_19 (by decide) ?_
    refine x_cSi2 dX4_add_20 lkX4_50 mdX7_at stX7_at (by decide) (c_atN (hq _ _) (by decide) (by decide)) (Nat.le_of_ble_eq_true rfl) ⟨Nat.le_refl _, Nat.le_refl _⟩ ?_
    refine x_cSV3 dX4_add_23 lkX4_46 mdX7_put stX7_put (by decide) (c_putN (tH_k (q := 2) (by decide) (by decide)) (by decide) (by simp only [tLen]; omega)) (Nat.le_of_ble_eq_true rfl) ⟨Nat.le_refl _, Nat.le_refl _⟩ ?_
    rintro h' rfl
    rw [tH_up (by decide) (by decide)]
    refine x_aload_n dX4_add_26 rfl ?_
    refine x_getf dX4_add_27 flX4_15 tH_1 rfl ?_
    refine x_aload_n dX4_add_30 rfl ?_
    refine x_getf dX4_add_31 flX4_33 tH_1 rfl ?_
    refine x_aload_n dX4_add_34 rfl ?_
    refine x_iconst (v := nI 1) dX4_add_35 (by decide) ?_
    refine x_cSi2 dX4_add_36 lkX4_50 mdX7_at stX7_at (by decide) (c_atN (hq _ _) (by decide) (by decide)) (Nat.le_of_ble_eq_true rfl) ⟨Nat.le_refl _, Nat.le_refl _⟩ ?_
    refine x_cSV3 dX4_add_39 lkX4_46 mdX7_put stX7_put (by decide) (c_putN (tH_k (q := 3) (by decide) (by decide)) (by decide) (by simp only [tLen]; omega)) (Nat.le_of_ble_eq_true rfl) ⟨Nat.le_refl _, Nat.le_refl _⟩ ?_
    rintro h' rfl
    rw [tH_up (by decide) (by decide)]
    refine x_aload_n dX4_add_42 rfl ?_
    refine x_getf dX4_add_43 flX4_18 tH_1 rfl ?_
    refine x_aload_n dX4_add_46 rfl ?_
    refine x_getf dX4_add_47 flX4_33 tH_1 rfl ?_
    refine x_aload_n dX4_add_50 rfl ?_
    refine x_iconst (v := nI 2) dX4_add_51 (by decide) ?_
    refine x_cSi2 dX4_add_52 lkX4_50 mdX7_at stX7_at (by decide) (c_atN (hq _ _) (by decide) (by decide)) (Nat.le_of_ble_eq_true rfl) ⟨Nat.le_refl _, Nat.le_refl _⟩ ?_
    refine x_cSV3 dX4_add_55 lkX4_46 mdX7_put stX7_put (by decide) (c_putN (tH_k (q := 4) (by decide) (by decide)) (by decide) (by simp only [tLen]; omega)) (Nat.le_of_ble_eq_true rfl) ⟨Nat.le_refl _, Nat.le_refl _⟩ ?_
    rintro h' rfl
    rw [tH_up (by decide) (by decide)]
    refine x_aload_n dX4_add_58 rfl ?_
    refine x_getf dX4_add_59 flX4_21 tH_1 rfl ?_
    refine x_aload_n dX4_add_62 rfl ?_
    refine x_getf dX4_add_63 flX4_33 tH_1 rfl ?_
    refine x_aload_n dX4_add_66 rfl ?_
    refine x_iconst (v := nI 3) dX4_add_67 (by decide) ?_
    refine x_cSi2 dX4_add_68 lkX4_50 mdX7_at stX7_at (by decide) (c_atN (hq _ _) (by decide) (by decide)) (Nat.le_of_ble_eq_true rfl) ⟨Nat.le_refl _, Nat.le_refl _⟩ ?_
    refine x_cSV3 dX4_add_71 lkX4_46 mdX7_put stX7_put (by decide) (c_putN (tH_k (q := 5) (by decide) (by decide)) (by decide) (by simp only [tLen]; omega)) (Nat.le_of_ble_eq_true rfl) ⟨Nat.le_refl _, Nat.le_refl _⟩ ?_
    rintro h' rfl
    rw [tH_up (by decide) (by decide)]
    refine x_eqX (X' := ad4 X (J 24) (N 0) (N 1) (N 2) (N 3)) rfl ?_
    generalize ad4 X (J 24) (N 0) (N 1) (N 2) (N 3) = Y
    refine x_iconst (v := nI 1) dX4_add_74 (by decide) ?_
    refine x_aload_n dX4_add_75 rfl ?_
    refine x_getf dX4_add_76 flX4_33 tH_1 rfl ?_
    refine n_ishl dX4_add_79 (by omega) ?_
    rw [Nat.one_mul]
    refine x_is2 dX4_add_80 (by decide) rfl ?_
    refine x_aload_n dX4_add_81 rfl ?_
    refine x_iload_n dX4_add_82 rfl ?_
    refine x_aload_n dX4_add_83 rfl ?_
    refine x_iconst (v := nI 1) dX4_add_84 (by decide) ?_
    refine x_cSi2 dX4_add_85 lkX4_50 mdX7_at stX7_at (by decide) (c_atN (hq _ _) (by decide) (by decide)) (Nat.le_of_ble_eq_true rfl) ⟨Nat.le_refl _, Nat.le_refl _⟩ ?_
    refine x_cVV2 dX4_add_88 lkX4_54 mdX4_sortByKind isX4_sortByKind rfl rfl tH_1 (by decide) (c_sortByKind h1) (Nat.le_of_ble_eq_true rfl) ⟨Nat.le_refl _, Nat.le_refl _⟩ ?_
    rintro h' rfl
    refine x_iconst (v := nI 0) dX4_add_91 (by decide) ?_
    refine x_is3 dX4_add_92 (by decide) rfl ?_
    have e24 : sbK J (2 ^ J 24) (N 1) 24 = J 24 := rfl
    generalize hJ2 : sbK J (2 ^ J 24) (N 1) = J2 at e24
    refine x_eqX (X' := adX Y (2 ^ J 24) 0 (N 0) (N 2) (N 3)) (by funext k j; simp only [adX]; rw [if_neg (by omega)]) ?_
    refine z_up (2 ^ J 24) (P := fun s => zEx G MX4_add 1 0 0 93 [some (.ref (t + 1)), some (.ref q), some (.int (nI (2 ^ J 24))), some (.int (nI s))] [] (tH h0 t J2 (adX Y (2 ^ J 24) s (N 0) (N 2) (N 3))) n (0, 0) _) ?_ 0 (Nat.zero_le _)
    intro s hs ih
    refine x_iload_n dX4_add_93 rfl ?_
    refine x_iload_n dX4_add_94 rfl ?_
    refine n_icmp_ge (tgt := 176) dX4_add_95 (by decide) (by omega) (by omega) (fun c1 => ?_) (fun c1 => ?_)
    · have hse : s = 2 ^ J 24 := by omega
      subst hse
      refine x_aload_n dX4_add_176 rfl ?_
      refine x_dup dX4_add_177 rfl ?_
      refine x_getf dX4_add_178 flX4_33 tH_1 rfl ?_
      refine x_iconst (v := nI 1) dX4_add_181 (by decide) ?_
      refine n_iadd dX4_add_182 ?_
      rw [e24]
      refine t_putG dX4_add_183 flX4_33 ftX4_4 (Nat.le_of_ble_eq_true rfl) rfl rfl ?_
      refine x_vret dX4_add_186 rfl ⟨Nat.le_refl _, Nat.le_refl _⟩ ?_
      exact ⟨rfl, rfl, rfl⟩
    · have eo := or_pow (s := s) (m := J 24) (by omega)
      have ih9 := ih (by omega)
      have v6 : ∀ k, (adX Y (2 ^ J 24) s (N 0) (N 2) (N 3)) k s = Y k s := fun k => by unfold adX; rw [if_neg (by omega)]
      refine x_aload_n dX4_add_98 rfl ?_
      refine x_getf dX4_add_99 flX4_24 tH_1 rfl ?_
      refine x_iload_n dX4_add_102 rfl ?_
      refine x_iload_n dX4_add_103 rfl ?_
      refine n_ior dX4_add_104 ?_
      rw [eo]
      refine x_aload_n dX4_add_105 rfl ?_
      refine x_getf dX4_add_106 flX4_24 tH_1 rfl ?_
      refine x_iload_n dX4_add_109 rfl ?_
      refine x_cSi2 dX4_add_110 lkX4_50 mdX7_at stX7_at (by decide) (c_atN (tH_k (q := 6) (by decide) (by decide)) (by decide) (by simp only [tLen]; omega)) (Nat.le_of_ble_eq_true rfl) ⟨Nat.le_refl _, Nat.le_refl _⟩ ?_
      refine x_aload_n dX4_add_113 rfl ?_
      refine x_iconst (v := nI 0) dX4_add_114 (by decide) ?_
      refine x_cSi2 dX4_add_115 lkX4_50 mdX7_at stX7_at (by decide) (c_atN (hq _ _) (by decide) (by decide)) (Nat.le_of_ble_eq_true rfl) ⟨Nat.le_refl _, Nat.le_refl _⟩ ?_
      refine n_iadd dX4_add_118 ?_
      refine x_cSV3 dX4_add_119 lkX4_46 mdX7_put stX7_put (by decide) (c_putN (tH_k (q := 6) (by decide) (by decide)) (by decide) (by simp only [tLen]; omega)) (Nat.le_of_ble_eq_true rfl) ⟨Nat.le_refl _, Nat.le_refl _⟩ ?_
      rintro h' rfl
      rw [tH_up (by decide) (by decide)]
      refine x_aload_n dX4_add_122 rfl ?_
      refine x_getf dX4_add_123 flX4_27 tH_1 rfl ?_
      refine x_iload_n dX4_add_126 rfl ?_
      refine x_iload_n dX4_add_127 rfl ?_
      refine n_ior dX4_add_128 ?_
      rw [eo]
      refine x_aload_n dX4_add_129 rfl ?_
      refine x_getf dX4_add_130 flX4_27 tH_1 rfl ?_
      refine x_iload_n dX4_add_133 rfl ?_
      refine x_cSi2 dX4_add_134 lkX4_50 mdX7_at stX7_at (by decide) (c_atN (tH_k (q := 7) (by decide) (by decide)) (by decide) (by simp only [tLen]; omega)) (Nat.le_of_ble_eq_true rfl) ⟨Nat.le_refl _, Nat.le_refl _⟩ ?_
      refine x_aload_n dX4_add_137 rfl ?_
      refine x_iconst (v := nI 2) dX4_add_138 (by decide) ?_
      refine x_cSi2 dX4_add_139 lkX4_50 mdX7_at stX7_at (by decide) (c_atN (hq _ _) (by decide) (by decide)) (Nat.le_of_ble_eq_true rfl) ⟨Nat.le_refl _, Nat.le_refl _⟩ ?_
      refine n_iadd dX4_add_142 ?_
      refine x_cSV3 dX4_add_143 lkX4_46 mdX7_put stX7_put (by decide) (c_putN (tH_k (q := 7) (by decide) (by decide)) (by decide) (by simp only [tLen]; omega)) (Nat.le_of_ble_eq_true rfl) ⟨Nat.le_refl _, Nat.le_refl _⟩ ?_
      rintro h' rfl
      rw [tH_up (by decide) (by decide)]
      refine x_aload_n dX4_add_146 rfl ?_
      refine x_getf dX4_add_147 flX4_30 tH_1 rfl ?_
      refine x_iload_n dX4_add_150 rfl ?_
      refine x_iload_n dX4_add_151 rfl ?_
      refine n_ior dX4_add_152 ?_
      rw [eo]
      refine x_aload_n dX4_add_153 rfl ?_
      refine x_getf dX4_add_154 flX4_30 tH_1 rfl ?_
      refine x_iload_n dX4_add_157 rfl ?_
      refine x_cSi2 dX4_add_158 lkX4_50 mdX7_at stX7_at (by decide) (c_atN (tH_k (q := 8) (by decide) (by decide)) (by decide) (by simp only [tLen]; omega)) (Nat.le_of_ble_eq_true rfl) ⟨Nat.le_refl _, Nat.le_refl _⟩ ?_
      refine x_aload_n dX4_add_161 rfl ?_
      refine x_iconst (v := nI 3) dX4_add_162 (by decide) ?_
      refine x_cSi2 dX4_add_163 lkX4_50 mdX7_at stX7_at (by decide) (c_atN (hq _ _) (by decide) (by decide)) (Nat.le_of_ble_eq_true rfl) ⟨Nat.le_refl _, Nat.le_refl _⟩ ?_
      refine n_imul dX4_add_166 ?_
      refine x_cSV3 dX4_add_167 lkX4_46 mdX7_put stX7_put (by decide) (c_putN (tH_k (q := 8) (by decide) (by decide)) (by decide) (by simp only [tLen]; omega)) (Nat.le_of_ble_eq_true rfl) ⟨Nat.le_refl _, Nat.le_refl _⟩ ?_
      rintro h' rfl
      rw [tH_up (by decide) (by decide)]
      refine n_ii3 (w := 1) dX4_add_170 (by decide) (by decide) rfl ?_
      refine x_goto (tgt := 93) dX4_add_173 (by decide) ?_
      refine x_eqX ?_ ih9
      funext k j
      simp only [va_up, adX, ite_app]
      grind
  · omega
end ZS14
