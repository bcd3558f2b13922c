def I1 : Nat → Nat := fun k => if k = 0 then 86 else 0
def A1 : Nat → Nat → Nat := fun k j => if k = 1 then chN j else 0
set_option maxRecDepth 100000 in
theorem first_ok : (layOK (rdT (ltr I1 A1) (I1 0) 201 0 (T0m A1)) ∧ eqT (vw A0m 0) (rdT (ltr I1 A1) (I1 0) 201 0 (T0m A1)).2) ∧ ∀ j, j < 4 → (rdT (ltr I1 A1) (I1 0) 201 0 (T0m A1)).2 15 j = A0m 15 j := by
  unfold layOK eqT
  decide +kernel
section ZN5
variable {G : zG} {c : Nat} {h : zF}
theorem cs_tx : ∀ i, i < 3 → txC (c + 1) i = cs0 c (1 + i) := fun i hi => by unfold cs0; rw [if_pos (by omega), show 1 + i - 1 = i by omega]
theorem cs_t1 : ∀ i, i < 14 → tC (c + 4) J0 X0 i = cs0 c (4 + i) := fun i hi => by unfold cs0; rw [if_neg (by omega), if_pos (by omega), show 4 + i - 4 = i by omega]
theorem cs_t2 : ∀ i, i < 14 → tC (c + 18) J0 X0 i = cs0 c (18 + i) := fun i hi => by unfold cs0; rw [if_neg (by omega), if_neg (by omega), if_pos (by omega), show 18 + i - 18 = i by omega]
theorem cs_w1 : ∀ i, i < 2 → woC (c + 32) i = cs0 c (32 + i) := fun i hi => by unfold cs0; rw [if_neg (by omega), if_neg (by omega), if_neg (by omega), if_pos (by omega), show 32 + i - 32 = i by omega]
theorem cs_w2 : ∀ i, i < 2 → woC (c + 34) i = cs0 c (34 + i) := fun i hi => by unfold cs0; rw [if_neg (by omega), if_neg (by omega), if_neg (by omega), if_neg (by omega), if_pos (by omega), show 34 + i - 34 = i by omega]
theorem cs_w3 : ∀ i, i < 2 → woC (c + 36) i = cs0 c (36 + i) := fun i hi => by unfold cs0; rw [if_neg (by omega), if_neg (by omega), if_neg (by omega), if_neg (by omega), if_neg (by omega), if_pos (by omega), show 36 + i - 36 = i by omega]
theorem cs_fi : ∀ i, i < 6 → fiC (c + 38) i = cs0 c (38 + i) := fun i hi => by unfold cs0; rw [if_neg (by omega), if_neg (by omega), if_neg (by omega), if_neg (by omega), if_neg (by omega), if_neg (by omega), if_pos (by omega), show 38 + i - 38 = i by omega]
theorem cs_sc : ∀ i, i < 4 → scC (c + 44) i = cs0 c (44 + i) := fun i hi => by unfold cs0; rw [if_neg (by omega), if_neg (by omega), if_neg (by omega), if_neg (by omega), if_neg (by omega), if_neg (by omega), if_neg (by omega), if_pos (by omega), show 44 + i - 44 = i by omega]
theorem cs_s8 : ∀ i, i < 34 → ssC (c + 48) 8 i = cs0 c (48 + i) := fun i hi => by unfold cs0; rw [if_neg (by omega), if_neg (by omega), if_neg (by omega), if_neg (by omega), if_neg (by omega), if_neg (by omega), if_neg (by omega), if_neg (by omega), if_pos (by omega), show 48 + i - 48 = i by omega]
theorem cs_s2 : ∀ i, i < 10 → ssC (c + 82) 2 i = cs0 c (82 + i) := fun i hi => by unfold cs0; rw [if_neg (by omega), if_neg (by omega), if_neg (by omega), if_neg (by omega), if_neg (by omega), if_neg (by omega), if_neg (by omega), if_neg (by omega), if_neg (by omega), if_pos (by omega), show 82 + i - 82 = i by omega]
/-- the class, new -/
def kNew (c : Nat) (h' : zF) (n' : Nat) : Prop := ∃ h1 L V P J X J' X', h' = gH (tH h1 (P 1) J' X') L V ∧ zTr h1 (P 0) J X ∧ kL L c P ∧ kBd c n' P ∧ n' ≤ c + 96 ∧ (X 6 0 = 0 ∧ X 7 0 = 0) ∧ (X' 6 0 = 0 ∧ X' 7 0 = 0) ∧ (∀ b, n' ≤ b → L b = none) ∧ ∀ f g, arrIs g (wl (vw A0m 0)) → kV V c P J X (va_up (va_up (va_up I0m 20 0) 22 0) 17 (wl (vw A0m 0)).length) (va_up (va_up (va_up A0m 17 (nwA A0m 21)) 16 g) 21 f)
set_option maxRecDepth 100000 in
set_option maxHeartbeats 4000000 in
theorem k_init (hx : h c = some (.inr (7, [.null, .null, .null, .null, .null, .null, .null, .null, .null, .null, .null, .int (nI 0), .int (nI 0)]))) : zCt G MX7_init 12 95 18363 [.ref c] h (c + 1) (fun r h' n' => r = none ∧ kNew c h' n') := by
  refine zCt.of rfl (Nat.le_of_ble_eq_true rfl) rfl ?_
  refine x_eqH (blkR_1 (cs := cs0 c) hx) ?_
  refine x_aload_n dX7_init_0 rfl ?_
  refine x_objInit dX7_init_1 ⟨obX7_3, obj_i, obj_c⟩ (by decide) (Nat.le_of_ble_eq_true rfl) ?_
  refine x_aload_n dX7_init_4 rfl ?_
  refine x_new (ci := 3) (r := (RX3, TX3, 4)) (fs := [.null, .int (nI 0), .null, .int (nI 0)]) dX7_init_5 rfl uX3 ⟨clX7_9, itX3, izX3⟩ tyX3 tyX3_ok (by decide) ⟨by decide, by decide⟩ ?_
  refine x_dup dX7_init_8 rfl ?_
  refine x_callI (M' := MX3_init) (As := []) (rest := [.ref (c + 1), .ref c]) dX7_init_9 lkX7_11 mdX3_init rfl rfl isX3_init (by decide) (n_text (x := c + 1) (up_eq _ _ _)) rfl (Nat.le_of_ble_eq_true rfl) rfl ⟨by decide, by decide⟩ ?_
  rintro r h' n' ⟨rfl, rfl, rfl⟩
  refine x_putF dX7_init_12 flX7_12 ftX7_0 rfl (fun r hr => by cases hr; rfl) (fun r hr => by cases hr; exact fkX7_12) (by unfold blkH; rw [if_neg (by omega), up_ne _ _ (by omega)]; exact blkR_x) rfl rfl (Nat.le_of_ble_eq_true rfl) ?_
  refine x_eqH (blkR_sub (m := 1) (r := 3) (cs := cs0 c) (by decide) (by decide) cs_tx) ?_
  show zEx G MX7_init 12 95 18363 15 _ [] _ (c + 4) (3, 208) _
  refine x_aload_n dX7_init_15 rfl ?_
  refine x_new (ci := 5) (r := (RX5, TX5, 10)) (fs := [.null, .null, .null, .null, .int (nI 0), .int (nI 0), .int (nI 0), .int (nI 0), .null, .null]) dX7_init_16 rfl uX5 ⟨clX7_16, itX5, izX5⟩ tyX5 tyX5_ok (by decide) ⟨by decide, by decide⟩ ?_
  refine x_dup dX7_init_19 rfl ?_
  refine x_callI (M' := MX5_init) (As := []) (rest := [.ref (c + 4), .ref c]) dX7_init_20 lkX7_18 mdX5_init rfl rfl isX5_init (by decide) (n_tree (t := c + 4) (up_eq _ _ _)) rfl (Nat.le_of_ble_eq_true rfl) rfl ⟨by decide, by decide⟩ ?_
  rintro r h' n' ⟨rfl, rfl, rfl⟩
  refine x_putf dX7_init_23 flX7_19 ftX7_1 (by unfold tH; rw [if_neg (by omega), up_ne _ _ (by omega)]; exact blkR_x) rfl rfl (Nat.le_of_ble_eq_true rfl) ?_
  refine x_eqH (blkR_sub (m := 4) (r := 14) (cs := cs0 c) (by decide) (by decide) cs_t1) ?_
  show zEx G MX7_init 12 95 18363 26 _ [] _ (c + 18) (17, 1049) _
  refine x_aload_n dX7_init_26 rfl ?_
  refine x_new (ci := 5) (r := (RX5, TX5, 10)) (fs := [.null, .null, .null, .null, .int (nI 0), .int (nI 0), .int (nI 0), .int (nI 0), .null, .null]) dX7_init_27 rfl uX5 ⟨clX7_16, itX5, izX5⟩ tyX5 tyX5_ok (by decide) ⟨by decide, by decide⟩ ?_
  refine x_dup dX7_init_30 rfl ?_
  refine x_callI (M' := MX5_init) (As := []) (rest := [.ref (c + 18), .ref c]) dX7_init_31 lkX7_18 mdX5_init rfl rfl isX5_init (by decide) (n_tree (t := c + 18) (up_eq _ _ _)) rfl (Nat.le_of_ble_eq_true rfl) rfl ⟨by decide, by decide⟩ ?_
  rintro r h' n' ⟨rfl, rfl, rfl⟩
  refine x_putf dX7_init_34 flX7_23 ftX7_2 (by unfold tH; rw [if_neg (by omega), up_ne _ _ (by omega)]; exact blkR_x) rfl rfl (Nat.le_of_ble_eq_true rfl) ?_
  refine x_eqH (blkR_sub (m := 18) (r := 14) (cs := cs0 c) (by decide) (by decide) cs_t2) ?_
  show zEx G MX7_init 12 95 18363 37 _ [] _ (c + 32) (31, 1890) _
  refine x_aload_n dX7_init_37 rfl ?_
  refine x_new (ci := 6) (r := (RX6, TX6, 2)) (fs := [.null, .int (nI 0)]) dX7_init_38 rfl uX6 ⟨clX7_26, itX6, izX6⟩ tyX6 tyX6_ok (by decide) ⟨by decide, by decide⟩ ?_
  refine x_dup dX7_init_41 rfl ?_
  refine x_callI (M' := MX6_init) (As := []) (rest := [.ref (c + 32), .ref c]) dX7_init_42 lkX7_28 mdX6_init rfl rfl isX6_init (by decide) (n_worlds (x := c + 32) (up_eq _ _ _)) rfl (Nat.le_of_ble_eq_true rfl) rfl ⟨by decide, by decide⟩ ?_
  rintro r h' n' ⟨rfl, rfl, rfl⟩
  refine x_putF dX7_init_45 flX7_29 ftX7_3 rfl (fun r hr => by cases hr; rfl) (fun r hr => by cases hr; exact fkX7_29) (by unfold blkH; rw [if_neg (by omega), up_ne _ _ (by omega)]; exact blkR_x) rfl rfl (Nat.le_of_ble_eq_true rfl) ?_
  refine x_eqH (blkR_sub (m := 32) (r := 2) (cs := cs0 c) (by decide) (by decide) cs_w1) ?_
  show zEx G MX7_init 12 95 18363 48 _ [] _ (c + 34) (33, 1892) _
  refine x_aload_n dX7_init_48 rfl ?_
  refine x_new (ci := 6) (r := (RX6, TX6, 2)) (fs := [.null, .int (nI 0)]) dX7_init_49 rfl uX6 ⟨clX7_26, itX6, izX6⟩ tyX6 tyX6_ok (by decide) ⟨by decide, by decide⟩ ?_
  refine x_dup dX7_init_52 rfl ?_
  refine x_callI (M' := MX6_init) (As := []) (rest := [.ref (c + 34), .ref c]) dX7_init_53 lkX7_28 mdX6_init rfl rfl isX6_init (by decide) (n_worlds (x := c + 34) (up_eq _ _ _)) rfl (Nat.le_of_ble_eq_true rfl) rfl ⟨by decide, by decide⟩ ?_
  rintro r h' n' ⟨rfl, rfl, rfl⟩
  refine x_putF dX7_init_56 flX7_33 ftX7_4 rfl (fun r hr => by cases hr; rfl) (fun r hr => by cases hr; exact fkX7_33) (by unfold blkH; rw [if_neg (by omega), up_ne _ _ (by omega)]; exact blkR_x) rfl rfl (Nat.le_of_ble_eq_true rfl) ?_
  refine x_eqH (blkR_sub (m := 34) (r := 2) (cs := cs0 c) (by decide) (by decide) cs_w2) ?_
  show zEx G MX7_init 12 95 18363 59 _ [] _ (c + 36) (35, 1894) _
  refine x_aload_n dX7_init_59 rfl ?_
  refine x_new (ci := 6) (r := (RX6, TX6, 2)) (fs := [.null, .int (nI 0)]) dX7_init_60 rfl uX6 ⟨clX7_26, itX6, izX6⟩ tyX6 tyX6_ok (by decide) ⟨by decide, by decide⟩ ?_
  refine x_dup dX7_init_63 rfl ?_
  refine x_callI (M' := MX6_init) (As := []) (rest := [.ref (c + 36), .ref c]) dX7_init_64 lkX7_28 mdX6_init rfl rfl isX6_init (by decide) (n_worlds (x := c + 36) (up_eq _ _ _)) rfl (Nat.le_of_ble_eq_true rfl) rfl ⟨by decide, by decide⟩ ?_
  rintro r h' n' ⟨rfl, rfl, rfl⟩
  refine x_putF dX7_init_67 flX7_36 ftX7_5 rfl (fun r hr => by cases hr; rfl) (fun r hr => by cases hr; exact fkX7_36) (by unfold blkH; rw [if_neg (by omega), up_ne _ _ (by omega)]; exact blkR_x) rfl rfl (Nat.le_of_ble_eq_true rfl) ?_
  refine x_eqH (blkR_sub (m := 36) (r := 2) (cs := cs0 c) (by decide) (by decide) cs_w3) ?_
  show zEx G MX7_init 12 95 18363 70 _ [] _ (c + 38) (37, 1896) _
  refine x_aload_n dX7_init_70 rfl ?_
  refine x_new (ci := 0) (r := (RX0, TX0, 9)) (fs := [.int (nI 0), .int (nI 0), .int (nI 0), .int (nI 0), .null, .null, .null, .null, .null]) dX7_init_71 rfl uX0 ⟨clX7_39, itX0, izX0⟩ tyX0 tyX0_ok (by decide) ⟨by decide, by decide⟩ ?_
  refine x_dup dX7_init_74 rfl ?_
  refine x_callI (M' := MX0_init) (As := []) (rest := [.ref (c + 38), .ref c]) dX7_init_75 lkX7_41 mdX0_init rfl rfl isX0_init (by decide) (n_finder (x := c + 38) (up_eq _ _ _)) rfl (Nat.le_of_ble_eq_true rfl) rfl ⟨by decide, by decide⟩ ?_
  rintro r h' n' ⟨rfl, rfl, rfl⟩
  refine x_putF dX7_init_78 flX7_42 ftX7_6 rfl (fun r hr => by cases hr; rfl) (fun r hr => by cases hr; exact fkX7_42) (by unfold blkH; rw [if_neg (by omega), up_ne _ _ (by omega)]; exact blkR_x) rfl rfl (Nat.le_of_ble_eq_true rfl) ?_
  refine x_eqH (blkR_sub (m := 38) (r := 6) (cs := cs0 c) (by decide) (by decide) cs_fi) ?_
  show zEx G MX7_init 12 95 18363 81 _ [] _ (c + 44) (43, 2610) _
  refine x_aload_n dX7_init_81 rfl ?_
  refine x_new (ci := 1) (r := (RX1, TX1, 5)) (fs := [.int (nI 0), .null, .null, .null, .int (nI 0)]) dX7_init_82 rfl uX1 ⟨clX7_46, itX1, izX1⟩ tyX1 tyX1_ok (by decide) ⟨by decide, by decide⟩ ?_
  refine x_dup dX7_init_85 rfl ?_
  refine x_callI (M' := MX1_init) (As := []) (rest := [.ref (c + 44), .ref c]) dX7_init_86 lkX7_48 mdX1_init rfl rfl isX1_init (by decide) (n_scene (x := c + 44) (up_eq _ _ _)) rfl (Nat.le_of_ble_eq_true rfl) rfl ⟨by decide, by decide⟩ ?_
  rintro r h' n' ⟨rfl, rfl, rfl⟩
  refine x_putF dX7_init_89 flX7_49 ftX7_7 rfl (fun r hr => by cases hr; rfl) (fun r hr => by cases hr; exact fkX7_49) (by unfold blkH; rw [if_neg (by omega), up_ne _ _ (by omega)]; exact blkR_x) rfl rfl (Nat.le_of_ble_eq_true rfl) ?_
  refine x_eqH (blkR_sub (m := 44) (r := 4) (cs := cs0 c) (by decide) (by decide) cs_sc) ?_
  show zEx G MX7_init 12 95 18363 92 _ [] _ (c + 48) (47, 2643) _
  refine x_aload_n dX7_init_92 rfl ?_
  refine x_new (ci := 2) (r := (RX2, TX2, 2)) (fs := [.null, .int (nI 0)]) dX7_init_93 rfl uX2 ⟨clX7_53, itX2, izX2⟩ tyX2 tyX2_ok (by decide) ⟨by decide, by decide⟩ ?_
  refine x_dup dX7_init_96 rfl ?_
  refine x_bipush (v := nI 8) dX7_init_97 (by decide) ?_
  refine x_callI (M' := MX2_init) (As := [.int (nI 8)]) (rest := [.ref (c + 48), .ref c]) dX7_init_99 lkX7_55 mdX2_init rfl rfl isX2_init (by decide) (n_scenes (x := c + 48) (len := 8) (by decide) (up_eq _ _ _)) rfl (Nat.le_of_ble_eq_true rfl) rfl ⟨by decide, by decide⟩ ?_
  rintro r h' n' ⟨rfl, rfl, rfl⟩
  refine x_putF dX7_init_102 flX7_58 ftX7_8 rfl (fun r hr => by cases hr; rfl) (fun r hr => by cases hr; exact fkX7_58) (by unfold blkH; rw [if_neg (by omega), up_ne _ _ (by omega)]; exact blkR_x) rfl rfl (Nat.le_of_ble_eq_true rfl) ?_
  refine x_eqH (blkR_sub (m := 48) (r := 34) (cs := cs0 c) (by decide) (by decide) cs_s8) ?_
  show zEx G MX7_init 12 95 18363 105 _ [] _ (c + 82) (81, 2917) _
  refine x_aload_n dX7_init_105 rfl ?_
  refine x_new (ci := 2) (r := (RX2, TX2, 2)) (fs := [.null, .int (nI 0)]) dX7_init_106 rfl uX2 ⟨clX7_53, itX2, izX2⟩ tyX2 tyX2_ok (by decide) ⟨by decide, by decide⟩ ?_
  refine x_dup dX7_init_109 rfl ?_
  refine x_iconst (v := nI 2) dX7_init_110 (by decide) ?_
  refine x_callI (M' := MX2_init) (As := [.int (nI 2)]) (rest := [.ref (c + 82), .ref c]) dX7_init_111 lkX7_55 mdX2_init rfl rfl isX2_init (by decide) (n_scenes (x := c + 82) (len := 2) (by decide) (up_eq _ _ _)) rfl (Nat.le_of_ble_eq_true rfl) rfl ⟨by decide, by decide⟩ ?_
  rintro r h' n' ⟨rfl, rfl, rfl⟩
  refine x_putF dX7_init_114 flX7_62 ftX7_9 rfl (fun r hr => by cases hr; rfl) (fun r hr => by cases hr; exact fkX7_62) (by unfold blkH; rw [if_neg (by omega), up_ne _ _ (by omega)]; exact blkR_x) rfl rfl (Nat.le_of_ble_eq_true rfl) ?_
  refine x_eqH (blkR_sub (m := 82) (r := 10) (cs := cs0 c) (by decide) (by decide) cs_s2) ?_
  show zEx G MX7_init 12 95 18363 117 _ [] _ (c + 92) (91, 2987) _
  refine x_aload_n dX7_init_117 rfl ?_
  refine x_sipush (v := nI 256) dX7_init_118 (by decide) ?_
  refine x_newa (ty := .long) (N := 256) (a0 := (256, .inr (.inl (fun _ => lN 0)))) dX7_init_121 rfl ac_long (fun _ => rfl) (by decide) (by decide) (by decide) ⟨by decide, by decide⟩ ?_
  refine x_putF dX7_init_123 flX7_65 ftX7_10 rfl (fun r hr => by cases hr; rfl) (fun r hr => by cases hr; exact fkX7_65) (by rw [up_ne _ _ (by omega)]; exact blkR_x) rfl rfl (Nat.le_of_ble_eq_true rfl) ?_
  refine x_eqH (blkR_step (m := 92) (cs := cs0 c) (by decide)) ?_
  show zEx G MX7_init 12 95 18363 126 _ [] _ (c + 93) (92, 3243) _
  refine x_aload_n dX7_init_126 rfl ?_
  refine x_iconst (v := nI 1) dX7_init_127 (by decide) ?_
  refine x_putf dX7_init_128 flX7_69 ftX7_11 blkR_x (nar_b true) rfl (Nat.le_of_ble_eq_true rfl) ?_
  refine x_eqH blkR_put ?_
  refine x_aload_n dX7_init_131 rfl ?_
  refine x_bipush (v := nI 4294967292) dX7_init_132 (by decide) ?_
  refine x_putf dX7_init_134 flX7_73 ftX7_12 blkR_x rfl rfl (Nat.le_of_ble_eq_true rfl) ?_
  refine x_eqH blkR_put ?_
  refine x_eqH (first_eq (c := c) (h := h)) ?_
  have hL := kL_first (c := c)
  have hX := hL.2.1
  refine x_iconst (v := nI 0) dX7_init_137 (by decide) ?_
  refine x_is1 dX7_init_138 (by decide) rfl ?_
  have key : ∀ i, i ≤ 86 → ∀ V : Nat → Nat → Nat, V (c + 1) 1 = i → (∀ j, j < i → V (c + 2) j = chN j) → (∀ b, b ≠ c + 1 → b ≠ c + 2 → V b = V0 c b) → zEx G MX7_init 12 95 18363 139 [some (.ref c), some (.int (nI i))] [] (gH (tH (tH h (c + 4) J0 X0) (c + 18) J0 X0) (cL c) V) (c + 93) (92, 3243) (fun r h' n' => r = none ∧ kNew c h' n') := by
    refine z_up 86 ?_
    intro i hi ih V v1 v2 v3
    refine x_iload_n dX7_init_139 rfl ?_
    refine x_ldcS dX7_init_140 rfl ?_
    refine x_strI0 dX7_init_142 lkX7_79 mdJ0_length_8abf5 isJ0_length_8abf5 rfl (by decide) c_strLen (Nat.le_of_ble_eq_true rfl) ⟨Nat.le_of_ble_eq_true rfl, Nat.le_of_ble_eq_true rfl⟩ ?_
    refine n_icmp_ge (tgt := 168) dX7_init_145 (by decide) (by omega) (by omega) (fun c1 => ?_) (fun c1 => ?_)
    · have hie : i = 86 := by omega
      subst hie
      have e49 : ∀ j, V (c + 49) j = c + 50 + 4 * j := fun j => by rw [v3 _ (by omega) (by omega)]; unfold V0; rw [if_neg (by omega), if_pos rfl]
      have e83 : ∀ j, V (c + 83) j = c + 84 + 4 * j := fun j => by rw [v3 _ (by omega) (by omega)]; unfold V0; rw [if_neg (by omega), if_neg (by omega), if_pos rfl]
      have hp : kPre V c I1 A1 := by
        refine ⟨⟨v1, by decide, fun j hj => ?_, fun j hj => ?_⟩, fun j hj => ⟨j, hj, e49 j⟩, fun j j' _ _ e => ?_, fun j _ => e83 j⟩
        · have hj : j < 86 := hj
          exact ⟨v2 j hj, (chN_ok j hj).2⟩
        · rw [v3 _ (by omega) (by omega), V0_z (k := 3) (by decide) (by decide) (by decide)]; exact (by decide : (0 : Nat) < 1000)
        · rw [e49, e49] at e; omega
      have hb : kBd c (c + 93) (P0 c) := ⟨Nat.le_refl _, by show c + 33 < c + 93; omega, by show c + 35 < c + 93; omega, by show c + 37 < c + 93; omega⟩
      refine x_aload_n dX7_init_168 rfl ?_
      refine x_callV (M' := MX7_layText) (mc' := 3) (ms' := 15120) (As := []) (rest := []) dX7_init_169 lkX7_93 mdX7_layText isX7_layText rfl rfl (g_c hL.1) (by decide) (k_layText (I := I1) (A := A1) (J := J0) (X := X0) (J' := J0) (X' := X0) (h1 := tH h (c + 4) J0 X0) hL hb zTr_tH ⟨rfl, rfl⟩ hp) rfl (Nat.le_of_ble_eq_true rfl) rfl ⟨by decide, by decide⟩ ?_
      rintro r h' n' (⟨rfl, rfl, hno, hN⟩ | ⟨rfl, hyes, hY⟩)
      · exact absurd first_ok.1.1 hno
      · show zEx G MX7_init 12 95 18363 172 _ [.int (nI 1)] _ _ (95, 18363) _
        obtain ⟨L', V', P', J2, X2, rfl, q1, q2, q3, q4, q5, q6, q7, q8⟩ := hY
        have hX' := q2.2.1
        refine x_pop dX7_init_172 rfl ?_
        refine x_aload_n dX7_init_173 rfl ?_
        refine x_getf dX7_init_174 flX7_12 (g_c (And.left q2)) rfl ?_
        refine x_cVV0 dX7_init_177 lkX7_97 mdX3_clear isX3_clear rfl rfl (g_c hX'.1) (by decide) (c_txClear hX'.1) (Nat.le_of_ble_eq_true rfl) ⟨Nat.le_of_ble_eq_true rfl, Nat.le_of_ble_eq_true rfl⟩ ?_
        rintro h' rfl
        refine x_vret dX7_init_180 rfl ⟨Nat.le_of_ble_eq_true rfl, Nat.le_of_ble_eq_true rfl⟩ ?_
        have hbn := q3.1
        have hPr := q2.2.2.2.2.2.2.2.2.2.2.2.2.1
        refine ⟨rfl, tH (tH h (c + 4) J0 X0) (P0 c 1) J2 X2, L', va_up V' (c + 1) (va_up (V' (c + 1)) 1 0), P', J2, X2, J0, X0, ?_, ?_, q2, q3, q4.2, q7, ⟨rfl, rfl⟩, ?_, ?_⟩
        · rw [q1.2]
        · rw [q1.1]; exact zTr_tH
        · intro b hb2
          rw [q5 b (Or.inr hb2) (by omega) (by omega) (by omega) (by omega)]
          unfold cL; rw [if_neg (by omega)]
        · intro f g hg
          have r0 : rwE A0m (va_up (va_up (va_up (va_up A0m 17 (nwA A0m 21)) 16 g) 21 f) 1 (A1 1)) := ((rwE_up (k := 17) (by decide)).tr (rwE_up (k := 16) (by decide))).tr ((rwE_up (k := 21) (by decide)).tr (fun k a b => up_ne _ _ (by omega)))
          have r1 : rwE (va_up (va_up (va_up (va_up A0m 17 (nwA A0m 21)) 16 g) 21 f) 1 (A1 1)) (va_up (va_up (va_up A0m 17 (nwA A0m 21)) 16 g) 21 f) := fun k a b => (up_ne _ _ (by omega)).symm
          have ev : ∀ k, 2 ≤ k → k ≤ 14 → vw (va_up (va_up (va_up (va_up A0m 17 (nwA A0m 21)) 16 g) 21 f) 1 (A1 1)) 0 k = vw A0m 0 k := fun k a b => by rw [vw0 a (by omega), vw0 a (by omega), r0 k a b]
          have hk := q8 (va_up (va_up (va_up (va_up I0m 20 0) 22 0) 17 (wl (vw A0m 0)).length) 0 86) (va_up (va_up (va_up (va_up A0m 17 (nwA A0m 21)) 16 g) 21 f) 1 (A1 1)) ⟨?_, ?_, ?_, rfl, rfl, rfl, rfl, ?_⟩
          · obtain ⟨b1, b2, b3, b4, b5, b6, b7⟩ := hk
            have e : ∀ b, b ≠ c + 1 → (va_up V' (c + 1) (va_up (V' (c + 1)) 1 0)) b = V' b := fun b hb => up_ne _ _ hb
            refine ⟨⟨?_, Nat.zero_le _, fun j hj => absurd hj (Nat.not_lt_zero _), ?_⟩, b2.co r1, (b3.fr (e _ (by omega)) (e _ (by omega))).co r1 rfl rfl, (b4.fr (fun b _ _ => e _ (by omega))).co r1 rfl, (b5.fr (fun b _ _ => e _ (by omega))).co r1 rfl rfl, (b6.fr (fun b _ _ => e _ (by omega))).co r1 rfl rfl, (b7.fr (e _ (by omega)) (e _ (by omega)) (e _ (by omega))).co r1 rfl rfl rfl⟩
            · rw [up_eq, up_eq]; rfl
            · rw [e _ (by omega)]; exact b1.2.2.2
          · have h9 := first_ok.1.2
            unfold eqT at h9 ⊢
            rw [ev 2 (by decide) (by decide), ev 7 (by decide) (by decide), ev 11 (by decide) (by decide), ev 12 (by decide) (by decide), ev 3 (by decide) (by decide), ev 4 (by decide) (by decide), ev 5 (by decide) (by decide), ev 6 (by decide) (by decide), ev 8 (by decide) (by decide), ev 9 (by decide) (by decide), ev 10 (by decide) (by decide), ev 13 (by decide) (by decide), ev 14 (by decide) (by decide)]
            exact h9
          · rw [r0.wlE]; rfl
          · rw [r0.wlE]; exact hg
          · intro j hj
            show nwA A0m 21 j = _
            unfold nwA
            rw [if_pos hj]
            by_cases e : j < 4
            · rw [if_pos e, if_pos e, first_ok.2 j e]
            · rw [if_neg e, if_neg e]
    · have hc := chN_ok i (by omega)
      refine x_aload_n dX7_init_148 rfl ?_
      refine x_getf dX7_init_149 flX7_12 (g_c (And.left hL)) rfl ?_
      refine x_ldcS dX7_init_152 rfl ?_
      refine x_iload_n dX7_init_154 rfl ?_
      refine x_strI1 dX7_init_155 lkX7_85 mdJ0_charAt_5068e isJ0_charAt_5068e rfl (by decide) (c_strCh (i := i) (by omega)) (Nat.le_of_ble_eq_true rfl) ⟨Nat.le_of_ble_eq_true rfl, Nat.le_of_ble_eq_true rfl⟩ ?_
      refine x_cVI1 dX7_init_158 lkX7_89 mdX3_add isX3_add rfl rfl (g_c hX.1) (by decide) (c_txAdd hX.1 hX.2.1 (by omega) hc.2) (Nat.le_of_ble_eq_true rfl) ⟨Nat.le_of_ble_eq_true rfl, Nat.le_of_ble_eq_true rfl⟩ ?_
      rintro v h' (⟨z1, rfl, rfl⟩ | ⟨z1, rfl, rfl⟩)
      · omega
      · refine x_pop dX7_init_161 rfl ?_
        refine n_ii1 (w := 1) dX7_init_162 (by decide) (by decide) rfl ?_
        refine x_goto (tgt := 139) dX7_init_165 (by decide) ?_
        refine ih (by omega) _ ?_ ?_ ?_
        · rw [up_eq, up_eq, v1]
        · intro j hj
          rw [up_ne _ _ (by omega), up_eq, v1]
          by_cases e : j = i
          · subst e; rw [up_eq]
          · rw [up_ne _ _ e]; exact v2 j (by omega)
        · intro b b1 b2; rw [up_ne _ _ b1, up_ne _ _ b2]; exact v3 b b1 b2
  refine key 0 (by decide) (V0 c) ?_ (fun j hj => absurd hj (by omega)) (fun _ _ _ => rfl)
  rw [V0_z (k := 1) (by decide) (by decide) (by decide)]
end ZN5
