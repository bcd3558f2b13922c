/-- a block of cells from x on -/
def blkH (h : zF) (x m : Nat) (cs : Nat → zC) : zF := fun b => if x ≤ b ∧ b < x + m then some (cs (b - x)) else h b
/-- the same, its object not done yet -/
def blkR (h : zF) (x m ci : Nat) (fs : List Value) (cs : Nat → zC) : zF := fun b => if b = x then some (.inr (ci, fs)) else if x < b ∧ b < x + m then some (cs (b - x)) else h b
section ZN1
variable {h : zF} {x m ci r : Nat} {fs fs' : List Value} {cs g : Nat → zC} {y : Option zC}
theorem blkR_x : blkR h x m ci fs cs x = some (.inr (ci, fs)) := if_pos rfl
theorem blkR_1 (hx : h x = some (.inr (ci, fs))) : h = blkR h x 1 ci fs cs := by
  funext b
  unfold blkR
  by_cases e : b = x
  · subst e; rw [if_pos rfl, hx]
  · rw [if_neg e, if_neg (by omega)]
theorem blkR_end (hc : cs 0 = .inr (ci, fs)) (hm : 1 ≤ m) : blkR h x m ci fs cs = blkH h x m cs := by
  funext b
  unfold blkR blkH
  by_cases e : b = x
  · subst e; rw [if_pos rfl, if_pos ⟨Nat.le_refl _, by omega⟩, Nat.sub_self, hc]
  · rw [if_neg e]
    by_cases e2 : x < b ∧ b < x + m
    · rw [if_pos e2, if_pos (by omega)]
    · rw [if_neg e2, if_neg (by omega)]
theorem blkR_step (hm : 1 ≤ m) : va_up (va_up (blkR h x m ci fs cs) (x + m) (some (cs m))) x (some (.inr (ci, fs'))) = blkR h x (m + 1) ci fs' cs := by
  funext b
  unfold blkR
  by_cases e : b = x
  · subst e; rw [up_eq, if_pos rfl]
  · rw [up_ne _ _ e, if_neg e]
    by_cases e2 : b = x + m
    · subst e2; rw [up_eq, if_pos (by omega), show x + m - x = m by omega]
    · rw [up_ne _ _ e2, if_neg e]
      by_cases e3 : x < b ∧ b < x + m
      · rw [if_pos e3, if_pos (by omega)]
      · rw [if_neg e3, if_neg (by omega)]
theorem blkR_put : va_up (blkR h x m ci fs cs) x (some (.inr (ci, fs'))) = blkR h x m ci fs' cs := by
  funext b
  unfold blkR
  by_cases e : b = x
  · subst e; rw [up_eq, if_pos rfl]
  · rw [up_ne _ _ e, if_neg e, if_neg e]
/-- an object of its own, built behind -/
theorem blkR_sub (hm : 1 ≤ m) (hr : 1 ≤ r) (hg : ∀ i, i < r → g i = cs (m + i)) : va_up (blkH (va_up (blkR h x m ci fs cs) (x + m) y) (x + m) r g) x (some (.inr (ci, fs'))) = blkR h x (m + r) ci fs' cs := by
  funext b
  by_cases e : b = x
  · subst e; rw [up_eq, blkR_x]
  · rw [up_ne _ _ e]
    unfold blkH
    by_cases e2 : x + m ≤ b ∧ b < x + m + r
    · rw [if_pos e2, hg _ (by omega)]
      unfold blkR
      rw [if_neg e, if_pos (by omega), show m + (b - (x + m)) = b - x by omega]
    · rw [if_neg e2]
      rw [up_ne _ _ (show b ≠ x + m by omega)]
      unfold blkR
      rw [if_neg e, if_neg e]
      by_cases e3 : x < b ∧ b < x + m
      · rw [if_pos e3, if_pos (by omega)]
      · rw [if_neg e3, if_neg (by omega)]
end ZN1

section ZN2
variable {G : zG} {M : zM} {k mc ms pc n : Nat} {lv : List (Option Value)} {st : List Value} {h : zF} {u : Nat × Nat} {Q : zQ}
theorem b_alloc {x m ci idx slot len : Nat} {fs : List Value} {cs : Nat → zC} {at0 : ArrayType} {ty : FieldType} {a0 : vp_A} (hd1 : decode M.2.1 pc = .ok (.newarray at0, 2)) (hd2 : decode M.2.1 (pc + 2) = .ok (.putfield idx, 3)) (hty : newarray.typeOf at0 = ty) (hw : Cond.arrayClass ty ∈ zTbl) (hc : cs m = .inl (ty, a0)) (ha : ∀ cA : ClassId, vp_cell cA a0 = arrV cA len (fun _ => defaultValue ty)) (hn : len < 10000) (hbt : len * componentBytes ty ≤ 536870912) (hk : zFld M.1.cls idx ci slot) (hft : zFty ci slot (.array ty) true) (hmn : M.1.name = "<init>") (hcl : ∀ r : vw_C, zCl[ci]? = some r → r.1 = M.1.cls) (hlk : ∀ r : vw_C, zCl[ci]? = some r → Cond.fieldLink M.1.cls idx r.1 (r.2.1 slot).2.1 (r.2.1 slot).2.2.1 ∈ zTbl) (hm : 1 ≤ m) (hl : slot < fs.length) (hu : u.1 + 1 ≤ mc ∧ u.2 + len ≤ ms) (K : zEx G M k mc ms (pc + 5) lv st (blkR h x (m + 1) ci (fs.set slot (.ref (x + m))) cs) (x + (m + 1)) (u.1 + 1, u.2 + len) Q) : zEx G M k mc ms pc lv (.int (nI len) :: .ref x :: st) (blkR h x m ci fs cs) (x + m) u Q := by
  refine x_newa (a0 := a0) hd1 hty hw ha (nI_pos (by omega)) (nI_clamp (by omega)) hbt hu ?_
  refine x_putF hd2 hk hft hmn hcl hlk (h := va_up (blkR h x m ci fs cs) (x + m) _) (by rw [up_ne _ _ (by omega)]; exact blkR_x) rfl rfl hl ?_
  rw [← hc, blkR_step hm]
  exact K
/-- an array of references is what its places hold -/
theorem x_rowq {a len : Nat} {C : String} {f g : Nat → Option Nat} (hc : h a = some (.inl (.object C, len, .inr (.inr (.inr (.inr f)))))) (he : ∀ j, j < len → f j = g j) (K : zEx G M k mc ms pc lv st (va_up h a (some (.inl (.object C, len, .inr (.inr (.inr (.inr g))))))) n u Q) : zEx G M k mc ms pc lv st h n u Q := by
  intro d p e R s m args below meth c Qz hkd hC hF H locs ls hH hl hL
  obtain ⟨cA, hA, hz⟩ := (hH.2.2.2 a _ hc).2.2
  refine K d p e R s m args below meth c Qz hkd hC hF H locs ls (hH.set hc rfl (fun _ _ => rfl) ⟨cA, hA, ?_⟩) hl hL
  rw [hz]
  dsimp only
  rw [vp_cell_q, vp_cell_q]
  congr 1
  unfold arrV
  congr 2
  funext j
  show va_rf (f j.val) = va_rf (g j.val)
  rw [he j.val j.isLt]
end ZN2
def J0 : Nat → Nat := fun k => if k = 6 then 1 else 0
def X0 : Nat → Nat → Nat := fun _ _ => 0
def txC (x : Nat) : Nat → zC
  | 0 => .inr (3, [.ref (x + 1), .int (nI 0), .ref (x + 2), .int (nI 0)])
  | 1 => .inl (.char, 200, .inl (fun _ => nI 0))
  | _ => iA 4 (fun _ => 0)
def woC (x : Nat) : Nat → zC
  | 0 => .inr (6, [.ref (x + 1), .int (nI 0)])
  | _ => iA 0 (fun _ => 0)
def fiC (x : Nat) : Nat → zC
  | 0 => .inr (0, [.int (nI 0), .int (nI 0), .int (nI 0), .int (nI 0), .ref (x + 1), .ref (x + 2), .ref (x + 3), .ref (x + 4), .ref (x + 5)])
  | 1 => iA 256 (fun _ => 0)
  | 2 => iA 64 (fun _ => 0)
  | 3 => iA 65 (fun _ => 0)
  | 4 => iA 64 (fun _ => 0)
  | _ => iA 256 (fun _ => 0)
def scC (x : Nat) : Nat → zC
  | 0 => .inr (1, [.int (nI 0), .ref (x + 1), .ref (x + 2), .ref (x + 3), .int (nI 0)])
  | 1 => iA 4 (fun _ => 0)
  | _ => iA 12 (fun _ => 0)
section ZN3
variable {G : zG} {h : zF} {x t : Nat}
theorem n_text (hx : h x = some (.inr (3, [.null, .int (nI 0), .null, .int (nI 0)]))) : zCt G MX3_init 1 2 204 [.ref x] h (x + 1) (fun r h' n' => r = none ∧ h' = blkH h x 3 (txC x) ∧ n' = x + 3) := by
  refine zCt.of rfl (Nat.le_of_ble_eq_true rfl) rfl ?_
  refine x_eqH (blkR_1 (cs := txC x) hx) ?_
  refine x_aload_n dX3_init_0 rfl ?_
  refine x_objInit dX3_init_1 ⟨obX3_3, obj_i, obj_c⟩ (by decide) (Nat.le_of_ble_eq_true rfl) ?_
  refine x_aload_n dX3_init_4 rfl ?_
  refine x_sipush (v := nI 200) dX3_init_5 (by decide) ?_
  refine b_alloc (m := 1) (len := 200) (slot := 0) (ty := .char) (a0 := (200, .inl (fun _ => nI 0))) dX3_init_8 dX3_init_10 rfl ac_char rfl (fun _ => rfl) (by decide) (by decide) flX3_9 ftX3_0 rfl (fun r hr => by cases hr; rfl) (fun r hr => by cases hr; exact fkX3_9) (by decide) (Nat.le_of_ble_eq_true rfl) ⟨by decide, by decide⟩ ?_
  refine x_aload_n dX3_init_13 rfl ?_
  refine x_iconst (v := nI 4) dX3_init_14 (by decide) ?_
  refine b_alloc (m := 2) (len := 4) (slot := 2) (ty := .int) (a0 := (4, .inl (fun _ => nI 0))) dX3_init_15 dX3_init_17 rfl ac_int rfl (fun _ => rfl) (by decide) (by decide) flX3_15 ftX3_2 rfl (fun r hr => by cases hr; rfl) (fun r hr => by cases hr; exact fkX3_15) (by decide) (Nat.le_of_ble_eq_true rfl) ⟨by decide, by decide⟩ ?_
  refine x_vret dX3_init_20 rfl ⟨Nat.le_of_ble_eq_true rfl, Nat.le_of_ble_eq_true rfl⟩ ?_
  exact ⟨rfl, blkR_end rfl (by decide), by omega⟩
theorem n_finder (hx : h x = some (.inr (0, [.int (nI 0), .int (nI 0), .int (nI 0), .int (nI 0), .null, .null, .null, .null, .null]))) : zCt G MX0_init 1 5 705 [.ref x] h (x + 1) (fun r h' n' => r = none ∧ h' = blkH h x 6 (fiC x) ∧ n' = x + 6) := by
  refine zCt.of rfl (Nat.le_of_ble_eq_true rfl) rfl ?_
  refine x_eqH (blkR_1 (cs := fiC x) hx) ?_
  refine x_aload_n dX0_init_0 rfl ?_
  refine x_objInit dX0_init_1 ⟨obX0_3, obj_i, obj_c⟩ (by decide) (Nat.le_of_ble_eq_true rfl) ?_
  refine x_aload_n dX0_init_4 rfl ?_
  refine x_sipush (v := nI 256) dX0_init_5 (by decide) ?_
  refine b_alloc (m := 1) (len := 256) (slot := 4) (ty := .int) (a0 := (256, .inl (fun _ => nI 0))) dX0_init_8 dX0_init_10 rfl ac_int rfl (fun _ => rfl) (by decide) (by decide) flX0_9 ftX0_4 rfl (fun r hr => by cases hr; rfl) (fun r hr => by cases hr; exact fkX0_9) (by decide) (Nat.le_of_ble_eq_true rfl) ⟨by decide, by decide⟩ ?_
  refine x_aload_n dX0_init_13 rfl ?_
  refine x_bipush (v := nI 64) dX0_init_14 (by decide) ?_
  refine b_alloc (m := 2) (len := 64) (slot := 5) (ty := .int) (a0 := (64, .inl (fun _ => nI 0))) dX0_init_16 dX0_init_18 rfl ac_int rfl (fun _ => rfl) (by decide) (by decide) flX0_15 ftX0_5 rfl (fun r hr => by cases hr; rfl) (fun r hr => by cases hr; exact fkX0_15) (by decide) (Nat.le_of_ble_eq_true rfl) ⟨by decide, by decide⟩ ?_
  refine x_aload_n dX0_init_21 rfl ?_
  refine x_bipush (v := nI 65) dX0_init_22 (by decide) ?_
  refine b_alloc (m := 3) (len := 65) (slot := 6) (ty := .int) (a0 := (65, .inl (fun _ => nI 0))) dX0_init_24 dX0_init_26 rfl ac_int rfl (fun _ => rfl) (by decide) (by decide) flX0_18 ftX0_6 rfl (fun r hr => by cases hr; rfl) (fun r hr => by cases hr; exact fkX0_18) (by decide) (Nat.le_of_ble_eq_true rfl) ⟨by decide, by decide⟩ ?_
  refine x_aload_n dX0_init_29 rfl ?_
  refine x_bipush (v := nI 64) dX0_init_30 (by decide) ?_
  refine b_alloc (m := 4) (len := 64) (slot := 7) (ty := .int) (a0 := (64, .inl (fun _ => nI 0))) dX0_init_32 dX0_init_34 rfl ac_int rfl (fun _ => rfl) (by decide) (by decide) flX0_21 ftX0_7 rfl (fun r hr => by cases hr; rfl) (fun r hr => by cases hr; exact fkX0_21) (by decide) (Nat.le_of_ble_eq_true rfl) ⟨by decide, by decide⟩ ?_
  refine x_aload_n dX0_init_37 rfl ?_
  refine x_sipush (v := nI 256) dX0_init_38 (by decide) ?_
  refine b_alloc (m := 5) (len := 256) (slot := 8) (ty := .int) (a0 := (256, .inl (fun _ => nI 0))) dX0_init_41 dX0_init_43 rfl ac_int rfl (fun _ => rfl) (by decide) (by decide) flX0_24 ftX0_8 rfl (fun r hr => by cases hr; rfl) (fun r hr => by cases hr; exact fkX0_24) (by decide) (Nat.le_of_ble_eq_true rfl) ⟨by decide, by decide⟩ ?_
  refine x_vret dX0_init_46 rfl ⟨Nat.le_of_ble_eq_true rfl, Nat.le_of_ble_eq_true rfl⟩ ?_
  exact ⟨rfl, blkR_end rfl (by decide), by omega⟩
theorem n_scene (hx : h x = some (.inr (1, [.int (nI 0), .null, .null, .null, .int (nI 0)]))) : zCt G MX1_init 1 3 28 [.ref x] h (x + 1) (fun r h' n' => r = none ∧ h' = blkH h x 4 (scC x) ∧ n' = x + 4) := by
  refine zCt.of rfl (Nat.le_of_ble_eq_true rfl) rfl ?_
  refine x_eqH (blkR_1 (cs := scC x) hx) ?_
  refine x_aload_n dX1_init_0 rfl ?_
  refine x_objInit dX1_init_1 ⟨obX1_3, obj_i, obj_c⟩ (by decide) (Nat.le_of_ble_eq_true rfl) ?_
  refine x_aload_n dX1_init_4 rfl ?_
  refine x_iconst (v := nI 4) dX1_init_5 (by decide) ?_
  refine b_alloc (m := 1) (len := 4) (slot := 1) (ty := .int) (a0 := (4, .inl (fun _ => nI 0))) dX1_init_6 dX1_init_8 rfl ac_int rfl (fun _ => rfl) (by decide) (by decide) flX1_9 ftX1_1 rfl (fun r hr => by cases hr; rfl) (fun r hr => by cases hr; exact fkX1_9) (by decide) (Nat.le_of_ble_eq_true rfl) ⟨by decide, by decide⟩ ?_
  refine x_aload_n dX1_init_11 rfl ?_
  refine x_bipush (v := nI 12) dX1_init_12 (by decide) ?_
  refine b_alloc (m := 2) (len := 12) (slot := 2) (ty := .int) (a0 := (12, .inl (fun _ => nI 0))) dX1_init_14 dX1_init_16 rfl ac_int rfl (fun _ => rfl) (by decide) (by decide) flX1_15 ftX1_2 rfl (fun r hr => by cases hr; rfl) (fun r hr => by cases hr; exact fkX1_15) (by decide) (Nat.le_of_ble_eq_true rfl) ⟨by decide, by decide⟩ ?_
  refine x_aload_n dX1_init_19 rfl ?_
  refine x_bipush (v := nI 12) dX1_init_20 (by decide) ?_
  refine b_alloc (m := 3) (len := 12) (slot := 3) (ty := .int) (a0 := (12, .inl (fun _ => nI 0))) dX1_init_22 dX1_init_24 rfl ac_int rfl (fun _ => rfl) (by decide) (by decide) flX1_18 ftX1_3 rfl (fun r hr => by cases hr; rfl) (fun r hr => by cases hr; exact fkX1_18) (by decide) (Nat.le_of_ble_eq_true rfl) ⟨by decide, by decide⟩ ?_
  refine x_vret dX1_init_27 rfl ⟨Nat.le_of_ble_eq_true rfl, Nat.le_of_ble_eq_true rfl⟩ ?_
  exact ⟨rfl, blkR_end rfl (by decide), by omega⟩
theorem n_things (hx : h (t + 1) = some (.inr (4, [.null, .null, .null, .null, .int (nI 0), .null, .null, .null, .int (nI 0), .int (nI 0), .int (nI 0)]))) : zCt G MX4_init 1 7 800 [.ref (t + 1)] h (t + 1 + 1) (fun r h' n' => r = none ∧ h' = blkH h (t + 1) 8 (fun k => tC t J0 X0 (k + 1)) ∧ n' = t + 1 + 8) := by
  refine zCt.of rfl (Nat.le_of_ble_eq_true rfl) rfl ?_
  refine x_eqH (blkR_1 (cs := fun k => tC t J0 X0 (k + 1)) hx) ?_
  refine x_aload_n dX4_init_0 rfl ?_
  refine x_objInit dX4_init_1 ⟨obX4_3, obj_i, obj_c⟩ (by decide) (Nat.le_of_ble_eq_true rfl) ?_
  refine x_aload_n dX4_init_4 rfl ?_
  refine x_bipush (v := nI 8) dX4_init_5 (by decide) ?_
  refine b_alloc (m := 1) (len := 8) (slot := 0) (ty := .int) (a0 := (8, .inl (fun _ => nI 0))) dX4_init_7 dX4_init_9 rfl ac_int rfl (fun _ => rfl) (by decide) (by decide) flX4_9 ftX4_0 rfl (fun r hr => by cases hr; rfl) (fun r hr => by cases hr; exact fkX4_9) (by decide) (Nat.le_of_ble_eq_true rfl) ⟨by decide, by decide⟩ ?_
  refine x_aload_n dX4_init_12 rfl ?_
  refine x_bipush (v := nI 8) dX4_init_13 (by decide) ?_
  refine b_alloc (m := 2) (len := 8) (slot := 1) (ty := .int) (a0 := (8, .inl (fun _ => nI 0))) dX4_init_15 dX4_init_17 rfl ac_int rfl (fun _ => rfl) (by decide) (by decide) flX4_15 ftX4_1 rfl (fun r hr => by cases hr; rfl) (fun r hr => by cases hr; exact fkX4_15) (by decide) (Nat.le_of_ble_eq_true rfl) ⟨by decide, by decide⟩ ?_
  refine x_aload_n dX4_init_20 rfl ?_
  refine x_bipush (v := nI 8) dX4_init_21 (by decide) ?_
  refine b_alloc (m := 3) (len := 8) (slot := 2) (ty := .int) (a0 := (8, .inl (fun _ => nI 0))) dX4_init_23 dX4_init_25 rfl ac_int rfl (fun _ => rfl) (by decide) (by decide) flX4_18 ftX4_2 rfl (fun r hr => by cases hr; rfl) (fun r hr => by cases hr; exact fkX4_18) (by decide) (Nat.le_of_ble_eq_true rfl) ⟨by decide, by decide⟩ ?_
  refine x_aload_n dX4_init_28 rfl ?_
  refine x_bipush (v := nI 8) dX4_init_29 (by decide) ?_
  refine b_alloc (m := 4) (len := 8) (slot := 3) (ty := .int) (a0 := (8, .inl (fun _ => nI 0))) dX4_init_31 dX4_init_33 rfl ac_int rfl (fun _ => rfl) (by decide) (by decide) flX4_21 ftX4_3 rfl (fun r hr => by cases hr; rfl) (fun r hr => by cases hr; exact fkX4_21) (by decide) (Nat.le_of_ble_eq_true rfl) ⟨by decide, by decide⟩ ?_
  refine x_aload_n dX4_init_36 rfl ?_
  refine x_sipush (v := nI 256) dX4_init_37 (by decide) ?_
  refine b_alloc (m := 5) (len := 256) (slot := 5) (ty := .int) (a0 := (256, .inl (fun _ => nI 0))) dX4_init_40 dX4_init_42 rfl ac_int rfl (fun _ => rfl) (by decide) (by decide) flX4_24 ftX4_5 rfl (fun r hr => by cases hr; rfl) (fun r hr => by cases hr; exact fkX4_24) (by decide) (Nat.le_of_ble_eq_true rfl) ⟨by decide, by decide⟩ ?_
  refine x_aload_n dX4_init_45 rfl ?_
  refine x_sipush (v := nI 256) dX4_init_46 (by decide) ?_
  refine b_alloc (m := 6) (len := 256) (slot := 6) (ty := .int) (a0 := (256, .inl (fun _ => nI 0))) dX4_init_49 dX4_init_51 rfl ac_int rfl (fun _ => rfl) (by decide) (by decide) flX4_27 ftX4_6 rfl (fun r hr => by cases hr; rfl) (fun r hr => by cases hr; exact fkX4_27) (by decide) (Nat.le_of_ble_eq_true rfl) ⟨by decide, by decide⟩ ?_
  refine x_aload_n dX4_init_54 rfl ?_
  refine x_sipush (v := nI 256) dX4_init_55 (by decide) ?_
  refine b_alloc (m := 7) (len := 256) (slot := 7) (ty := .int) (a0 := (256, .inl (fun _ => nI 0))) dX4_init_58 dX4_init_60 rfl ac_int rfl (fun _ => rfl) (by decide) (by decide) flX4_30 ftX4_7 rfl (fun r hr => by cases hr; rfl) (fun r hr => by cases hr; exact fkX4_30) (by decide) (Nat.le_of_ble_eq_true rfl) ⟨by decide, by decide⟩ ?_
  refine x_vret dX4_init_63 rfl ⟨Nat.le_of_ble_eq_true rfl, Nat.le_of_ble_eq_true rfl⟩ ?_
  exact ⟨rfl, blkR_end rfl (by decide), by omega⟩
theorem n_worlds (hx : h x = some (.inr (6, [.null, .int (nI 0)]))) : zCt G MX6_init 1 1 0 [.ref x] h (x + 1) (fun r h' n' => r = none ∧ h' = blkH h x 2 (woC x) ∧ n' = x + 2) := by
  refine zCt.of rfl (Nat.le_of_ble_eq_true rfl) rfl ?_
  refine x_eqH (blkR_1 (cs := woC x) hx) ?_
  refine x_aload_n dX6_init_0 rfl ?_
  refine x_objInit dX6_init_1 ⟨obX6_1, obj_i, obj_c⟩ (by decide) (Nat.le_of_ble_eq_true rfl) ?_
  refine x_aload_n dX6_init_4 rfl ?_
  refine x_iconst (v := nI 0) dX6_init_5 (by decide) ?_
  refine x_newa (ty := .int) (N := 0) (a0 := (0, .inl (fun _ => nI 0))) dX6_init_6 rfl ac_int (fun _ => rfl) (by decide) (by decide) (by decide) ⟨by decide, by decide⟩ ?_
  refine x_putf dX6_init_8 flX6_7 ftX6_0 (h := va_up (blkR h x 1 6 _ (woC x)) (x + 1) _) (by rw [up_ne _ _ (by omega)]; exact blkR_x) rfl rfl (Nat.le_of_ble_eq_true rfl) ?_
  refine x_eqH (blkR_step (m := 1) (cs := woC x) (by decide)) ?_
  refine x_vret dX6_init_11 rfl ⟨Nat.le_of_ble_eq_true rfl, Nat.le_of_ble_eq_true rfl⟩ ?_
  exact ⟨rfl, blkR_end rfl (by decide), by omega⟩
theorem n_tree (hx : h t = some (.inr (5, [.null, .null, .null, .null, .int (nI 0), .int (nI 0), .int (nI 0), .int (nI 0), .null, .null]))) : zCt G MX5_init 2 13 831 [.ref t] h (t + 1) (fun r h' n' => r = none ∧ h' = tH h t J0 X0 ∧ n' = t + 14) := by
  refine zCt.of rfl (Nat.le_of_ble_eq_true rfl) rfl ?_
  refine x_eqH (blkR_1 (cs := tC t J0 X0) hx) ?_
  refine x_aload_n dX5_init_0 rfl ?_
  refine x_objInit dX5_init_1 ⟨obX5_3, obj_i, obj_c⟩ (by decide) (Nat.le_of_ble_eq_true rfl) ?_
  refine x_aload_n dX5_init_4 rfl ?_
  refine x_new (ci := 4) (r := (RX4, TX4, 11)) (fs := [.null, .null, .null, .null, .int (nI 0), .null, .null, .null, .int (nI 0), .int (nI 0), .int (nI 0)]) dX5_init_5 rfl uX4 ⟨clX5_9, itX4, izX4⟩ tyX4 tyX4_ok (by decide) ⟨by decide, by decide⟩ ?_
  refine x_dup dX5_init_8 rfl ?_
  refine x_callI (M' := MX4_init) (As := []) (rest := [.ref (t + 1), .ref t]) dX5_init_9 lkX5_11 mdX4_init rfl rfl isX4_init (by decide) (n_things (t := t) (up_eq _ _ _)) rfl (Nat.le_of_ble_eq_true rfl) rfl ⟨by decide, by decide⟩ ?_
  rintro r h' n' ⟨rfl, rfl, rfl⟩
  refine x_putF (h := blkH _ (t + 1) 8 _) dX5_init_12 flX5_12 ftX5_0 rfl (fun r hr => by cases hr; rfl) (fun r hr => by cases hr; exact fkX5_12) (by unfold blkH; rw [if_neg (by omega), up_ne _ _ (by omega)]; exact blkR_x) rfl rfl (Nat.le_of_ble_eq_true rfl) ?_
  refine x_eqH (blkR_sub (m := 1) (r := 8) (cs := tC t J0 X0) (by decide) (by decide) (fun i hi => by rw [Nat.add_comm])) ?_
  show zEx G MX5_init 2 13 831 15 _ [] _ (t + 9) _ _
  refine x_aload_n dX5_init_15 rfl ?_
  refine x_iconst (v := nI 4) dX5_init_16 (by decide) ?_
  refine b_alloc (m := 9) (len := 4) (slot := 1) (ty := .int) (a0 := (4, .inl (fun _ => nI 0))) dX5_init_17 dX5_init_19 rfl ac_int rfl (fun _ => rfl) (by decide) (by decide) flX5_18 ftX5_1 rfl (fun r hr => by cases hr; rfl) (fun r hr => by cases hr; exact fkX5_18) (by decide) (Nat.le_of_ble_eq_true rfl) ⟨by decide, by decide⟩ ?_
  refine x_aload_n dX5_init_22 rfl ?_
  refine x_iconst (v := nI 4) dX5_init_23 (by decide) ?_
  refine b_alloc (m := 10) (len := 4) (slot := 2) (ty := .int) (a0 := (4, .inl (fun _ => nI 0))) dX5_init_24 dX5_init_26 rfl ac_int rfl (fun _ => rfl) (by decide) (by decide) flX5_22 ftX5_2 rfl (fun r hr => by cases hr; rfl) (fun r hr => by cases hr; exact fkX5_22) (by decide) (Nat.le_of_ble_eq_true rfl) ⟨by decide, by decide⟩ ?_
  refine x_aload_n dX5_init_29 rfl ?_
  refine x_iconst (v := nI 4) dX5_init_30 (by decide) ?_
  refine b_alloc (m := 11) (len := 4) (slot := 3) (ty := .int) (a0 := (4, .inl (fun _ => nI 0))) dX5_init_31 dX5_init_33 rfl ac_int rfl (fun _ => rfl) (by decide) (by decide) flX5_25 ftX5_3 rfl (fun r hr => by cases hr; rfl) (fun r hr => by cases hr; exact fkX5_25) (by decide) (Nat.le_of_ble_eq_true rfl) ⟨by decide, by decide⟩ ?_
  refine x_aload_n dX5_init_36 rfl ?_
  refine x_iconst (v := nI 1) dX5_init_37 (by decide) ?_
  refine x_putf dX5_init_38 flX5_28 ftX5_6 blkR_x rfl rfl (Nat.le_of_ble_eq_true rfl) ?_
  refine x_eqH blkR_put ?_
  refine x_aload_n dX5_init_41 rfl ?_
  refine x_iconst (v := nI 4) dX5_init_42 (by decide) ?_
  refine b_alloc (m := 12) (len := 4) (slot := 8) (ty := .int) (a0 := (4, .inl (fun _ => nI 0))) dX5_init_43 dX5_init_45 rfl ac_int rfl (fun _ => rfl) (by decide) (by decide) flX5_32 ftX5_8 rfl (fun r hr => by cases hr; rfl) (fun r hr => by cases hr; exact fkX5_32) (by decide) (Nat.le_of_ble_eq_true rfl) ⟨by decide, by decide⟩ ?_
  refine x_aload_n dX5_init_48 rfl ?_
  refine x_iconst (v := nI 4) dX5_init_49 (by decide) ?_
  refine b_alloc (m := 13) (len := 4) (slot := 9) (ty := .int) (a0 := (4, .inl (fun _ => nI 0))) dX5_init_50 dX5_init_52 rfl ac_int rfl (fun _ => rfl) (by decide) (by decide) flX5_35 ftX5_9 rfl (fun r hr => by cases hr; rfl) (fun r hr => by cases hr; exact fkX5_35) (by decide) (Nat.le_of_ble_eq_true rfl) ⟨by decide, by decide⟩ ?_
  refine x_vret dX5_init_55 rfl ⟨Nat.le_of_ble_eq_true rfl, Nat.le_of_ble_eq_true rfl⟩ ?_
  exact ⟨rfl, blkR_end rfl (by decide), by omega⟩
/-- scenes: the object, its row, and the scenes behind -/
def ssC (x len : Nat) (k : Nat) : zC := if k = 0 then .inr (2, [.ref (x + 1), .int (nI 0)]) else if k = 1 then sR len (fun j => x + 2 + 4 * j) else scC (x + 2 + 4 * ((k - 2) / 4)) ((k - 2) % 4)
/-- half built -/
def ssH (h : zF) (x len i : Nat) : zF := fun b => if b = x then some (.inr (2, [.ref (x + 1), .int (nI 0)])) else if b = x + 1 then some (.inl (.object "ShakenParcels$Scene", len, .inr (.inr (.inr (.inr (fun j => if j < i then some (x + 2 + 4 * j) else none)))))) else if x + 2 ≤ b ∧ b < x + 2 + 4 * i then some (ssC x len (b - x)) else h b
theorem ssH_x {len i : Nat} : ssH h x len i x = some (.inr (2, [.ref (x + 1), .int (nI 0)])) := if_pos rfl
theorem ssH_r {len i : Nat} : ssH h x len i (x + 1) = some (.inl (.object "ShakenParcels$Scene", len, .inr (.inr (.inr (.inr (fun j => if j < i then some (x + 2 + 4 * j) else none)))))) := by
  unfold ssH; rw [if_neg (by omega), if_pos rfl]
theorem ssH_step {len i : Nat} {y : Option zC} : va_up (blkH (va_up (ssH h x len i) (x + 2 + 4 * i) y) (x + 2 + 4 * i) 4 (scC (x + 2 + 4 * i))) (x + 1) (some (.inl (.object "ShakenParcels$Scene", len, .inr (.inr (.inr (.inr (va_up (fun j => if j < i then some (x + 2 + 4 * j) else none) i (some (x + 2 + 4 * i))))))))) = ssH h x len (i + 1) := by
  funext b
  by_cases e1 : b = x + 1
  · subst e1
    rw [up_eq, ssH_r]
    congr 8
    funext j
    unfold va_up
    by_cases q : j = i
    · subst q; rw [if_pos rfl, if_pos (by omega)]
    · rw [if_neg q]
      show (if j < i then some (x + 2 + 4 * j) else none) = _
      by_cases q2 : j < i
      · rw [if_pos q2, if_pos (by omega)]
      · rw [if_neg q2, if_neg (by omega)]
  · rw [up_ne _ _ e1]
    unfold blkH
    by_cases e2 : x + 2 + 4 * i ≤ b ∧ b < x + 2 + 4 * i + 4
    · rw [if_pos e2]
      unfold ssH
      rw [if_neg (by omega), if_neg e1, if_pos (by omega)]
      unfold ssC
      rw [if_neg (by omega), if_neg (by omega), show (b - x - 2) / 4 = i by omega, show (b - x - 2) % 4 = b - (x + 2 + 4 * i) by omega]
    · rw [if_neg e2, up_ne _ _ (by omega)]
      unfold ssH
      by_cases e3 : b = x
      · rw [if_pos e3, if_pos e3]
      · rw [if_neg e3, if_neg e3, if_neg e1, if_neg e1]
        by_cases e4 : x + 2 ≤ b ∧ b < x + 2 + 4 * i
        · rw [if_pos e4, if_pos (by omega)]
        · rw [if_neg e4, if_neg (by omega)]
theorem n_scenes {len : Nat} (hlen : len ≤ 8) (hx : h x = some (.inr (2, [.null, .int (nI 0)]))) : zCt G MX2_init 2 (1 + 4 * len) (len + 33 * len) [.ref x, .int (nI len)] h (x + 1) (fun r h' n' => r = none ∧ h' = blkH h x (2 + 4 * len) (ssC x len) ∧ n' = x + 2 + 4 * len) := by
  refine zCt.of rfl (Nat.le_of_ble_eq_true rfl) rfl ?_
  refine x_aload_n dX2_init_0 rfl ?_
  refine x_objInit dX2_init_1 ⟨obX2_1, obj_i, obj_c⟩ (by decide) (Nat.le_of_ble_eq_true rfl) ?_
  refine x_aload_n dX2_init_4 rfl ?_
  refine x_iconst (v := nI 0) dX2_init_5 (by decide) ?_
  refine x_iload_n dX2_init_6 rfl ?_
  refine x_max dX2_init_7 (zmem 294 (by decide +kernel) rfl) (by decide) (by decide) (by omega) (Nat.le_of_ble_eq_true rfl) ⟨Nat.zero_le _, Nat.zero_le _⟩ ?_
  rw [show max 0 len = len by omega]
  refine x_newq (N := len) dX2_init_10 clX2_13 (nI_pos (by omega)) (nI_clamp (by omega)) (by omega) ⟨by show 0 + 1 ≤ _; omega, by show 0 + len ≤ _; omega⟩ ?_
  refine x_putF (h := va_up h (x + 1) _) dX2_init_13 flX2_15 ftX2_0 rfl (fun r hr => by cases hr; rfl) (fun r hr => by cases hr; exact fkX2_15) (by rw [up_ne _ _ (by omega)]; exact hx) rfl rfl (Nat.le_of_ble_eq_true rfl) ?_
  refine x_eqH (h' := ssH h x len 0) ?_ ?_
  · funext b
    unfold ssH
    by_cases e : b = x
    · subst e; rw [up_eq, if_pos rfl]; rfl
    · rw [up_ne _ _ e, if_neg e]
      by_cases e2 : b = x + 1
      · subst e2; rw [up_eq, if_pos rfl]; rfl
      · rw [up_ne _ _ e2, if_neg e2, if_neg (by omega)]
  refine x_iconst (v := nI 0) dX2_init_16 (by decide) ?_
  refine x_is2 dX2_init_17 (by decide) rfl ?_
  refine zEx.widen (u' := (1 + 4 * 0, len + 33 * 0)) (by show 0 + 1 ≤ 1 + 4 * 0; omega) (by show 0 + len ≤ len + 33 * 0; omega) ?_
  refine z_up len (P := fun i => zEx G MX2_init 2 (1 + 4 * len) (len + 33 * len) 18 [some (.ref x), some (.int (nI len)), some (.int (nI i))] [] (ssH h x len i) (x + 2 + 4 * i) (1 + 4 * i, len + 33 * i) _) ?_ 0 (Nat.zero_le _)
  intro i hi ih
  refine x_iload_n dX2_init_18 rfl ?_
  refine x_aload_n dX2_init_19 rfl ?_
  refine x_getf dX2_init_20 flX2_15 ssH_x rfl ?_
  refine x_alen (v := nI len) dX2_init_23 ssH_r rfl ?_
  refine n_icmp_ge (tgt := 46) dX2_init_24 (by decide) (by omega) (by omega) (fun c1 => ?_) (fun c1 => ?_)
  · have hie : i = len := by omega
    subst hie
    refine x_rowq (g := fun j => some (x + 2 + 4 * j)) ssH_r (fun j hj => if_pos hj) ?_
    refine x_vret dX2_init_46 rfl ⟨Nat.le_refl _, Nat.le_refl _⟩ ?_
    refine ⟨rfl, ?_, rfl⟩
    funext b
    unfold blkH
    by_cases e1 : b = x + 1
    · subst e1
      rw [up_eq, if_pos (by omega), show x + 1 - x = 1 by omega]
      rfl
    · rw [up_ne _ _ e1]
      unfold ssH
      by_cases e3 : b = x
      · subst e3
        rw [if_pos rfl, if_pos (by omega), Nat.sub_self]
        rfl
      · rw [if_neg e3, if_neg e1]
        by_cases e4 : x + 2 ≤ b ∧ b < x + 2 + 4 * i
        · rw [if_pos e4, if_pos (by omega)]
        · rw [if_neg e4, if_neg (by omega)]
  · refine x_aload_n dX2_init_27 rfl ?_
    refine x_getf dX2_init_28 flX2_15 ssH_x rfl ?_
    refine x_iload_n dX2_init_31 rfl ?_
    refine x_new (ci := 1) (r := (RX1, TX1, 5)) (fs := [.int (nI 0), .null, .null, .null, .int (nI 0)]) dX2_init_32 rfl uX1 ⟨clX2_13, itX1, izX1⟩ tyX1 tyX1_ok (by decide) ⟨by show 1 + 4 * i + 1 ≤ _; omega, by show len + 33 * i + 5 ≤ _; omega⟩ ?_
    refine x_dup dX2_init_35 rfl ?_
    refine x_callI (M' := MX1_init) (As := []) (rest := [.ref (x + 2 + 4 * i), .int (nI i), .ref (x + 1)]) dX2_init_36 lkX2_21 mdX1_init rfl rfl isX1_init (by decide) (n_scene (x := x + 2 + 4 * i) (up_eq _ _ _)) rfl (Nat.le_of_ble_eq_true rfl) rfl ⟨by show 1 + 4 * i + 1 + 3 ≤ _; omega, by show len + 33 * i + 5 + 28 ≤ _; omega⟩ ?_
    rintro r h' n' ⟨rfl, rfl, rfl⟩
    refine x_aast (ci := 1) (vs := [.int (nI 0), .ref (x + 2 + 4 * i + 1), .ref (x + 2 + 4 * i + 2), .ref (x + 2 + 4 * i + 3), .int (nI 0)]) (f := fun j => if j < i then some (x + 2 + 4 * j) else none) (len := len) (C := "ShakenParcels$Scene") dX2_init_39 (by unfold blkH; rw [if_neg (by omega), up_ne _ _ (by omega)]; exact ssH_r) (by unfold blkH; rw [if_pos (by omega), Nat.sub_self]; rfl) rfl rfl (vp_in_nI (by omega) (by omega)) ?_
    rw [nI_clamp (by omega)]
    refine x_eqH ssH_step ?_
    refine n_ii2 (w := 1) dX2_init_40 (by decide) (by decide) rfl ?_
    refine x_goto (tgt := 18) dX2_init_43 (by decide) ?_
    refine zEx.widen (u' := (1 + 4 * (i + 1), len + 33 * (i + 1))) (by show 1 + 4 * i + 1 + 3 ≤ 1 + 4 * (i + 1); omega) (by show len + 33 * i + 5 + 28 ≤ len + 33 * (i + 1); omega) ?_
    exact ih (by omega)
end ZN3
