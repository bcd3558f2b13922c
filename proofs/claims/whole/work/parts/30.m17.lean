def cF (a k : Nat) : List Value := [.int (nI 0), (if 1 ≤ k then .ref (a + 1) else .null), (if 2 ≤ k then .ref (a + 2) else .null), (if 3 ≤ k then .ref (a + 3) else .null), (if 4 ≤ k then .ref (a + 4) else .null), (if 5 ≤ k then .ref (a + 5) else .null), (if 6 ≤ k then .ref (a + 6) else .null), (if 7 ≤ k then .ref (a + 7) else .null), (if 8 ≤ k then .ref (a + 8) else .null), (if 9 ≤ k then .ref (a + 9) else .null), (if 10 ≤ k then .ref (a + 10) else .null), (if 11 ≤ k then .ref (a + 11) else .null), (if 12 ≤ k then .ref (a + 12) else .null), (if 13 ≤ k then .ref (a + 13) else .null), (if 14 ≤ k then .ref (a + 14) else .null), (if 15 ≤ k then .ref (a + 15) else .null), (if 16 ≤ k then .ref (a + 16) else .null), .int (nI 0), (if 17 ≤ k then .ref (a + 17) else .null), (if 18 ≤ k then .ref (a + 18) else .null), .int (nI 0), (if 19 ≤ k then .ref (a + 19) else .null), .int (nI 0), .int (nI 0), (if 20 ≤ k then .ref (a + 20) else .null), (if 21 ≤ k then .ref (a + 21) else .null), (if 22 ≤ k then .ref (a + 22) else .null), (if 23 ≤ k then .ref (a + 23) else .null), (if 24 ≤ k then .ref (a + 24) else .null), .int (nI 0), (if 25 ≤ k then .ref (a + 25) else .null), (if 26 ≤ k then .ref (a + 26) else .null), .int (nI 0)]
def cH (h0 : zF) (a k : Nat) : zF := fun b => if b = a then some (.inr (8, cF a k)) else if a < b ∧ b ≤ a + k then some (mC a (fun _ => 0) (fun _ _ => 0) (fun _ => 0) (b - a)) else h0 b
theorem cH_0 (h0 : zF) (a : Nat) : va_up h0 a (some (.inr (8, cF a 0))) = cH h0 a 0 := by
  funext b
  unfold va_up cH
  by_cases h : b = a
  · rw [if_pos h, if_pos h]
  · rw [if_neg h, if_neg h, if_neg (by omega)]
theorem cH_a (h0 : zF) (a k : Nat) : cH h0 a k a = some (.inr (8, cF a k)) := if_pos rfl
theorem cH_26 (h0 : zF) (a : Nat) : cH h0 a 26 = mH h0 a (fun _ => 0) (fun _ _ => 0) (fun _ => 0) := by
  funext b
  unfold cH mH
  by_cases h : b = a
  · subst h
    rw [if_pos rfl, if_pos ⟨Nat.le_refl _, by omega⟩, Nat.sub_self]
    rfl
  · rw [if_neg h]
    by_cases h2 : a < b ∧ b ≤ a + 26
    · rw [if_pos h2, if_pos ⟨by omega, by omega⟩]
    · rw [if_neg h2, if_neg (by omega)]
theorem cH_s {h0 : zF} {a k slot : Nat} (hset : (cF a k).set slot (.ref (a + (k + 1))) = cF a (k + 1)) : va_up (va_up (cH h0 a k) (a + 1 + k) (some (mC a (fun _ => 0) (fun _ _ => 0) (fun _ => 0) (k + 1)))) a (some (.inr (8, (cF a k).set slot (.ref (a + 1 + k))))) = cH h0 a (k + 1) := by
  rw [show a + 1 + k = a + (k + 1) by omega, hset]
  funext b
  unfold va_up cH
  by_cases h : b = a
  · rw [if_pos h, if_pos h]
  · simp only [if_neg h]
    by_cases h1 : b = a + (k + 1)
    · rw [if_pos h1, if_pos (show a < b ∧ b ≤ a + (k + 1) by omega), h1, show a + (k + 1) - a = k + 1 by omega]
    · rw [if_neg h1]
      by_cases h2 : a < b ∧ b ≤ a + k
      · rw [if_pos h2, if_pos (show a < b ∧ b ≤ a + (k + 1) by omega)]
      · rw [if_neg h2, if_neg (show ¬ (a < b ∧ b ≤ a + (k + 1)) by omega)]
theorem x_eqH {G : zG} {M : zM} {k mc ms pc n : Nat} {lv : List (Option Value)} {st : List Value} {h h' : zF} {u : Nat × Nat} {Q : zQ} (e : h = h') (K : zEx G M k mc ms pc lv st h' n u Q) : zEx G M k mc ms pc lv st h n u Q := e ▸ K
section ZM20
variable {G : zG} {pc : Nat} {lv : List (Option Value)} {st : List Value} {u : Nat × Nat} {Q : zQ} {h0 : zF} {a : Nat} {kk mc ms : Nat}
theorem m_alloc {k len idx slot : Nat} {at0 : ArrayType} {ty : FieldType} {a0 : vp_A} (hd1 : decode MX8_init.2.1 pc = .ok (.newarray at0, 2)) (hd2 : decode MX8_init.2.1 (pc + 2) = .ok (.putfield idx, 3)) (hty : newarray.typeOf at0 = ty) (hw : Cond.arrayClass ty ∈ zTbl) (hc : mC a (fun _ => 0) (fun _ _ => 0) (fun _ => 0) (k + 1) = .inl (ty, a0)) (ha : ∀ cA : ClassId, vp_cell cA a0 = arrV cA len (fun _ => defaultValue ty)) (hn : len < 10000) (hbt : len * componentBytes ty ≤ 536870912) (hk : zFld RX8 idx 8 slot) (hft : zFty 8 slot (.array ty) true) (hlk : ∀ r : vw_C, zCl[8]? = some r → Cond.fieldLink RX8 idx r.1 (r.2.1 slot).2.1 (r.2.1 slot).2.2.1 ∈ zTbl) (hl : slot < (cF a k).length) (hset : (cF a k).set slot (.ref (a + (k + 1))) = cF a (k + 1)) (hu : u.1 + 1 ≤ mc ∧ u.2 + len ≤ ms) (K : zEx G MX8_init kk mc ms (pc + 5) lv st (cH h0 a (k + 1)) (a + 1 + (k + 1)) (u.1 + 1, u.2 + len) Q) : zEx G MX8_init kk mc ms pc lv (.int (nI len) :: .ref a :: st) (cH h0 a k) (a + 1 + k) u Q := by
  refine x_newa (a0 := a0) hd1 hty hw ha (nI_pos (by omega)) (nI_clamp (by omega)) hbt hu ?_
  refine x_putF hd2 hk hft rfl (fun r hr => by cases hr; rfl) hlk (h := va_up (cH h0 a k) (a + 1 + k) _) (by rw [up_ne _ _ (by omega)]; exact cH_a h0 a k) rfl rfl hl ?_
  rw [← hc, cH_s hset]
  exact K
end ZM20
section ZM21
variable {G : zG} {n : Nat} {h0 : zF} {a : Nat}
/-- the reference's first tree -/
def A0m : Nat → Nat → Nat := (fun A => va_up A 15 (va_up (va_up (A 15) 0 4) 1 9)) ((fun A => va_up (va_up A 13 (va_up (va_up (A 13) 0 1) 2 3)) 14 (va_up (va_up (A 14) 0 20) 2 5)) ((fun A => va_up (va_up A 11 (va_up (A 11) 0 2)) 12 (va_up (A 12) 0 5)) (adP (adP (adT (adT (adT (adT (noT (fun _ _ => 0) 0 4) 0 5 0 3 4) 0 9 1 3 2) 0 5 2 4 1) 0 7 3 2 3) 0 1 0 1) 0 2 1 2)))
def I0m : Nat → Nat := fun _ => 0
theorem A0m_ok : tOK (vw A0m 0) := by
  refine ⟨by decide, by decide, ?_, ?_, by decide, by decide, by decide, by decide, ?_⟩
  · have e : vw A0m 0 2 0 = 4 := by decide
    rw [e]; decide
  · have e : vw A0m 0 7 0 = 2 := by decide
    rw [e]; decide
  · have e : vw A0m 0 7 0 = 2 := by decide
    rw [e]
    intro p hp hp4
    rcases (show p = 2 ∨ p = 3 by omega) with rfl | rfl <;> decide

set_option maxHeartbeats 1000000 in
set_option maxRecDepth 100000 in
theorem c_initM : zCt G MX8_init 5 26 19647 [.ref a] (va_up h0 a (some (.inr (8, cF a 0)))) (a + 1) (fun r h' n' => r = none ∧ (∃ f g, h' = mH h0 a (va_up (va_up (va_up I0m 20 0) 22 0) 17 (wl (vw A0m 0)).length) (va_up (va_up (va_up A0m 17 (nwA A0m 21)) 16 g) 21 f) (fun _ => 0) ∧ arrIs g (wl (vw A0m 0))) ∧ n' = a + 27) := by
  rw [cH_0]
  refine zCt.of rfl (Nat.le_of_ble_eq_true rfl) rfl ?_
  refine x_aload_n dX8_init_0 rfl ?_
  refine x_objInit dX8_init_1 ⟨obX8_1, obj_i, obj_c⟩ (by decide) (Nat.le_of_ble_eq_true rfl) ?_
  refine x_aload_n dX8_init_4 rfl ?_
  refine x_sipush (v := nI 200) dX8_init_5 (by decide) ?_
  refine m_alloc (k := 0) (len := 200) (slot := 1) (ty := .int) (a0 := (200, .inl (fun _ => nI 0))) dX8_init_8 dX8_init_10 rfl ac_int rfl (fun _ => rfl) (by decide) (by decide) flX8_7 ftX8_1 (fun r hr => by cases hr; exact fkX8_7) (by simp [cF]) rfl ⟨by decide, by decide⟩ ?_
  refine x_aload_n dX8_init_13 rfl ?_
  refine x_iconst (v := nI 2) dX8_init_14 (by decide) ?_
  refine m_alloc (k := 1) (len := 2) (slot := 2) (ty := .int) (a0 := (2, .inl (fun _ => nI 0))) dX8_init_15 dX8_init_17 rfl ac_int rfl (fun _ => rfl) (by decide) (by decide) flX8_13 ftX8_2 (fun r hr => by cases hr; exact fkX8_13) (by simp [cF]) rfl ⟨by decide, by decide⟩ ?_
  refine x_aload_n dX8_init_20 rfl ?_
  refine x_bipush (v := nI 16) dX8_init_21 (by decide) ?_
  refine m_alloc (k := 2) (len := 16) (slot := 3) (ty := .int) (a0 := (16, .inl (fun _ => nI 0))) dX8_init_23 dX8_init_25 rfl ac_int rfl (fun _ => rfl) (by decide) (by decide) flX8_16 ftX8_3 (fun r hr => by cases hr; exact fkX8_16) (by simp [cF]) rfl ⟨by decide, by decide⟩ ?_
  refine x_aload_n dX8_init_28 rfl ?_
  refine x_bipush (v := nI 16) dX8_init_29 (by decide) ?_
  refine m_alloc (k := 3) (len := 16) (slot := 4) (ty := .int) (a0 := (16, .inl (fun _ => nI 0))) dX8_init_31 dX8_init_33 rfl ac_int rfl (fun _ => rfl) (by decide) (by decide) flX8_19 ftX8_4 (fun r hr => by cases hr; exact fkX8_19) (by simp [cF]) rfl ⟨by decide, by decide⟩ ?_
  refine x_aload_n dX8_init_36 rfl ?_
  refine x_bipush (v := nI 16) dX8_init_37 (by decide) ?_
  refine m_alloc (k := 4) (len := 16) (slot := 5) (ty := .int) (a0 := (16, .inl (fun _ => nI 0))) dX8_init_39 dX8_init_41 rfl ac_int rfl (fun _ => rfl) (by decide) (by decide) flX8_22 ftX8_5 (fun r hr => by cases hr; exact fkX8_22) (by simp [cF]) rfl ⟨by decide, by decide⟩ ?_
  refine x_aload_n dX8_init_44 rfl ?_
  refine x_bipush (v := nI 16) dX8_init_45 (by decide) ?_
  refine m_alloc (k := 5) (len := 16) (slot := 6) (ty := .int) (a0 := (16, .inl (fun _ => nI 0))) dX8_init_47 dX8_init_49 rfl ac_int rfl (fun _ => rfl) (by decide) (by decide) flX8_25 ftX8_6 (fun r hr => by cases hr; exact fkX8_25) (by simp [cF]) rfl ⟨by decide, by decide⟩ ?_
  refine x_aload_n dX8_init_52 rfl ?_
  refine x_iconst (v := nI 2) dX8_init_53 (by decide) ?_
  refine m_alloc (k := 6) (len := 2) (slot := 7) (ty := .int) (a0 := (2, .inl (fun _ => nI 0))) dX8_init_54 dX8_init_56 rfl ac_int rfl (fun _ => rfl) (by decide) (by decide) flX8_28 ftX8_7 (fun r hr => by cases hr; exact fkX8_28) (by simp [cF]) rfl ⟨by decide, by decide⟩ ?_
  refine x_aload_n dX8_init_59 rfl ?_
  refine x_bipush (v := nI 8) dX8_init_60 (by decide) ?_
  refine m_alloc (k := 7) (len := 8) (slot := 8) (ty := .int) (a0 := (8, .inl (fun _ => nI 0))) dX8_init_62 dX8_init_64 rfl ac_int rfl (fun _ => rfl) (by decide) (by decide) flX8_31 ftX8_8 (fun r hr => by cases hr; exact fkX8_31) (by simp [cF]) rfl ⟨by decide, by decide⟩ ?_
  refine x_aload_n dX8_init_67 rfl ?_
  refine x_bipush (v := nI 8) dX8_init_68 (by decide) ?_
  refine m_alloc (k := 8) (len := 8) (slot := 9) (ty := .int) (a0 := (8, .inl (fun _ => nI 0))) dX8_init_70 dX8_init_72 rfl ac_int rfl (fun _ => rfl) (by decide) (by decide) flX8_34 ftX8_9 (fun r hr => by cases hr; exact fkX8_34) (by simp [cF]) rfl ⟨by decide, by decide⟩ ?_
  refine x_aload_n dX8_init_75 rfl ?_
  refine x_bipush (v := nI 8) dX8_init_76 (by decide) ?_
  refine m_alloc (k := 9) (len := 8) (slot := 10) (ty := .int) (a0 := (8, .inl (fun _ => nI 0))) dX8_init_78 dX8_init_80 rfl ac_int rfl (fun _ => rfl) (by decide) (by decide) flX8_37 ftX8_10 (fun r hr => by cases hr; exact fkX8_37) (by simp [cF]) rfl ⟨by decide, by decide⟩ ?_
  refine x_aload_n dX8_init_83 rfl ?_
  refine x_iconst (v := nI 2) dX8_init_84 (by decide) ?_
  refine m_alloc (k := 10) (len := 2) (slot := 11) (ty := .int) (a0 := (2, .inl (fun _ => nI 0))) dX8_init_85 dX8_init_87 rfl ac_int rfl (fun _ => rfl) (by decide) (by decide) flX8_40 ftX8_11 (fun r hr => by cases hr; exact fkX8_40) (by simp [cF]) rfl ⟨by decide, by decide⟩ ?_
  refine x_aload_n dX8_init_90 rfl ?_
  refine x_iconst (v := nI 2) dX8_init_91 (by decide) ?_
  refine m_alloc (k := 11) (len := 2) (slot := 12) (ty := .int) (a0 := (2, .inl (fun _ => nI 0))) dX8_init_92 dX8_init_94 rfl ac_int rfl (fun _ => rfl) (by decide) (by decide) flX8_43 ftX8_12 (fun r hr => by cases hr; exact fkX8_43) (by simp [cF]) rfl ⟨by decide, by decide⟩ ?_
  refine x_aload_n dX8_init_97 rfl ?_
  refine x_bipush (v := nI 8) dX8_init_98 (by decide) ?_
  refine m_alloc (k := 12) (len := 8) (slot := 13) (ty := .int) (a0 := (8, .inl (fun _ => nI 0))) dX8_init_100 dX8_init_102 rfl ac_int rfl (fun _ => rfl) (by decide) (by decide) flX8_46 ftX8_13 (fun r hr => by cases hr; exact fkX8_46) (by simp [cF]) rfl ⟨by decide, by decide⟩ ?_
  refine x_aload_n dX8_init_105 rfl ?_
  refine x_bipush (v := nI 8) dX8_init_106 (by decide) ?_
  refine m_alloc (k := 13) (len := 8) (slot := 14) (ty := .int) (a0 := (8, .inl (fun _ => nI 0))) dX8_init_108 dX8_init_110 rfl ac_int rfl (fun _ => rfl) (by decide) (by decide) flX8_49 ftX8_14 (fun r hr => by cases hr; exact fkX8_49) (by simp [cF]) rfl ⟨by decide, by decide⟩ ?_
  refine x_aload_n dX8_init_113 rfl ?_
  refine x_iconst (v := nI 4) dX8_init_114 (by decide) ?_
  refine m_alloc (k := 14) (len := 4) (slot := 15) (ty := .int) (a0 := (4, .inl (fun _ => nI 0))) dX8_init_115 dX8_init_117 rfl ac_int rfl (fun _ => rfl) (by decide) (by decide) flX8_52 ftX8_15 (fun r hr => by cases hr; exact fkX8_52) (by simp [cF]) rfl ⟨by decide, by decide⟩ ?_
  refine x_aload_n dX8_init_120 rfl ?_
  refine x_sipush (v := nI 5040) dX8_init_121 (by decide) ?_
  refine m_alloc (k := 15) (len := 5040) (slot := 16) (ty := .int) (a0 := (5040, .inl (fun _ => nI 0))) dX8_init_124 dX8_init_126 rfl ac_int rfl (fun _ => rfl) (by decide) (by decide) flX8_55 ftX8_16 (fun r hr => by cases hr; exact fkX8_55) (by simp [cF]) rfl ⟨by decide, by decide⟩ ?_
  refine x_aload_n dX8_init_129 rfl ?_
  refine x_bipush (v := nI 21) dX8_init_130 (by decide) ?_
  refine m_alloc (k := 16) (len := 21) (slot := 18) (ty := .int) (a0 := (21, .inl (fun _ => nI 0))) dX8_init_132 dX8_init_134 rfl ac_int rfl (fun _ => rfl) (by decide) (by decide) flX8_58 ftX8_18 (fun r hr => by cases hr; exact fkX8_58) (by simp [cF]) rfl ⟨by decide, by decide⟩ ?_
  refine x_aload_n dX8_init_137 rfl ?_
  refine x_sipush (v := nI 168) dX8_init_138 (by decide) ?_
  refine m_alloc (k := 17) (len := 168) (slot := 19) (ty := .int) (a0 := (168, .inl (fun _ => nI 0))) dX8_init_141 dX8_init_143 rfl ac_int rfl (fun _ => rfl) (by decide) (by decide) flX8_61 ftX8_19 (fun r hr => by cases hr; exact fkX8_61) (by simp [cF]) rfl ⟨by decide, by decide⟩ ?_
  refine x_aload_n dX8_init_146 rfl ?_
  refine x_bipush (v := nI 42) dX8_init_147 (by decide) ?_
  refine m_alloc (k := 18) (len := 42) (slot := 21) (ty := .int) (a0 := (42, .inl (fun _ => nI 0))) dX8_init_149 dX8_init_151 rfl ac_int rfl (fun _ => rfl) (by decide) (by decide) flX8_64 ftX8_21 (fun r hr => by cases hr; exact fkX8_64) (by simp [cF]) rfl ⟨by decide, by decide⟩ ?_
  refine x_aload_n dX8_init_154 rfl ?_
  refine x_iconst (v := nI 4) dX8_init_155 (by decide) ?_
  refine m_alloc (k := 19) (len := 4) (slot := 24) (ty := .int) (a0 := (4, .inl (fun _ => nI 0))) dX8_init_156 dX8_init_158 rfl ac_int rfl (fun _ => rfl) (by decide) (by decide) flX8_67 ftX8_24 (fun r hr => by cases hr; exact fkX8_67) (by simp [cF]) rfl ⟨by decide, by decide⟩ ?_
  refine x_aload_n dX8_init_161 rfl ?_
  refine x_sipush (v := nI 5040) dX8_init_162 (by decide) ?_
  refine m_alloc (k := 20) (len := 5040) (slot := 25) (ty := .int) (a0 := (5040, .inl (fun _ => nI 0))) dX8_init_165 dX8_init_167 rfl ac_int rfl (fun _ => rfl) (by decide) (by decide) flX8_70 ftX8_25 (fun r hr => by cases hr; exact fkX8_70) (by simp [cF]) rfl ⟨by decide, by decide⟩ ?_
  refine x_aload_n dX8_init_170 rfl ?_
  refine x_sipush (v := nI 5040) dX8_init_171 (by decide) ?_
  refine m_alloc (k := 21) (len := 5040) (slot := 26) (ty := .boolean) (a0 := (5040, .inl (fun _ => nI 0))) dX8_init_174 dX8_init_176 rfl ac_boolean rfl (fun _ => rfl) (by decide) (by decide) flX8_73 ftX8_26 (fun r hr => by cases hr; exact fkX8_73) (by simp [cF]) rfl ⟨by decide, by decide⟩ ?_
  refine x_aload_n dX8_init_179 rfl ?_
  refine x_sipush (v := nI 256) dX8_init_180 (by decide) ?_
  refine m_alloc (k := 22) (len := 256) (slot := 27) (ty := .long) (a0 := (256, .inr (.inl (fun _ => lN 0)))) dX8_init_183 dX8_init_185 rfl ac_long rfl (fun _ => rfl) (by decide) (by decide) flX8_77 ftX8_27 (fun r hr => by cases hr; exact fkX8_77) (by simp [cF]) rfl ⟨by decide, by decide⟩ ?_
  refine x_aload_n dX8_init_188 rfl ?_
  refine x_bipush (v := nI 60) dX8_init_189 (by decide) ?_
  refine m_alloc (k := 23) (len := 60) (slot := 28) (ty := .int) (a0 := (60, .inl (fun _ => nI 0))) dX8_init_191 dX8_init_193 rfl ac_int rfl (fun _ => rfl) (by decide) (by decide) flX8_81 ftX8_28 (fun r hr => by cases hr; exact fkX8_81) (by simp [cF]) rfl ⟨by decide, by decide⟩ ?_
  refine x_aload_n dX8_init_196 rfl ?_
  refine x_sipush (v := nI 3600) dX8_init_197 (by decide) ?_
  refine m_alloc (k := 24) (len := 3600) (slot := 30) (ty := .int) (a0 := (3600, .inl (fun _ => nI 0))) dX8_init_200 dX8_init_202 rfl ac_int rfl (fun _ => rfl) (by decide) (by decide) flX8_84 ftX8_30 (fun r hr => by cases hr; exact fkX8_84) (by simp [cF]) rfl ⟨by decide, by decide⟩ ?_
  refine x_aload_n dX8_init_205 rfl ?_
  refine x_bipush (v := nI 60) dX8_init_206 (by decide) ?_
  refine m_alloc (k := 25) (len := 60) (slot := 31) (ty := .boolean) (a0 := (60, .inl (fun _ => nI 0))) dX8_init_208 dX8_init_210 rfl ac_boolean rfl (fun _ => rfl) (by decide) (by decide) flX8_87 ftX8_31 (fun r hr => by cases hr; exact fkX8_87) (by simp [cF]) rfl ⟨by decide, by decide⟩ ?_
  refine x_eqH (cH_26 h0 a) ?_
  refine x_aload_n dX8_init_213 rfl ?_
  refine x_iconst (v := nI 0) dX8_init_214 (by decide) ?_
  refine x_cVV1 dX8_init_215 lkX8_90 mdX8_noTree isX8_noTree rfl rfl mH_a (by decide) (c_noTree (by decide)) (Nat.le_of_ble_eq_true rfl) ⟨by decide, by decide⟩ ?_
  rintro _ rfl
  refine x_aload_n dX8_init_218 rfl ?_
  refine x_iconst (v := nI 0) dX8_init_219 (by decide) ?_
  refine x_iconst (v := nI 5) dX8_init_220 (by decide) ?_
  refine x_iconst (v := nI 0) dX8_init_221 (by decide) ?_
  refine x_iconst (v := nI 3) dX8_init_222 (by decide) ?_
  refine x_iconst (v := nI 4) dX8_init_223 (by decide) ?_
  refine x_cVV5 dX8_init_224 lkX8_94 mdX8_addThing isX8_addThing rfl rfl mH_a (by decide) (c_addThing (by decide) (by decide)) (Nat.le_of_ble_eq_true rfl) ⟨by decide, by decide⟩ ?_
  rintro _ rfl
  refine x_aload_n dX8_init_227 rfl ?_
  refine x_iconst (v := nI 0) dX8_init_228 (by decide) ?_
  refine x_bipush (v := nI 9) dX8_init_229 (by decide) ?_
  refine x_iconst (v := nI 1) dX8_init_231 (by decide) ?_
  refine x_iconst (v := nI 3) dX8_init_232 (by decide) ?_
  refine x_iconst (v := nI 2) dX8_init_233 (by decide) ?_
  refine x_cVV5 dX8_init_234 lkX8_94 mdX8_addThing isX8_addThing rfl rfl mH_a (by decide) (c_addThing (by decide) (by decide)) (Nat.le_of_ble_eq_true rfl) ⟨by decide, by decide⟩ ?_
  rintro _ rfl
  refine x_aload_n dX8_init_237 rfl ?_
  refine x_iconst (v := nI 0) dX8_init_238 (by decide) ?_
  refine x_iconst (v := nI 5) dX8_init_239 (by decide) ?_
  refine x_iconst (v := nI 2) dX8_init_240 (by decide) ?_
  refine x_iconst (v := nI 4) dX8_init_241 (by decide) ?_
  refine x_iconst (v := nI 1) dX8_init_242 (by decide) ?_
  refine x_cVV5 dX8_init_243 lkX8_94 mdX8_addThing isX8_addThing rfl rfl mH_a (by decide) (c_addThing (by decide) (by decide)) (Nat.le_of_ble_eq_true rfl) ⟨by decide, by decide⟩ ?_
  rintro _ rfl
  refine x_aload_n dX8_init_246 rfl ?_
  refine x_iconst (v := nI 0) dX8_init_247 (by decide) ?_
  refine x_bipush (v := nI 7) dX8_init_248 (by decide) ?_
  refine x_iconst (v := nI 3) dX8_init_250 (by decide) ?_
  refine x_iconst (v := nI 2) dX8_init_251 (by decide) ?_
  refine x_iconst (v := nI 3) dX8_init_252 (by decide) ?_
  refine x_cVV5 dX8_init_253 lkX8_94 mdX8_addThing isX8_addThing rfl rfl mH_a (by decide) (c_addThing (by decide) (by decide)) (Nat.le_of_ble_eq_true rfl) ⟨by decide, by decide⟩ ?_
  rintro _ rfl
  refine x_aload_n dX8_init_256 rfl ?_
  refine x_iconst (v := nI 0) dX8_init_257 (by decide) ?_
  refine x_iconst (v := nI 1) dX8_init_258 (by decide) ?_
  refine x_iconst (v := nI 0) dX8_init_259 (by decide) ?_
  refine x_iconst (v := nI 1) dX8_init_260 (by decide) ?_
  refine x_cVV4 dX8_init_261 lkX8_98 mdX8_addParcel isX8_addParcel rfl rfl mH_a (by decide) (c_addParcel (by decide) (by decide)) (Nat.le_of_ble_eq_true rfl) ⟨by decide, by decide⟩ ?_
  rintro _ rfl
  refine x_aload_n dX8_init_264 rfl ?_
  refine x_iconst (v := nI 0) dX8_init_265 (by decide) ?_
  refine x_iconst (v := nI 2) dX8_init_266 (by decide) ?_
  refine x_iconst (v := nI 1) dX8_init_267 (by decide) ?_
  refine x_iconst (v := nI 2) dX8_init_268 (by decide) ?_
  refine x_cVV4 dX8_init_269 lkX8_98 mdX8_addParcel isX8_addParcel rfl rfl mH_a (by decide) (c_addParcel (by decide) (by decide)) (Nat.le_of_ble_eq_true rfl) ⟨by decide, by decide⟩ ?_
  rintro _ rfl
  refine x_aload_n dX8_init_272 rfl ?_
  refine x_getf dX8_init_273 flX8_40 mH_a rfl ?_
  refine x_iconst (v := nI 0) dX8_init_276 (by decide) ?_
  refine x_iconst (v := nI 2) dX8_init_277 (by decide) ?_
  refine m_iast dX8_init_278 rfl (by simp only [mLen]; omega) (by decide) ?_
  refine x_aload_n dX8_init_279 rfl ?_
  refine x_getf dX8_init_280 flX8_43 mH_a rfl ?_
  refine x_iconst (v := nI 0) dX8_init_283 (by decide) ?_
  refine x_iconst (v := nI 5) dX8_init_284 (by decide) ?_
  refine m_iast dX8_init_285 rfl (by simp only [mLen]; omega) (by decide) ?_
  refine x_aload_n dX8_init_286 rfl ?_
  refine x_getf dX8_init_287 flX8_46 mH_a rfl ?_
  refine x_iconst (v := nI 0) dX8_init_290 (by decide) ?_
  refine x_iconst (v := nI 1) dX8_init_291 (by decide) ?_
  refine m_iast dX8_init_292 rfl (by simp only [mLen]; omega) (by decide) ?_
  refine x_aload_n dX8_init_293 rfl ?_
  refine x_getf dX8_init_294 flX8_49 mH_a rfl ?_
  refine x_iconst (v := nI 0) dX8_init_297 (by decide) ?_
  refine x_bipush (v := nI 20) dX8_init_298 (by decide) ?_
  refine m_iast dX8_init_300 rfl (by simp only [mLen]; omega) (by decide) ?_
  refine x_aload_n dX8_init_301 rfl ?_
  refine x_getf dX8_init_302 flX8_46 mH_a rfl ?_
  refine x_iconst (v := nI 2) dX8_init_305 (by decide) ?_
  refine x_iconst (v := nI 3) dX8_init_306 (by decide) ?_
  refine m_iast dX8_init_307 rfl (by simp only [mLen]; omega) (by decide) ?_
  refine x_aload_n dX8_init_308 rfl ?_
  refine x_getf dX8_init_309 flX8_49 mH_a rfl ?_
  refine x_iconst (v := nI 2) dX8_init_312 (by decide) ?_
  refine x_iconst (v := nI 5) dX8_init_313 (by decide) ?_
  refine m_iast dX8_init_314 rfl (by simp only [mLen]; omega) (by decide) ?_
  refine x_aload_n dX8_init_315 rfl ?_
  refine x_getf dX8_init_316 flX8_52 mH_a rfl ?_
  refine x_iconst (v := nI 0) dX8_init_319 (by decide) ?_
  refine x_iconst (v := nI 4) dX8_init_320 (by decide) ?_
  refine m_iast dX8_init_321 rfl (by simp only [mLen]; omega) (by decide) ?_
  refine x_aload_n dX8_init_322 rfl ?_
  refine x_getf dX8_init_323 flX8_52 mH_a rfl ?_
  refine x_iconst (v := nI 1) dX8_init_326 (by decide) ?_
  refine x_bipush (v := nI 9) dX8_init_327 (by decide) ?_
  refine m_iast dX8_init_329 rfl (by simp only [mLen]; omega) (by decide) ?_
  refine x_eqA (A' := A0m) ?_ ?_
  · unfold A0m; generalize adP (adP (adT (adT (adT (adT (noT (fun _ _ => 0) 0 4) 0 5 0 3 4) 0 9 1 3 2) 0 5 2 4 1) 0 7 3 2 3) 0 1 0 1) 0 2 1 2 = A9; funext k j; simp only [va_up, ite_app]; grind
  refine x_aload_n dX8_init_330 rfl ?_
  refine x_cVV0 dX8_init_331 lkX8_102 mdX8_begin isX8_begin rfl rfl mH_a (by decide) (c_begin A0m_ok) (Nat.le_of_ble_eq_true rfl) ⟨by decide, by decide⟩ ?_
  rintro h' ⟨f, g, rfl, hg⟩
  refine x_vret dX8_init_334 rfl ⟨by decide, by decide⟩ ?_
  exact ⟨rfl, ⟨f, g, rfl, hg⟩, by omega⟩
end ZM21
