/-- the heap by shapes L and contents V, over h0 -/
def gH (h0 : zF) (L : Nat → Option ((Nat → Nat) → zC)) (V : Nat → Nat → Nat) : zF := fun b => match L b with
  | none => h0 b
  | some s => some (s (V b))
abbrev sA (len : Nat) : (Nat → Nat) → zC := fun f => iA len f
abbrev sLA (len : Nat) : (Nat → Nat) → zC := fun f => lA len f
abbrev sW (r : Nat) : (Nat → Nat) → zC := fun f => .inr (6, [.ref r, .int (nI (f 1))])
abbrev zSh : Type := Nat → Option ((Nat → Nat) → zC)
section ZS9
variable {G : zG} {M : zM} {k mc ms pc n : Nat} {lv : List (Option Value)} {st : List Value} {u : Nat × Nat} {Q : zQ} {h0 : zF} {L : zSh} {V : Nat → Nat → Nat}
theorem g_c {b : Nat} {s : (Nat → Nat) → zC} (hL : L b = some s) : gH h0 L V b = some (s (V b)) := by unfold gH; rw [hL]
theorem g_out {b : Nat} (hL : L b = none) : gH h0 L V b = h0 b := by unfold gH; rw [hL]
theorem g_up {b : Nat} {s : (Nat → Nat) → zC} (hL : L b = some s) (f : Nat → Nat) : va_up (gH h0 L V) b (some (s f)) = gH h0 L (va_up V b f) := by
  funext x
  unfold va_up gH
  by_cases hx : x = b
  · subst hx; rw [if_pos rfl, hL]; simp
  · rw [if_neg hx]; simp [hx]
/-- a new shape at b -/
theorem g_new {b : Nat} (s : (Nat → Nat) → zC) (f : Nat → Nat) : va_up (gH h0 L V) b (some (s f)) = gH h0 (va_up L b (some s)) (va_up V b f) := by
  funext x
  unfold va_up gH
  by_cases hx : x = b
  · subst hx; simp
  · simp [hx]
theorem g_put {w idx ci i x : Nat} {fs : (Nat → Nat) → List Value} (hd : decode M.2.1 pc = .ok (.putfield idx, 3)) (hk : zFld M.1.cls idx ci i) (hty : zFty ci i .int false) (hL : L w = some (fun f => .inr (ci, fs f))) (hlen : i < (fs (V w)).length) (hs : (fs (V w)).set i (.int (nI x)) = fs (va_up (V w) i x)) (K : zEx G M k mc ms (pc + 3) lv st (gH h0 L (va_up V w (va_up (V w) i x))) n u Q) : zEx G M k mc ms pc lv (.int (nI x) :: .ref w :: st) (gH h0 L V) n u Q := by
  refine x_putf hd hk hty (g_c hL) rfl rfl hlen ?_
  rw [hs, g_up hL (va_up (V w) i x)]
  exact K
theorem x_eqV {V' : Nat → Nat → Nat} (e : V = V') (K : zEx G M k mc ms pc lv st (gH h0 L V') n u Q) : zEx G M k mc ms pc lv st (gH h0 L V) n u Q := e ▸ K
end ZS9
/-- the list l stands in the worlds w with rows r -/
def isWs (V : Nat → Nat → Nat) (w r : Nat) (l : List Nat) : Prop := V w 1 = l.length ∧ arrIs (V r) l
section ZS10
variable {G : zG} {n : Nat} {h0 : zF} {L : zSh} {V : Nat → Nat → Nat} {w r len : Nat}
theorem wr_ne (hw : L w = some (sW r)) (hr : L r = some (sA len)) : w ≠ r := by
  rintro rfl
  rw [hw] at hr
  have := congrFun (Option.some.inj hr) (fun _ => 0)
  cases this
theorem c_wClear (hw : L w = some (sW r)) : zPv G MX6_clear 0 [.ref w] (gH h0 L V) n (fun h' => h' = gH h0 L (va_up V w (va_up (V w) 1 0))) := by
  refine zCt.of rfl (Nat.le_of_ble_eq_true rfl) rfl ?_
  refine x_aload_n dX6_clear_0 rfl ?_
  refine x_iconst (v := nI 0) dX6_clear_1 (by decide) ?_
  refine g_put dX6_clear_2 flX6_13 ftX6_1 hw (Nat.le_of_ble_eq_true rfl) rfl ?_
  refine x_vret dX6_clear_5 rfl ⟨Nat.le_refl _, Nat.le_refl _⟩ ?_
  exact ⟨rfl, rfl, rfl⟩
theorem c_wAdd {x : Nat} (hw : L w = some (sW r)) (hr : L r = some (sA len)) (hm : len < 2 ^ 31) (hs : V w 1 < len) : zPv G MX6_add 0 [.ref w, .int (nI x)] (gH h0 L V) n (fun h' => h' = gH h0 L (va_up (va_up V r (va_up (V r) (V w 1) x)) w (va_up (V w) 1 (V w 1 + 1)))) := by
  refine zCt.of rfl (Nat.le_of_ble_eq_true rfl) rfl ?_
  have hne := wr_ne hw hr
  refine x_aload_n dX6_add_0 rfl ?_
  refine x_getf dX6_add_1 flX6_13 (g_c hw) rfl ?_
  refine x_aload_n dX6_add_4 rfl ?_
  refine x_getf dX6_add_5 flX6_7 (g_c hw) rfl ?_
  refine x_alen dX6_add_8 (g_c hr) rfl ?_
  refine n_icmp_ge (tgt := 32) dX6_add_9 (by decide) (by omega) (by omega) (fun c1 => ?_) (fun c1 => ?_)
  · omega
  · refine x_aload_n dX6_add_12 rfl ?_
    refine x_getf dX6_add_13 flX6_7 (g_c hw) rfl ?_
    refine x_aload_n dX6_add_16 rfl ?_
    refine x_getf dX6_add_17 flX6_13 (g_c hw) rfl ?_
    refine x_iload_n dX6_add_20 rfl ?_
    refine g_iast dX6_add_21 (g_c hr) (by omega) (by omega) ?_
    rw [g_up hr]
    have e1 : (va_up V r (va_up (V r) (V w 1) x)) w = V w := by unfold va_up; rw [if_neg hne]
    refine x_aload_n dX6_add_22 rfl ?_
    refine x_dup dX6_add_23 rfl ?_
    refine x_getf dX6_add_24 flX6_13 (g_c hw) rfl ?_
    refine x_iconst (v := nI 1) dX6_add_27 (by decide) ?_
    refine n_iadd dX6_add_28 ?_
    rw [e1]
    refine g_put dX6_add_29 flX6_13 ftX6_1 hw (Nat.le_of_ble_eq_true rfl) rfl ?_
    refine x_vret dX6_add_32 rfl ⟨Nat.le_refl _, Nat.le_refl _⟩ ?_
    exact ⟨rfl, by rw [e1], rfl⟩
theorem c_take {j : Nat} (hw : L w = some (sW r)) (hr : L r = some (sA len)) (hm : len < 2 ^ 31) (hj : j < len) : zI G MX6_take 1 [.ref w, .int (nI j)] (gH h0 L V) n (nI (V r j)) := by
  refine zCt.of rfl (Nat.le_of_ble_eq_true rfl) rfl ?_
  refine x_aload_n dX6_take_0 rfl ?_
  refine x_getf dX6_take_1 flX6_7 (g_c hw) rfl ?_
  refine x_iload_n dX6_take_4 rfl ?_
  refine x_cSi2 dX6_take_5 lkX6_17 mdX7_at stX7_at (by decide) (c_atN (g_c hr) hm hj) (Nat.le_of_ble_eq_true rfl) ⟨Nat.le_refl _, Nat.le_refl _⟩ ?_
  refine x_iret dX6_take_8 rfl rfl ⟨Nat.le_refl _, Nat.le_refl _⟩ ?_
  exact ⟨rfl, rfl, rfl⟩
theorem c_wSet {j x : Nat} (hw : L w = some (sW r)) (hr : L r = some (sA len)) (hm : len < 2 ^ 31) (hj : j < len) : zPv G MX6_set 1 [.ref w, .int (nI j), .int (nI x)] (gH h0 L V) n (fun h' => h' = gH h0 L (va_up V r (va_up (V r) j x))) := by
  refine zCt.of rfl (Nat.le_of_ble_eq_true rfl) rfl ?_
  refine x_aload_n dX6_set_0 rfl ?_
  refine x_getf dX6_set_1 flX6_7 (g_c hw) rfl ?_
  refine x_iload_n dX6_set_4 rfl ?_
  refine x_iload_n dX6_set_5 rfl ?_
  refine x_cSV3 dX6_set_6 lkX6_23 mdX7_put stX7_put (by decide) (c_putN (g_c hr) hm hj) (Nat.le_of_ble_eq_true rfl) ⟨Nat.le_refl _, Nat.le_refl _⟩ ?_
  rintro h' rfl
  refine x_vret dX6_set_9 rfl ⟨Nat.le_refl _, Nat.le_refl _⟩ ?_
  exact ⟨rfl, g_up hr _, rfl⟩
theorem c_wCopy {w2 r2 len2 : Nat} (hw : L w = some (sW r)) (hr : L r = some (sA len)) (hm : len < 2 ^ 31) (hw2 : L w2 = some (sW r2)) (hr2 : L r2 = some (sA len2)) (hm2 : len2 < 2 ^ 31) (hs : V w2 1 ≤ len) (hs2 : V w2 1 ≤ len2) (hn : w2 ≠ w) : zPv G MX6_copy 1 [.ref w, .ref w2] (gH h0 L V) n (fun h' => h' = gH h0 L (va_up (va_up V w (va_up (V w) 1 (V w2 1))) r (fun j => if j < V w2 1 then V r2 j else V r j))) := by
  refine zCt.of rfl (Nat.le_of_ble_eq_true rfl) rfl ?_
  have hne := wr_ne hw hr
  have hne2 : w ≠ r2 := by
    rintro rfl
    rw [hw] at hr2
    have := congrFun (Option.some.inj hr2) (fun _ => 0)
    cases this
  refine x_aload_n dX6_copy_0 rfl ?_
  refine x_aload_n dX6_copy_1 rfl ?_
  refine x_getf dX6_copy_2 flX6_13 (g_c hw2) rfl ?_
  refine x_aload_n dX6_copy_5 rfl ?_
  refine x_getf dX6_copy_6 flX6_7 (g_c hw2) rfl ?_
  refine x_alen dX6_copy_9 (g_c hr2) rfl ?_
  refine x_aload_n dX6_copy_10 rfl ?_
  refine x_getf dX6_copy_11 flX6_7 (g_c hw) rfl ?_
  refine x_alen dX6_copy_14 (g_c hr) rfl ?_
  refine x_min dX6_copy_15 (zmem 708 (by decide +kernel) rfl) (by decide) (by omega) (by omega) (Nat.le_of_ble_eq_true rfl) ⟨Nat.le_refl _, Nat.le_refl _⟩ ?_
  refine x_min dX6_copy_18 (zmem 708 (by decide +kernel) rfl) (by decide) (by omega) (by omega) (Nat.le_of_ble_eq_true rfl) ⟨Nat.le_refl _, Nat.le_refl _⟩ ?_
  rw [show min (V w2 1) (min len2 len) = V w2 1 by omega]
  refine g_put dX6_copy_21 flX6_13 ftX6_1 hw (Nat.le_of_ble_eq_true rfl) rfl ?_
  refine x_aload_n dX6_copy_24 rfl ?_
  refine x_getf dX6_copy_25 flX6_7 (g_c hw2) rfl ?_
  refine x_iconst (v := nI 0) dX6_copy_28 (by decide) ?_
  refine x_aload_n dX6_copy_29 rfl ?_
  refine x_getf dX6_copy_30 flX6_7 (g_c hw) rfl ?_
  refine x_iconst (v := nI 0) dX6_copy_33 (by decide) ?_
  refine x_aload_n dX6_copy_34 rfl ?_
  refine x_getf dX6_copy_35 flX6_13 (g_c hw) rfl ?_
  rw [show (va_up V w (va_up (V w) 1 (V w2 1))) w 1 = V w2 1 by simp [va_up]]
  refine x_acopy (z := V w2 1) dX6_copy_38 (zmem 711 (by decide +kernel) rfl) (by decide) (g_c hr2) (g_c hr) hs2 hs (by omega) (Nat.le_of_ble_eq_true rfl) ?_
  rw [g_up hr]
  refine x_vret dX6_copy_41 rfl ⟨Nat.le_refl _, Nat.le_refl _⟩ ?_
  refine ⟨rfl, ?_, rfl⟩
  congr 2
  funext j
  unfold va_up
  rw [if_neg (Ne.symm hne2), if_neg (Ne.symm hne)]
theorem c_holds {x : Nat} {l : List Nat} (hw : L w = some (sW r)) (hr : L r = some (sA len)) (hm : len < 2 ^ 31) (hl : isWs V w r l) (hln : l.length ≤ len) (hx : x < 2 ^ 32) (hy : ∀ y ∈ l, y < 2 ^ 32) : zI G MX6_holds 2 [.ref w, .int (nI x)] (gH h0 L V) n (nI (decide (x ∈ l)).toNat) := by
  refine zCt.of rfl (Nat.le_of_ble_eq_true rfl) rfl ?_
  have e1 : V w 1 = l.length := hl.1
  refine x_iconst (v := nI 0) dX6_holds_0 (by decide) ?_
  refine x_is2 dX6_holds_1 (by decide) rfl ?_
  refine z_up l.length (P := fun i => (∀ j, j < i → l.getD j 0 ≠ x) → zEx G MX6_holds 2 0 0 2 [some (.ref w), some (.int (nI x)), some (.int (nI i))] [] (gH h0 L V) n (0, 0) _) ?_ 0 (Nat.zero_le _) (fun j hj => absurd hj (by omega))
  intro i hi ih hf
  refine x_iload_n dX6_holds_2 rfl ?_
  refine x_aload_n dX6_holds_3 rfl ?_
  refine x_getf dX6_holds_4 flX6_13 (g_c hw) rfl ?_
  rw [e1]
  refine n_icmp_ge (tgt := 27) dX6_holds_7 (by decide) (by omega) (by omega) (fun hc => ?_) (fun hc => ?_)
  · refine x_iconst (v := nI 0) dX6_holds_27 (by decide) ?_
    refine x_iret dX6_holds_28 rfl (nar_b false) ⟨Nat.le_refl _, Nat.le_refl _⟩ ?_
    refine ⟨?_, rfl, rfl⟩
    rw [decide_eq_false]
    · rfl
    · intro hmem
      obtain ⟨j, hj, e⟩ := List.getElem_of_mem hmem
      refine hf j (by omega) ?_
      rw [List.getD_eq_getElem?_getD, List.getElem?_eq_getElem hj, e]; rfl
  · have hi' : i < l.length := by omega
    have ev : V r i = l.getD i 0 := hl.2 i hi'
    have hmem : l.getD i 0 ∈ l := by
      rw [List.getD_eq_getElem?_getD, List.getElem?_eq_getElem hi']; exact List.getElem_mem hi'
    have hlt := hy _ hmem
    refine x_aload_n dX6_holds_10 rfl ?_
    refine x_iload_n dX6_holds_11 rfl ?_
    refine x_cVi1 dX6_holds_12 lkX6_39 mdX6_take isX6_take rfl rfl (g_c hw) (by decide) (c_take hw hr hm (by omega)) (Nat.le_of_ble_eq_true rfl) ⟨Nat.le_refl _, Nat.le_refl _⟩ ?_
    refine x_iload_n dX6_holds_15 rfl ?_
    rw [ev]
    refine x_icmp_ne (tgt := 21) dX6_holds_16 (by decide) (fun c1 => ?_) (fun c1 => ?_)
    · refine n_ii2 (w := 1) dX6_holds_21 (by decide) (by decide) rfl ?_
      refine x_goto (tgt := 2) dX6_holds_24 (by decide) ?_
      refine ih (by omega) (fun j hj => ?_)
      by_cases q : j = i
      · subst q
        exact fun z => c1 (by rw [z])
      · exact hf j (by omega)
    · have c1 : l.getD i 0 = x := (nI_inj32 hlt hx).mp c1
      refine x_iconst (v := nI 1) dX6_holds_19 (by decide) ?_
      refine x_iret dX6_holds_20 rfl (nar_b true) ⟨Nat.le_refl _, Nat.le_refl _⟩ ?_
      exact ⟨by rw [decide_eq_true (c1 ▸ hmem)]; rfl, rfl, rfl⟩
end ZS10
