theorem sys_w : Cond.static arraycopyName ∈ zTbl ∧ Cond.native arraycopyName ∈ zTbl ∧ Cond.initialized "java/lang/System" ∈ zTbl := ⟨zmem 712 (by decide +kernel) rfl, zmem 713 (by decide +kernel) rfl, zmem 78 (by decide +kernel) rfl⟩
section ZS8
variable {G : zG} {M : zM} {k mc ms pc n : Nat} {lv : List (Option Value)} {st : List Value} {h : zF} {u : Nat × Nat} {Q : zQ}
theorem x_acopy {idx a0 a n0 n1 z : Nat} {f g : Nat → Nat} (hd : decode M.2.1 pc = .ok (.invokestatic idx, 3)) (hlk : Cond.methodLink M.1.cls idx arraycopyName ∈ zTbl) (hk : 1 ≤ k) (hc0 : h a0 = some (iA n0 f)) (hc1 : h a = some (iA n1 g)) (hz0 : z ≤ n0) (hz1 : z ≤ n1) (hz : z < 2 ^ 31) (hrest : (st.map fun v => v.category).sum ≤ 8) (K : zEx G M k mc ms (pc + 3) lv st (va_up h a (some (iA n1 (fun j => if j < z then f j else g j)))) n u Q) : zEx G M k mc ms pc lv (.int (nI z) :: .int (nI 0) :: .ref a :: .int (nI 0) :: .ref a0 :: st) h n u Q := by
  intro d p e R s m args below meth c Qz hkd hC hF H locs ls hH hl hL
  obtain ⟨hx0, hb, hml, hown, hts, hK, hR, hR2, hnm⟩ := id hC
  have q0 := hH.2.2.2 a0 _ hc0
  have q1 := hH.2.2.2 a _ hc1
  obtain ⟨c0, hA0, hz0'⟩ := q0.2.2
  obtain ⟨c1, hA1, hz1'⟩ := q1.2.2
  obtain ⟨-, k0, hk0, cm0, hkk0⟩ := hA0.1 n0 (fun j => .int (nI (f j)))
  obtain ⟨-, k1, hk1, cm1, hkk1⟩ := hA1.1 n1 (fun j => .int (nI (g j)))
  have ez : (nI z).toNatClampNeg = z := nI_clamp hz
  have ei : (nI z).toInt = (z : Int) := nI_toInt hz
  have e0 : (nI 0).toNatClampNeg = 0 := rfl
  have en : ¬ nI z < 0 := nI_pos hz
  intro T hT X
  obtain ⟨vm', X', step⟩ := X.arraycopy hx0 hown (hts _ hlk) (hts _ sys_w.2.1) (hts _ sys_w.1) (hts _ sys_w.2.2) (src := a0) (dst := a) (cs := vp_cell c0 (n0, .inl fun j => nI (f j))) (cd := vp_cell c1 (n1, .inl fun j => nI (g j))) (srcPos := nI 0) (destPos := nI 0) (n := nI z) (by rw [hT]; exact hz0') (by rw [hT]; exact hz1')
    (fun _ h => by cases h) (fun _ h => by cases h) (fun h => by cases h) (fun h => by cases h) hk0 hk1 hkk0 hkk1 (by simp [refKind]) (by decide) (by decide) en
    (by show ¬ _ > ((arrV c0 n0 (fun j => .int (nI (f j)))).slots.size : Int); rw [arrV_size, ei]; show ¬ (0 : Int) + _ > _; omega)
    (by show ¬ _ > ((arrV c1 n1 (fun j => .int (nI (g j)))).slots.size : Int); rw [arrV_size, ei]; show ¬ (0 : Int) + _ > _; omega)
    (fun vm₁ _ i hi => by
      rw [ez] at hi
      have e : (vp_cell c0 (n0, .inl fun j => nI (f j))).slots.getD ((nI 0).toNatClampNeg + i) .null = .int (nI (f i)) := by
        show (arrV c0 n0 (fun j => .int (nI (f j)))).slots.getD _ _ = _
        rw [e0, Nat.zero_add, Array.getD_eq_getD_getElem?, arrV_read _ _ (by omega)]
        rfl
      refine ⟨?_, ?_⟩
      · rw [e]; rfl
      · rw [e]; exact trivial)
    (g := F0 m pc ls (.int (nI z) :: .int (nI 0) :: .ref a :: .int (nI 0) :: .ref a0 :: st)) rfl (by rw [hml, hL.1]) (rest := st) rfl (by rw [hb]; exact hd) (by omega) (by show 2 * 0 + _ + (5 + 2 + _) ≤ _; omega)
  have e1 : copied (vp_cell c0 (n0, .inl fun j => nI (f j))) (vp_cell c1 (n1, .inl fun j => nI (g j))) (nI 0) (nI 0) (nI z) = vp_cell c1 (n1, .inl (fun j => nI (if j < z then f j else g j))) := by
    refine (va_copied (fun z => .int z) c0 c1 (fun j => nI (f j)) (fun j => nI (g j)) (by rw [e0, ez]; omega)).trans ?_
    rw [e0, ez]
    show arrV c1 n1 (fun j => Value.int (va_cpy (fun j => nI (f j)) (fun j => nI (g j)) 0 0 z j)) = arrV c1 n1 (fun j => Value.int (nI (if j < z then f j else g j)))
    congr 1
    funext j
    show Value.int (if 0 ≤ j ∧ j < 0 + z then nI (f (0 + (j - 0))) else nI (g j)) = Value.int (nI (if j < z then f j else g j))
    by_cases q : j < z
    · rw [if_pos (by omega), if_pos q, Nat.zero_add, Nat.sub_zero]
    · rw [if_neg (by omega), if_neg q]
  rw [e1] at X' step
  have hl2 : a < H.size := (Array.getElem?_eq_some_iff.mp hz1').1
  have hheap : ((T.setVm vm').setCell a (vp_cell c1 (n1, .inl (fun j => nI (if j < z then f j else g j))))).heap = H.setIfInBounds a (vp_cell c1 (n1, .inl (fun j => nI (if j < z then f j else g j)))) := by rw [← hT]; rfl
  have oq : ∀ q : Nat, q ≠ a → (H.setIfInBounds a (vp_cell c1 (n1, .inl (fun j => nI (if j < z then f j else g j)))))[q]? = H[q]? := fun q hq => by simp [Array.getElem?_setIfInBounds, Ne.symm hq]
  obtain ⟨t, a1, b1⟩ := K d p e R s m args below meth c Qz hkd hC hF _ _ ls (hH.set hc1 (by simp) oq ⟨c1, hA1, by simp [Array.getElem?_setIfInBounds, hl2]⟩) (by
      intro q hq
      rcases List.mem_append.mp hq with h | h
      · exact hl q h
      · obtain ⟨y, -, hy⟩ := List.mem_map.mp h
        rw [← hy]
        exact q1.1) hL _ hheap X'
  exact ⟨t, step t a1, b1⟩
end ZS8
