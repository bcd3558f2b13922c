abbrev sS (x : Nat) : (Nat → Nat) → zC := fun f => .inr (1, [.int (nI (f 0)), .ref (x + 1), .ref (x + 2), .ref (x + 3), .int (nI (f 4))])
abbrev sSs (r : Nat) : (Nat → Nat) → zC := fun f => .inr (2, [.ref r, .int (nI (f 1))])
abbrev sR (len : Nat) : (Nat → Nat) → zC := fun f => .inl (.object "ShakenParcels$Scene", len, .inr (.inr (.inr (.inr (fun j => some (f j))))))
/-- a scene stands at x -/
def zSc (L : zSh) (x : Nat) : Prop := L x = some (sS x) ∧ L (x + 1) = some (sA 4) ∧ L (x + 2) = some (sA 12) ∧ L (x + 3) = some (sA 12)
/-- the scene at x in V' is that at y in V -/
def scEq (V' : Nat → Nat → Nat) (x : Nat) (V : Nat → Nat → Nat) (y : Nat) : Prop := V' x 0 = V y 0 ∧ V' x 4 = V y 4 ∧ (∀ j, j < 4 → V' (x + 1) j = V (y + 1) j) ∧ ∀ j, j < 12 → V' (x + 2) j = V (y + 2) j ∧ V' (x + 3) j = V (y + 3) j
section ZS23
variable {G : zG} {M : zM} {k mc ms pc n : Nat} {lv : List (Option Value)} {st : List Value} {h : zF} {u : Nat × Nat} {Q : zQ}
theorem g_aald {b len j : Nat} {f : Nat → Nat} (hd : decode M.2.1 pc = .ok (.aaload, 1)) (hc : h b = some (sR len f)) (hj : j < len) (hm : len < 2 ^ 31) (K : zEx G M k mc ms (pc + 1) lv (.ref (f j) :: st) h n u Q) : zEx G M k mc ms pc lv (.int (nI j) :: .ref b :: st) h n u Q := by
  refine x_aald hd hc (vp_in_nI hj hm) ?_
  rw [nI_clamp (by omega)]
  exact K
theorem g_aast {b len j v : Nat} {f : Nat → Nat} {vs : List Value} (hd : decode M.2.1 pc = .ok (.aastore, 1)) (hc : h b = some (sR len f)) (hv : h v = some (.inr (1, vs))) (hj : j < len) (hm : len < 2 ^ 31) (K : zEx G M k mc ms (pc + 1) lv st (va_up h b (some (sR len (va_up f j v)))) n u Q) : zEx G M k mc ms pc lv (.ref v :: .int (nI j) :: .ref b :: st) h n u Q := by
  refine x_aast (ci := 1) hd hc hv rfl rfl (vp_in_nI hj hm) ?_
  rw [nI_clamp (by omega)]
  have e : va_up (fun i => some (f i)) j (some v) = fun i => some (va_up f j v i) := by
    funext i; unfold va_up; by_cases h : i = j <;> simp [h]
  rw [e]
  exact K
end ZS23
section ZS24
variable {G : zG} {n : Nat} {h0 : zF} {L : zSh} {V : Nat → Nat → Nat} {x y z r len : Nat}
theorem c_scFull (hx : zSc L x) (h4 : V x 4 < 2 ^ 31) : zI G MX1_isFull 0 [.ref x] (gH h0 L V) n (nI (decide (12 ≤ V x 4)).toNat) := by
  refine zCt.of rfl (Nat.le_of_ble_eq_true rfl) rfl ?_
  refine x_aload_n dX1_isFull_0 rfl ?_
  refine x_getf dX1_isFull_1 flX1_31 (g_c (And.left hx)) rfl ?_
  refine x_bipush (v := nI 12) dX1_isFull_4 (by decide) ?_
  refine n_icmp_lt (tgt := 13) dX1_isFull_6 (by decide) (by omega) (by omega) (fun c1 => ?_) (fun c1 => ?_)
  · refine x_iconst (v := nI 0) dX1_isFull_13 (by decide) ?_
    refine x_iret dX1_isFull_14 rfl (nar_b false) ⟨Nat.le_refl _, Nat.le_refl _⟩ ?_
    exact ⟨by rw [decide_eq_false (by omega)]; rfl, rfl, rfl⟩
  · refine x_iconst (v := nI 1) dX1_isFull_9 (by decide) ?_
    refine x_goto (tgt := 14) dX1_isFull_10 (by decide) ?_
    refine x_iret dX1_isFull_14 rfl (nar_b true) ⟨Nat.le_refl _, Nat.le_refl _⟩ ?_
    exact ⟨by rw [decide_eq_true (by omega)]; rfl, rfl, rfl⟩
theorem c_scBegin {w : Nat} (hx : zSc L x) : zPv G MX1_begin 1 [.ref x, .int (nI w)] (gH h0 L V) n (fun h' => ∃ V', h' = gH h0 L V' ∧ (∀ b, b ≠ x → b ≠ x + 1 → V' b = V b) ∧ V' x 0 = w ∧ V' x 4 = 0 ∧ ∀ j, j < 4 → V' (x + 1) j = 0) := by
  refine zCt.of rfl (Nat.le_of_ble_eq_true rfl) rfl ?_
  refine x_aload_n dX1_begin_0 rfl ?_
  refine x_iload_n dX1_begin_1 rfl ?_
  refine g_put dX1_begin_2 flX1_21 ftX1_0 hx.1 (Nat.le_of_ble_eq_true rfl) rfl ?_
  refine x_aload_n dX1_begin_5 rfl ?_
  refine x_getf dX1_begin_6 flX1_9 (g_c (And.left hx)) rfl ?_
  refine x_iconst (v := nI 0) dX1_begin_9 (by decide) ?_
  refine x_cSV2 dX1_begin_10 lkX1_25 mdJ7_fill_53178 stJ7_fill_53178 (by decide) (c_fillI (g_c hx.2.1) (by decide)) (Nat.le_of_ble_eq_true rfl) ⟨Nat.le_refl _, Nat.le_refl _⟩ ?_
  rintro h' rfl
  refine x_eqH (g_up hx.2.1 _) ?_
  refine x_aload_n dX1_begin_13 rfl ?_
  refine x_iconst (v := nI 0) dX1_begin_14 (by decide) ?_
  refine g_put dX1_begin_15 flX1_31 ftX1_4 hx.1 (Nat.le_of_ble_eq_true rfl) rfl ?_
  refine x_vret dX1_begin_18 rfl ⟨Nat.le_refl _, Nat.le_refl _⟩ ?_
  refine ⟨rfl, ⟨_, rfl, ?_, ?_, ?_, ?_⟩, rfl⟩
  · intro b h1 h2; simp [va_up, h1, h2]
  · simp [va_up]
  · simp [va_up]
  · intro j hj; simp [va_up, hj]
theorem c_scCopy (hx : zSc L x) (hy : zSc L y) (hxy : x + 3 < y ∨ y + 3 < x) : zPv G MX1_copy 1 [.ref x, .ref y] (gH h0 L V) n (fun h' => ∃ V', h' = gH h0 L V' ∧ (∀ b, (b < x ∨ x + 3 < b) → V' b = V b) ∧ scEq V' x V y) := by
  refine zCt.of rfl (Nat.le_of_ble_eq_true rfl) rfl ?_
  refine x_aload_n dX1_copy_0 rfl ?_
  refine x_aload_n dX1_copy_1 rfl ?_
  refine x_getf dX1_copy_2 flX1_21 (g_c hy.1) rfl ?_
  refine g_put dX1_copy_5 flX1_21 ftX1_0 hx.1 (Nat.le_of_ble_eq_true rfl) rfl ?_
  refine x_iconst (v := nI 0) dX1_copy_8 (by decide) ?_
  refine x_is2 dX1_copy_9 (by decide) rfl ?_
  have K39 : ∀ i, i ≤ 12 → ∀ V' : Nat → Nat → Nat, (∀ b, (b < x ∨ x + 3 < b) → V' b = V b) → V' x 0 = V y 0 → (∀ j, j < 4 → V' (x + 1) j = V (y + 1) j) → (∀ j, j < i → V' (x + 2) j = V (y + 2) j ∧ V' (x + 3) j = V (y + 3) j) → zEx G MX1_copy 1 0 0 39 [some (.ref x), some (.ref y), some (.int (nI i))] [] (gH h0 L V') n (0, 0) (fun r h' n' => r = none ∧ (∃ V', h' = gH h0 L V' ∧ (∀ b, (b < x ∨ x + 3 < b) → V' b = V b) ∧ scEq V' x V y) ∧ n' = n) := by
    refine z_up 12 ?_
    intro i hi ih V' g1 g2 g3 g4
    have ey : V' y = V y := g1 y (by omega)
    have ey2 : V' (y + 2) = V (y + 2) := g1 _ (by omega)
    have ey3 : V' (y + 3) = V (y + 3) := g1 _ (by omega)
    refine x_iload_n dX1_copy_39 rfl ?_
    refine x_bipush (v := nI 12) dX1_copy_40 (by decide) ?_
    refine n_icmp_ge (tgt := 83) dX1_copy_42 (by decide) (by omega) (by omega) (fun c1 => ?_) (fun c1 => ?_)
    · have hie : i = 12 := by omega
      subst hie
      refine x_aload_n dX1_copy_83 rfl ?_
      refine x_aload_n dX1_copy_84 rfl ?_
      refine x_getf dX1_copy_85 flX1_31 (g_c hy.1) rfl ?_
      rw [ey]
      refine g_put dX1_copy_88 flX1_31 ftX1_4 hx.1 (Nat.le_of_ble_eq_true rfl) rfl ?_
      refine x_vret dX1_copy_91 rfl ⟨Nat.le_refl _, Nat.le_refl _⟩ ?_
      refine ⟨rfl, ⟨_, rfl, ?_, ?_, ?_, ?_, ?_⟩, rfl⟩
      · intro b hb; rw [← g1 b hb]; unfold va_up; rw [if_neg (by omega)]
      · rw [← g2]; simp [va_up]
      · simp [va_up]
      · intro j hj; rw [← g3 j hj]; simp [va_up]
      · intro j hj; rw [← (g4 j hj).1, ← (g4 j hj).2]; simp [va_up]
    · refine x_aload_n dX1_copy_45 rfl ?_
      refine x_getf dX1_copy_46 flX1_15 (g_c hx.1) rfl ?_
      refine x_iload_n dX1_copy_49 rfl ?_
      refine x_aload_n dX1_copy_50 rfl ?_
      refine x_getf dX1_copy_51 flX1_15 (g_c hy.1) rfl ?_
      refine x_iload_n dX1_copy_54 rfl ?_
      refine x_cSi2 dX1_copy_55 lkX1_34 mdX7_at stX7_at (by decide) (c_atN (g_c hy.2.2.1) (by decide) (by omega)) (Nat.le_of_ble_eq_true rfl) ⟨Nat.le_refl _, Nat.le_refl _⟩ ?_
      refine x_cSV3 dX1_copy_58 lkX1_38 mdX7_put stX7_put (by decide) (c_putN (g_c hx.2.2.1) (by decide) (by omega)) (Nat.le_of_ble_eq_true rfl) ⟨Nat.le_refl _, Nat.le_refl _⟩ ?_
      rintro h' rfl
      refine x_eqH (g_up hx.2.2.1 _) ?_
      generalize hV2 : va_up V' (x + 2) (va_up (V' (x + 2)) i (V' (y + 2) i)) = V2
      have f1 : ∀ b, b ≠ x + 2 → V2 b = V' b := fun b hb => by rw [← hV2]; unfold va_up; rw [if_neg hb]
      have f2 : V2 (x + 2) = va_up (V' (x + 2)) i (V' (y + 2) i) := by rw [← hV2]; simp [va_up]
      refine x_aload_n dX1_copy_61 rfl ?_
      refine x_getf dX1_copy_62 flX1_18 (g_c hx.1) rfl ?_
      refine x_iload_n dX1_copy_65 rfl ?_
      refine x_aload_n dX1_copy_66 rfl ?_
      refine x_getf dX1_copy_67 flX1_18 (g_c hy.1) rfl ?_
      refine x_iload_n dX1_copy_70 rfl ?_
      refine x_cSi2 dX1_copy_71 lkX1_34 mdX7_at stX7_at (by decide) (c_atN (g_c hy.2.2.2) (by decide) (by omega)) (Nat.le_of_ble_eq_true rfl) ⟨Nat.le_refl _, Nat.le_refl _⟩ ?_
      refine x_cSV3 dX1_copy_74 lkX1_38 mdX7_put stX7_put (by decide) (c_putN (g_c hx.2.2.2) (by decide) (by omega)) (Nat.le_of_ble_eq_true rfl) ⟨Nat.le_refl _, Nat.le_refl _⟩ ?_
      rintro h' rfl
      refine x_eqH (g_up hx.2.2.2 _) ?_
      generalize hV3 : va_up V2 (x + 3) (va_up (V2 (x + 3)) i (V2 (y + 3) i)) = V3
      have e1 : ∀ b, b ≠ x + 3 → V3 b = V2 b := fun b hb => by rw [← hV3]; unfold va_up; rw [if_neg hb]
      have e2 : V3 (x + 3) = va_up (V2 (x + 3)) i (V2 (y + 3) i) := by rw [← hV3]; simp [va_up]
      refine n_ii2 (w := 1) dX1_copy_77 (by decide) (by decide) rfl ?_
      refine x_goto (tgt := 39) dX1_copy_80 (by decide) ?_
      refine ih (by omega) V3 ?_ ?_ ?_ ?_
      · intro b hb; rw [e1 b (by omega), f1 b (by omega), g1 b hb]
      · rw [e1 x (by omega), f1 x (by omega), g2]
      · intro j hj; rw [e1 _ (by omega), f1 _ (by omega), g3 j hj]
      · intro j hj
        rw [e1 (x + 2) (by omega), f2, e2, f1 (x + 3) (by omega), f1 (y + 3) (by omega), ey2, ey3]
        unfold va_up
        by_cases q : j = i
        · subst q; simp
        · rw [if_neg q, if_neg q]; exact g4 j (by omega)
  have K10 : ∀ i, i ≤ 4 → ∀ V' : Nat → Nat → Nat, (∀ b, (b < x ∨ x + 3 < b) → V' b = V b) → V' x 0 = V y 0 → (∀ j, j < i → V' (x + 1) j = V (y + 1) j) → zEx G MX1_copy 1 0 0 10 [some (.ref x), some (.ref y), some (.int (nI i))] [] (gH h0 L V') n (0, 0) (fun r h' n' => r = none ∧ (∃ V', h' = gH h0 L V' ∧ (∀ b, (b < x ∨ x + 3 < b) → V' b = V b) ∧ scEq V' x V y) ∧ n' = n) := by
    refine z_up 4 ?_
    intro i hi ih V' g1 g2 g3
    have ey1 : V' (y + 1) = V (y + 1) := g1 _ (by omega)
    refine x_iload_n dX1_copy_10 rfl ?_
    refine x_iconst (v := nI 4) dX1_copy_11 (by decide) ?_
    refine n_icmp_ge (tgt := 37) dX1_copy_12 (by decide) (by omega) (by omega) (fun c1 => ?_) (fun c1 => ?_)
    · have hie : i = 4 := by omega
      subst hie
      refine x_iconst (v := nI 0) dX1_copy_37 (by decide) ?_
      refine x_is2 dX1_copy_38 (by decide) rfl ?_
      exact K39 0 (by omega) V' g1 g2 g3 (fun j hj => absurd hj (by omega))
    · refine x_aload_n dX1_copy_15 rfl ?_
      refine x_getf dX1_copy_16 flX1_9 (g_c hx.1) rfl ?_
      refine x_iload_n dX1_copy_19 rfl ?_
      refine x_aload_n dX1_copy_20 rfl ?_
      refine x_getf dX1_copy_21 flX1_9 (g_c hy.1) rfl ?_
      refine x_iload_n dX1_copy_24 rfl ?_
      refine x_cSi2 dX1_copy_25 lkX1_34 mdX7_at stX7_at (by decide) (c_atN (g_c hy.2.1) (by decide) (by omega)) (Nat.le_of_ble_eq_true rfl) ⟨Nat.le_refl _, Nat.le_refl _⟩ ?_
      refine x_cSV3 dX1_copy_28 lkX1_38 mdX7_put stX7_put (by decide) (c_putN (g_c hx.2.1) (by decide) (by omega)) (Nat.le_of_ble_eq_true rfl) ⟨Nat.le_refl _, Nat.le_refl _⟩ ?_
      rintro h' rfl
      refine x_eqH (g_up hx.2.1 _) ?_
      generalize hV2 : va_up V' (x + 1) (va_up (V' (x + 1)) i (V' (y + 1) i)) = V2
      have f1 : ∀ b, b ≠ x + 1 → V2 b = V' b := fun b hb => by rw [← hV2]; unfold va_up; rw [if_neg hb]
      have f2 : V2 (x + 1) = va_up (V' (x + 1)) i (V' (y + 1) i) := by rw [← hV2]; simp [va_up]
      refine n_ii2 (w := 1) dX1_copy_31 (by decide) (by decide) rfl ?_
      refine x_goto (tgt := 10) dX1_copy_34 (by decide) ?_
      refine ih (by omega) V2 ?_ ?_ ?_
      · intro b hb; rw [f1 b (by omega), g1 b hb]
      · rw [f1 x (by omega), g2]
      · intro j hj
        rw [f2, ey1]
        unfold va_up
        by_cases q : j = i
        · subst q; simp
        · rw [if_neg q]; exact g3 j (by omega)
  refine K10 0 (by omega) _ ?_ ?_ (fun j hj => absurd hj (by omega))
  · intro b hb; unfold va_up; rw [if_neg (by omega)]
  · simp [va_up]
theorem c_scAdd {tr rp : Nat} (hx : zSc L x) (h4 : V x 4 < 12) : zPv G MX1_add 1 [.ref x, .int (nI tr), .int (nI rp)] (gH h0 L V) n (fun h' => ∃ V', h' = gH h0 L V' ∧ (∀ b, b ≠ x → b ≠ x + 2 → b ≠ x + 3 → V' b = V b) ∧ V' x = va_up (V x) 4 (V x 4 + 1) ∧ V' (x + 2) = va_up (V (x + 2)) (V x 4) tr ∧ V' (x + 3) = va_up (V (x + 3)) (V x 4) rp) := by
  refine zCt.of rfl (Nat.le_of_ble_eq_true rfl) rfl ?_
  refine x_aload_n dX1_add_0 rfl ?_
  refine x_cVi0 dX1_add_1 lkX1_42 mdX1_isFull isX1_isFull rfl rfl (g_c (And.left hx)) (by decide) (c_scFull hx (by omega)) (Nat.le_of_ble_eq_true rfl) ⟨Nat.le_refl _, Nat.le_refl _⟩ ?_
  refine b_if_ne (tgt := 41) dX1_add_4 (by decide) (fun c1 => ?_) (fun c1 => ?_)
  · have := of_decide_eq_true c1; omega
  · refine x_aload_n dX1_add_7 rfl ?_
    refine x_getf dX1_add_8 flX1_15 (g_c (And.left hx)) rfl ?_
    refine x_aload_n dX1_add_11 rfl ?_
    refine x_getf dX1_add_12 flX1_31 (g_c (And.left hx)) rfl ?_
    refine x_iload_n dX1_add_15 rfl ?_
    refine x_cSV3 dX1_add_16 lkX1_38 mdX7_put stX7_put (by decide) (c_putN (g_c hx.2.2.1) (by decide) (by omega)) (Nat.le_of_ble_eq_true rfl) ⟨Nat.le_refl _, Nat.le_refl _⟩ ?_
    rintro h' rfl
    refine x_eqH (g_up hx.2.2.1 _) ?_
    generalize hV2 : va_up V (x + 2) (va_up (V (x + 2)) (V x 4) tr) = V2
    have f1 : ∀ b, b ≠ x + 2 → V2 b = V b := fun b hb => by rw [← hV2]; unfold va_up; rw [if_neg hb]
    have f2 : V2 (x + 2) = va_up (V (x + 2)) (V x 4) tr := by rw [← hV2]; simp [va_up]
    refine x_aload_n dX1_add_19 rfl ?_
    refine x_getf dX1_add_20 flX1_18 (g_c (And.left hx)) rfl ?_
    refine x_aload_n dX1_add_23 rfl ?_
    refine x_getf dX1_add_24 flX1_31 (g_c (And.left hx)) rfl ?_
    refine x_iload_n dX1_add_27 rfl ?_
    refine x_cSV3 dX1_add_28 lkX1_38 mdX7_put stX7_put (by decide) (c_putN (g_c hx.2.2.2) (by decide) (by rw [f1 x (by omega)]; omega)) (Nat.le_of_ble_eq_true rfl) ⟨Nat.le_refl _, Nat.le_refl _⟩ ?_
    rintro h' rfl
    refine x_eqH (g_up hx.2.2.2 _) ?_
    generalize hV3 : va_up V2 (x + 3) (va_up (V2 (x + 3)) (V2 x 4) rp) = V3
    have e1 : ∀ b, b ≠ x + 3 → V3 b = V2 b := fun b hb => by rw [← hV3]; unfold va_up; rw [if_neg hb]
    have e2 : V3 (x + 3) = va_up (V2 (x + 3)) (V2 x 4) rp := by rw [← hV3]; simp [va_up]
    refine x_aload_n dX1_add_31 rfl ?_
    refine x_dup dX1_add_32 rfl ?_
    refine x_getf dX1_add_33 flX1_31 (g_c (And.left hx)) rfl ?_
    refine x_iconst (v := nI 1) dX1_add_36 (by decide) ?_
    refine n_iadd dX1_add_37 ?_
    refine g_put dX1_add_38 flX1_31 ftX1_4 hx.1 (Nat.le_of_ble_eq_true rfl) rfl ?_
    refine x_vret dX1_add_41 rfl ⟨Nat.le_refl _, Nat.le_refl _⟩ ?_
    refine ⟨rfl, ⟨_, rfl, ?_, ?_, ?_, ?_⟩, rfl⟩
    · intro b h1 h2 h3; unfold va_up; rw [if_neg h1, e1 b h3, f1 b h2]
    · rw [up_eq, e1 x (by omega), f1 x (by omega)]
    · rw [up_ne _ _ (by omega), e1 _ (by omega), f2]
    · rw [up_ne _ _ (by omega), e2, f1 x (by omega), f1 _ (by omega)]
theorem c_ssClear (hz : L z = some (sSs r)) : zPv G MX2_clear 0 [.ref z] (gH h0 L V) n (fun h' => h' = gH h0 L (va_up V z (va_up (V z) 1 0))) := by
  refine zCt.of rfl (Nat.le_of_ble_eq_true rfl) rfl ?_
  refine x_aload_n dX2_clear_0 rfl ?_
  refine x_iconst (v := nI 0) dX2_clear_1 (by decide) ?_
  refine g_put dX2_clear_2 flX2_22 ftX2_1 hz (Nat.le_of_ble_eq_true rfl) rfl ?_
  refine x_vret dX2_clear_5 rfl ⟨Nat.le_refl _, Nat.le_refl _⟩ ?_
  exact ⟨rfl, rfl, rfl⟩
theorem c_ssFull (hz : L z = some (sSs r)) (hr : L r = some (sR len)) (hm : len < 2 ^ 31) (hu : V z 1 < 2 ^ 31) : zI G MX2_isFull 0 [.ref z] (gH h0 L V) n (nI (decide (len ≤ V z 1)).toNat) := by
  refine zCt.of rfl (Nat.le_of_ble_eq_true rfl) rfl ?_
  refine x_aload_n dX2_isFull_0 rfl ?_
  refine x_getf dX2_isFull_1 flX2_22 (g_c hz) rfl ?_
  refine x_aload_n dX2_isFull_4 rfl ?_
  refine x_getf dX2_isFull_5 flX2_15 (g_c hz) rfl ?_
  refine x_alen dX2_isFull_8 (g_c hr) rfl ?_
  refine n_icmp_lt (tgt := 16) dX2_isFull_9 (by decide) (by omega) (by omega) (fun c1 => ?_) (fun c1 => ?_)
  · refine x_iconst (v := nI 0) dX2_isFull_16 (by decide) ?_
    refine x_iret dX2_isFull_17 rfl (nar_b false) ⟨Nat.le_refl _, Nat.le_refl _⟩ ?_
    exact ⟨by rw [decide_eq_false (by omega)]; rfl, rfl, rfl⟩
  · refine x_iconst (v := nI 1) dX2_isFull_12 (by decide) ?_
    refine x_goto (tgt := 17) dX2_isFull_13 (by decide) ?_
    refine x_iret dX2_isFull_17 rfl (nar_b true) ⟨Nat.le_refl _, Nat.le_refl _⟩ ?_
    exact ⟨by rw [decide_eq_true (by omega)]; rfl, rfl, rfl⟩
theorem zr_ne (hz : L z = some (sSs r)) (hr : L r = some (sR len)) : z ≠ r := by
  rintro rfl
  rw [hz] at hr
  have := congrFun (Option.some.inj hr) (fun _ => 0)
  cases this
theorem c_drop (hz : L z = some (sSs r)) (hr : L r = some (sR len)) (hm : len < 2 ^ 31) (h1 : 1 ≤ V z 1) (hu : V z 1 ≤ len) (hsc : ∀ j, j < len → zSc L (V r j)) : zPv G MX2_dropLowest 0 [.ref z] (gH h0 L V) n (fun h' => ∃ V', h' = gH h0 L V' ∧ (∀ b, b ≠ z → b ≠ r → V' b = V b) ∧ V' z = va_up (V z) 1 (V z 1 - 1) ∧ ∀ j, j < len → V' r j = if j + 1 < len then V r (j + 1) else V r 0) := by
  refine zCt.of rfl (Nat.le_of_ble_eq_true rfl) rfl ?_
  have hne := zr_ne hz hr
  refine x_aload_n dX2_dropLowest_0 rfl ?_
  refine x_getf dX2_dropLowest_1 flX2_15 (g_c hz) rfl ?_
  refine x_alen dX2_dropLowest_4 (g_c hr) rfl ?_
  refine n_if_eq (tgt := 15) dX2_dropLowest_5 (by decide) (by omega) (fun c1 => ?_) (fun c1 => ?_)
  · omega
  · refine x_aload_n dX2_dropLowest_8 rfl ?_
    refine x_getf dX2_dropLowest_9 flX2_22 (g_c hz) rfl ?_
    refine n_if_ne (tgt := 16) dX2_dropLowest_12 (by decide) (by omega) (fun c2 => ?_) (fun c2 => ?_)
    · refine x_aload_n dX2_dropLowest_16 rfl ?_
      refine x_getf dX2_dropLowest_17 flX2_15 (g_c hz) rfl ?_
      refine x_iconst (v := nI 0) dX2_dropLowest_20 (by decide) ?_
      refine g_aald dX2_dropLowest_21 (g_c hr) (by omega) (by omega) ?_
      refine x_as1 dX2_dropLowest_22 (by decide) rfl ?_
      refine x_iconst (v := nI 1) dX2_dropLowest_23 (by decide) ?_
      refine x_is2 dX2_dropLowest_24 (by decide) rfl ?_
      have key : ∀ i, i ≤ len → 1 ≤ i → ∀ V' : Nat → Nat → Nat, (∀ b, b ≠ r → V' b = V b) → (∀ j, j < len → V' r j = if j + 1 < i then V r (j + 1) else V r j) → zEx G MX2_dropLowest 0 0 0 25 [some (.ref z), some (.ref (V r 0)), some (.int (nI i))] [] (gH h0 L V') n (0, 0) (fun r1 h' n' => r1 = none ∧ (∃ V', h' = gH h0 L V' ∧ (∀ b, b ≠ z → b ≠ r → V' b = V b) ∧ V' z = va_up (V z) 1 (V z 1 - 1) ∧ ∀ j, j < len → V' r j = if j + 1 < len then V r (j + 1) else V r 0) ∧ n' = n) := by
        refine z_up len ?_
        intro i hi ih hi1 V' g1 g2
        have ez : V' z = V z := g1 z hne
        refine x_iload_n dX2_dropLowest_25 rfl ?_
        refine x_aload_n dX2_dropLowest_26 rfl ?_
        refine x_getf dX2_dropLowest_27 flX2_15 (g_c hz) rfl ?_
        refine x_alen dX2_dropLowest_30 (g_c hr) rfl ?_
        refine n_icmp_ge (tgt := 54) dX2_dropLowest_31 (by decide) (by omega) (by omega) (fun c3 => ?_) (fun c3 => ?_)
        · have hie : i = len := by omega
          subst hie
          refine x_aload_n dX2_dropLowest_54 rfl ?_
          refine x_getf dX2_dropLowest_55 flX2_15 (g_c hz) rfl ?_
          refine x_aload_n dX2_dropLowest_58 rfl ?_
          refine x_getf dX2_dropLowest_59 flX2_15 (g_c hz) rfl ?_
          refine x_alen dX2_dropLowest_62 (g_c hr) rfl ?_
          refine x_iconst (v := nI 1) dX2_dropLowest_63 (by decide) ?_
          refine n_isub dX2_dropLowest_64 (by omega) ?_
          refine x_aload_n dX2_dropLowest_65 rfl ?_
          refine g_aast (j := i - 1) dX2_dropLowest_66 (g_c hr) (g_c (hsc 0 (by omega)).1) (by omega) (by omega) ?_
          refine x_eqH (g_up hr _) ?_
          generalize hV2 : va_up V' r (va_up (V' r) (i - 1) (V r 0)) = V2
          have f1 : ∀ b, b ≠ r → V2 b = V' b := fun b hb => by rw [← hV2]; unfold va_up; rw [if_neg hb]
          have f2 : V2 r = va_up (V' r) (i - 1) (V r 0) := by rw [← hV2]; simp [va_up]
          have ez2 : V2 z = V z := (f1 z hne).trans ez
          refine x_aload_n dX2_dropLowest_67 rfl ?_
          refine x_dup dX2_dropLowest_68 rfl ?_
          refine x_getf dX2_dropLowest_69 flX2_22 (g_c hz) rfl ?_
          rw [ez2]
          refine x_iconst (v := nI 1) dX2_dropLowest_72 (by decide) ?_
          refine n_isub dX2_dropLowest_73 (by omega) ?_
          refine g_put dX2_dropLowest_74 flX2_22 ftX2_1 hz (Nat.le_of_ble_eq_true rfl) rfl ?_
          refine x_vret dX2_dropLowest_77 rfl ⟨Nat.le_refl _, Nat.le_refl _⟩ ?_
          refine ⟨rfl, ⟨_, rfl, ?_, ?_, ?_⟩, rfl⟩
          · intro b hb1 hb2; rw [up_ne _ _ hb1, f1 b hb2, g1 b hb2]
          · rw [up_eq, ez2]
          · intro j hj
            rw [up_ne _ _ (Ne.symm hne), f2]
            unfold va_up
            by_cases q : j = i - 1
            · rw [if_pos q, if_neg (by omega)]
            · rw [if_neg q, g2 j hj, if_pos (by omega), if_pos (by omega)]
        · have e9 : V' r i = V r i := by rw [g2 i (by omega), if_neg (by omega)]
          refine x_aload_n dX2_dropLowest_34 rfl ?_
          refine x_getf dX2_dropLowest_35 flX2_15 (g_c hz) rfl ?_
          refine x_iload_n dX2_dropLowest_38 rfl ?_
          refine x_iconst (v := nI 1) dX2_dropLowest_39 (by decide) ?_
          refine n_isub dX2_dropLowest_40 (by omega) ?_
          refine x_aload_n dX2_dropLowest_41 rfl ?_
          refine x_getf dX2_dropLowest_42 flX2_15 (g_c hz) rfl ?_
          refine x_iload_n dX2_dropLowest_45 rfl ?_
          refine g_aald dX2_dropLowest_46 (g_c hr) (by omega) (by omega) ?_
          rw [e9]
          refine g_aast dX2_dropLowest_47 (g_c hr) (g_c (hsc i (by omega)).1) (by omega) (by omega) ?_
          refine x_eqH (g_up hr _) ?_
          refine n_ii2 (w := 1) dX2_dropLowest_48 (by decide) (by decide) rfl ?_
          refine x_goto (tgt := 25) dX2_dropLowest_51 (by decide) ?_
          refine ih (by omega) (by omega) _ ?_ ?_
          · intro b hb; rw [up_ne _ _ hb, g1 b hb]
          · intro j hj
            rw [up_eq]
            unfold va_up
            by_cases q : j = i - 1
            · rw [if_pos q, if_pos (by omega), q, show i - 1 + 1 = i by omega]
            · rw [if_neg q, g2 j hj]
              by_cases q2 : j + 1 < i
              · rw [if_pos q2, if_pos (by omega)]
              · rw [if_neg q2, if_neg (by omega)]
      exact key 1 (by omega) (Nat.le_refl _) V (fun _ _ => rfl) (fun j hj => by rw [if_neg (by omega)])
    · omega
/-- the row behind a push at u -/
def rotR (len u : Nat) (f : Nat → Nat) : Nat → Nat := fun j => if u < len then f j else if j + 1 < len then f (j + 1) else f 0
def rotU (len u : Nat) : Nat := if u < len then u else len - 1
theorem c_push (hz : L z = some (sSs r)) (hr : L r = some (sR len)) (hm : len < 2 ^ 31) (hl1 : 1 ≤ len) (hu : V z 1 ≤ len) (hsc : ∀ j, j < len → zSc L (V r j)) (hy : zSc L y) (hdj : ∀ j, j < len → V r j + 3 < y ∨ y + 3 < V r j) : zPv G MX2_push 2 [.ref z, .ref y] (gH h0 L V) n (fun h' => ∃ V', h' = gH h0 L V' ∧ (∀ b, b ≠ z → b ≠ r → (b < rotR len (V z 1) (V r) (rotU len (V z 1)) ∨ rotR len (V z 1) (V r) (rotU len (V z 1)) + 3 < b) → V' b = V b) ∧ V' z 1 = rotU len (V z 1) + 1 ∧ (∀ j, j < len → V' r j = rotR len (V z 1) (V r) j) ∧ scEq V' (rotR len (V z 1) (V r) (rotU len (V z 1))) V y) := by
  refine zCt.of rfl (Nat.le_of_ble_eq_true rfl) rfl ?_
  have hne := zr_ne hz hr
  have nzy : ∀ w, zSc L w → ∀ q, q ≤ 3 → z ≠ w + q ∧ r ≠ w + q := by
    intro w hw q hq
    have hh : ∀ w', L z ≠ some (sS w') := fun w' e => by
      rw [hz] at e
      have := congrFun (Option.some.inj e) (fun _ => 0)
      cases this
    have hh2 : ∀ l, L z ≠ some (sA l) := fun w' e => by
      rw [hz] at e
      have := congrFun (Option.some.inj e) (fun _ => 0)
      cases this
    have hh3 : ∀ w', L r ≠ some (sS w') := fun w' e => by
      rw [hr] at e
      have := congrFun (Option.some.inj e) (fun _ => 0)
      cases this
    have hh4 : ∀ l, L r ≠ some (sA l) := fun w' e => by
      rw [hr] at e
      have := congrFun (Option.some.inj e) (fun _ => 0)
      cases this
    rcases (show q = 0 ∨ q = 1 ∨ q = 2 ∨ q = 3 by omega) with rfl | rfl | rfl | rfl
    · exact ⟨fun e => hh w (e ▸ hw.1), fun e => hh3 w (e ▸ hw.1)⟩
    · exact ⟨fun e => hh2 _ (e ▸ hw.2.1), fun e => hh4 _ (e ▸ hw.2.1)⟩
    · exact ⟨fun e => hh2 _ (e ▸ hw.2.2.1), fun e => hh4 _ (e ▸ hw.2.2.1)⟩
    · exact ⟨fun e => hh2 _ (e ▸ hw.2.2.2), fun e => hh4 _ (e ▸ hw.2.2.2)⟩
  have K11 : ∀ V1 : Nat → Nat → Nat, (∀ b, b ≠ z → b ≠ r → V1 b = V b) → V1 z 1 = rotU len (V z 1) → (∀ j, j < len → V1 r j = rotR len (V z 1) (V r) j) → zEx G MX2_push 2 0 0 11 [some (.ref z), some (.ref y)] [] (gH h0 L V1) n (0, 0) (fun r1 h' n' => r1 = none ∧ (∃ V', h' = gH h0 L V' ∧ (∀ b, b ≠ z → b ≠ r → (b < rotR len (V z 1) (V r) (rotU len (V z 1)) ∨ rotR len (V z 1) (V r) (rotU len (V z 1)) + 3 < b) → V' b = V b) ∧ V' z 1 = rotU len (V z 1) + 1 ∧ (∀ j, j < len → V' r j = rotR len (V z 1) (V r) j) ∧ scEq V' (rotR len (V z 1) (V r) (rotU len (V z 1))) V y) ∧ n' = n) := by
    intro V1 g1 g2 g3
    have hul : rotU len (V z 1) < len := by unfold rotU; split <;> omega
    have hmem : ∃ j, j < len ∧ rotR len (V z 1) (V r) (rotU len (V z 1)) = V r j := by
      unfold rotR
      split
      · exact ⟨_, hul, rfl⟩
      · split
        · exact ⟨_, by assumption, rfl⟩
        · exact ⟨0, by omega, rfl⟩
    have e3 := g3 _ hul
    generalize hw : rotR len (V z 1) (V r) (rotU len (V z 1)) = w at hmem e3
    generalize rotU len (V z 1) = u at hul g2 e3
    obtain ⟨j0, hj0, hj1⟩ := hmem
    have hsw : zSc L w := by rw [hj1]; exact hsc j0 hj0
    have hdw : w + 3 < y ∨ y + 3 < w := by rw [hj1]; exact hdj j0 hj0
    have nw := nzy w hsw
    have ny := nzy y hy
    have eq0 : ∀ q, q ≤ 3 → V1 (y + q) = V (y + q) := fun q hq => g1 _ (Ne.symm (ny q hq).1) (Ne.symm (ny q hq).2)
    refine x_aload_n dX2_push_11 rfl ?_
    refine x_getf dX2_push_12 flX2_22 (g_c hz) rfl ?_
    rw [g2]
    refine x_aload_n dX2_push_15 rfl ?_
    refine x_getf dX2_push_16 flX2_15 (g_c hz) rfl ?_
    refine x_alen dX2_push_19 (g_c hr) rfl ?_
    refine n_icmp_ge (tgt := 58) dX2_push_20 (by decide) (by omega) (by omega) (fun c1 => ?_) (fun c1 => ?_)
    · omega
    · refine x_aload_n dX2_push_23 rfl ?_
      refine x_getf dX2_push_24 flX2_15 (g_c hz) rfl ?_
      refine x_aload_n dX2_push_27 rfl ?_
      refine x_getf dX2_push_28 flX2_22 (g_c hz) rfl ?_
      rw [g2]
      refine g_aald dX2_push_31 (g_c hr) hul hm ?_
      refine x_ifnull dX2_push_32 ?_
      refine x_aload_n dX2_push_35 rfl ?_
      refine x_getf dX2_push_36 flX2_15 (g_c hz) rfl ?_
      refine x_aload_n dX2_push_39 rfl ?_
      refine x_getf dX2_push_40 flX2_22 (g_c hz) rfl ?_
      rw [g2]
      refine g_aald dX2_push_43 (g_c hr) hul hm ?_
      rw [e3]
      refine x_aload_n dX2_push_44 rfl ?_
      refine x_cVV1 dX2_push_45 lkX2_33 mdX1_copy isX1_copy rfl rfl (g_c hsw.1) (by decide) (c_scCopy hsw hy hdw) (Nat.le_of_ble_eq_true rfl) ⟨Nat.le_refl _, Nat.le_refl _⟩ ?_
      rintro h' ⟨V2, rfl, f1, f2⟩
      have n0 := (nw 0 (by omega)).1
      have n1 := (nw 1 (by omega)).1
      have n2 := (nw 2 (by omega)).1
      have n3 := (nw 3 (by omega)).1
      have m0 := (nw 0 (by omega)).2
      have m1 := (nw 1 (by omega)).2
      have m2 := (nw 2 (by omega)).2
      have m3 := (nw 3 (by omega)).2
      have ez : V2 z = V1 z := f1 z (by omega)
      have er : V2 r = V1 r := f1 r (by omega)
      refine x_aload_n dX2_push_48 rfl ?_
      refine x_dup dX2_push_49 rfl ?_
      refine x_getf dX2_push_50 flX2_22 (g_c hz) rfl ?_
      rw [ez, g2]
      refine x_iconst (v := nI 1) dX2_push_53 (by decide) ?_
      refine n_iadd dX2_push_54 ?_
      refine g_put dX2_push_55 flX2_22 ftX2_1 hz (Nat.le_of_ble_eq_true rfl) rfl ?_
      refine x_vret dX2_push_58 rfl ⟨Nat.le_refl _, Nat.le_refl _⟩ ?_
      refine ⟨rfl, ⟨_, rfl, ?_, ?_, ?_, ?_⟩, rfl⟩
      · intro b h1 h2 h3; rw [up_ne _ _ h1, f1 b h3, g1 b h1 h2]
      · simp [va_up]
      · intro j hj; rw [up_ne _ _ (Ne.symm hne), er, g3 j hj]
      · obtain ⟨s1, s2, s3, s4⟩ := f2
        refine ⟨?_, ?_, ?_, ?_⟩
        · rw [up_ne _ _ (by omega), s1]; exact congrFun (eq0 0 (by omega)) 0
        · rw [up_ne _ _ (by omega), s2]; exact congrFun (eq0 0 (by omega)) 4
        · intro j hj; rw [up_ne _ _ (by omega), s3 j hj, eq0 1 (by omega)]
        · intro j hj; rw [up_ne _ _ (by omega), up_ne _ _ (by omega), (s4 j hj).1, (s4 j hj).2, eq0 2 (by omega), eq0 3 (by omega)]; exact ⟨rfl, rfl⟩
  refine x_aload_n dX2_push_0 rfl ?_
  refine x_cVi0 dX2_push_1 lkX2_26 mdX2_isFull isX2_isFull rfl rfl (g_c hz) (by decide) (c_ssFull hz hr hm (by omega)) (Nat.le_of_ble_eq_true rfl) ⟨Nat.le_refl _, Nat.le_refl _⟩ ?_
  refine b_if_eq (tgt := 11) dX2_push_4 (by decide) (fun c0 => ?_) (fun c0 => ?_)
  · have c0 := of_decide_eq_false c0
    exact K11 V (fun _ _ _ => rfl) (by unfold rotU; rw [if_pos (by omega)]) (fun j hj => by unfold rotR; rw [if_pos (by omega)])
  · have c0 := of_decide_eq_true c0
    refine x_aload_n dX2_push_7 rfl ?_
    refine x_cVV0 dX2_push_8 lkX2_30 mdX2_dropLowest isX2_dropLowest rfl rfl (g_c hz) (by decide) (c_drop hz hr hm (by omega) hu hsc) (Nat.le_of_ble_eq_true rfl) ⟨Nat.le_refl _, Nat.le_refl _⟩ ?_
    rintro h' ⟨V1, rfl, q1, q2, q3⟩
    refine K11 V1 q1 ?_ ?_
    · rw [q2, up_eq]; unfold rotU; rw [if_neg (by omega)]; omega
    · intro j hj; rw [q3 j hj]; unfold rotR; rw [if_neg (show ¬ V z 1 < len by omega)]
theorem c_pop (hz : L z = some (sSs r)) (hr : L r = some (sR len)) (hm : len < 2 ^ 31) (hu : V z 1 ≤ len) (hsc : ∀ j, j < len → zSc L (V r j)) (hy : zSc L y) (hdj : ∀ j, j < len → y + 3 < V r j ∨ V r j + 3 < y) (hzy : z < y ∨ y + 3 < z) (hry : r < y ∨ y + 3 < r) : zPi G MX2_popInto 2 [.ref z, .ref y] (gH h0 L V) n (fun v h' => (V z 1 = 0 ∧ v = nI 0 ∧ h' = gH h0 L V) ∨ (0 < V z 1 ∧ v = nI 1 ∧ ∃ V', h' = gH h0 L V' ∧ (∀ b, b ≠ z → (b < y ∨ y + 3 < b) → V' b = V b) ∧ V' z = va_up (V z) 1 (V z 1 - 1) ∧ scEq V' y V (V r (V z 1 - 1)))) := by
  refine zCt.of rfl (Nat.le_of_ble_eq_true rfl) rfl ?_
  have hne := zr_ne hz hr
  refine x_aload_n dX2_popInto_0 rfl ?_
  refine x_getf dX2_popInto_1 flX2_22 (g_c hz) rfl ?_
  by_cases c0 : V z 1 = 0
  · refine x_if_le (tgt := 33) dX2_popInto_4 (by decide) (fun c1 => ?_) (fun c1 => absurd (by rw [c0]; decide) c1)
    refine x_iconst (v := nI 0) dX2_popInto_33 (by decide) ?_
    refine x_iret dX2_popInto_34 rfl (nar_b false) ⟨Nat.le_refl _, Nat.le_refl _⟩ ?_
    exact ⟨_, rfl, Or.inl ⟨c0, rfl, rfl⟩, rfl⟩
  · refine x_if_le (tgt := 33) dX2_popInto_4 (by decide) (fun c1 => absurd c1 (nI_nle (by omega) (by omega))) (fun c1 => ?_)
    refine x_aload_n dX2_popInto_7 rfl ?_
    refine x_getf dX2_popInto_8 flX2_22 (g_c hz) rfl ?_
    refine x_aload_n dX2_popInto_11 rfl ?_
    refine x_getf dX2_popInto_12 flX2_15 (g_c hz) rfl ?_
    refine x_alen dX2_popInto_15 (g_c hr) rfl ?_
    refine n_icmp_gt (tgt := 33) dX2_popInto_16 (by decide) (by omega) (by omega) (fun c2 => ?_) (fun c2 => ?_)
    · omega
    · have hsw := hsc (V z 1 - 1) (by omega)
      have hdw := hdj (V z 1 - 1) (by omega)
      refine x_aload_n dX2_popInto_19 rfl ?_
      refine x_getf dX2_popInto_20 flX2_15 (g_c hz) rfl ?_
      refine x_aload_n dX2_popInto_23 rfl ?_
      refine x_getf dX2_popInto_24 flX2_22 (g_c hz) rfl ?_
      refine x_iconst (v := nI 1) dX2_popInto_27 (by decide) ?_
      refine n_isub dX2_popInto_28 (by omega) ?_
      refine g_aald dX2_popInto_29 (g_c hr) (by omega) (by omega) ?_
      refine x_ifnonnull (tgt := 35) dX2_popInto_30 (by decide) ?_
      refine x_aload_n dX2_popInto_35 rfl ?_
      refine x_dup dX2_popInto_36 rfl ?_
      refine x_getf dX2_popInto_37 flX2_22 (g_c hz) rfl ?_
      refine x_iconst (v := nI 1) dX2_popInto_40 (by decide) ?_
      refine n_isub dX2_popInto_41 (by omega) ?_
      refine g_put dX2_popInto_42 flX2_22 ftX2_1 hz (Nat.le_of_ble_eq_true rfl) rfl ?_
      refine x_aload_n dX2_popInto_45 rfl ?_
      refine x_aload_n dX2_popInto_46 rfl ?_
      refine x_getf dX2_popInto_47 flX2_15 (g_c hz) rfl ?_
      refine x_aload_n dX2_popInto_50 rfl ?_
      refine x_getf dX2_popInto_51 flX2_22 (g_c hz) rfl ?_
      rw [show (va_up V z (va_up (V z) 1 (V z 1 - 1))) z 1 = V z 1 - 1 by simp [va_up]]
      refine g_aald dX2_popInto_54 (g_c hr) (by omega) (by omega) ?_
      rw [show (va_up V z (va_up (V z) 1 (V z 1 - 1))) r = V r from up_ne _ _ (Ne.symm hne)]
      generalize hV1 : va_up V z (va_up (V z) 1 (V z 1 - 1)) = V1
      have f0 : ∀ b, b ≠ z → V1 b = V b := fun b hb => by rw [← hV1]; exact up_ne _ _ hb
      have fz : V1 z = va_up (V z) 1 (V z 1 - 1) := by rw [← hV1]; exact up_eq _ _ _
      refine x_cVV1 dX2_popInto_55 lkX2_33 mdX1_copy isX1_copy rfl rfl (g_c hy.1) (by decide) (c_scCopy hy hsw hdw) (Nat.le_of_ble_eq_true rfl) ⟨Nat.le_refl _, Nat.le_refl _⟩ ?_
      rintro h' ⟨V2, rfl, f1, f2⟩
      refine x_iconst (v := nI 1) dX2_popInto_58 (by decide) ?_
      refine x_iret dX2_popInto_59 rfl (nar_b true) ⟨Nat.le_refl _, Nat.le_refl _⟩ ?_
      have hzw : ∀ q, q ≤ 3 → z ≠ V r (V z 1 - 1) + q := by
        intro q hq e
        have hh : ∀ w', L z ≠ some (sS w') := fun w' e => by
          rw [hz] at e
          have := congrFun (Option.some.inj e) (fun _ => 0)
          cases this
        have hh2 : ∀ l, L z ≠ some (sA l) := fun w' e => by
          rw [hz] at e
          have := congrFun (Option.some.inj e) (fun _ => 0)
          cases this
        rcases (show q = 0 ∨ q = 1 ∨ q = 2 ∨ q = 3 by omega) with rfl | rfl | rfl | rfl
        · exact hh _ ((congrArg L e).trans hsw.1)
        · exact hh2 _ ((congrArg L e).trans hsw.2.1)
        · exact hh2 _ ((congrArg L e).trans hsw.2.2.1)
        · exact hh2 _ ((congrArg L e).trans hsw.2.2.2)
      have eq0 : ∀ q, q ≤ 3 → V1 (V r (V z 1 - 1) + q) = V (V r (V z 1 - 1) + q) := fun q hq => f0 _ (Ne.symm (hzw q hq))
      refine ⟨_, rfl, Or.inr ⟨by omega, rfl, V2, rfl, ?_, ?_, ?_⟩, rfl⟩
      · intro b h1 h2; rw [f1 b h2, f0 b h1]
      · rw [f1 z hzy, fz]
      · obtain ⟨s1, s2, s3, s4⟩ := f2
        refine ⟨?_, ?_, ?_, ?_⟩
        · rw [s1]; exact congrFun (eq0 0 (by omega)) 0
        · rw [s2]; exact congrFun (eq0 0 (by omega)) 4
        · intro j hj; rw [s3 j hj, eq0 1 (by omega)]
        · intro j hj; rw [(s4 j hj).1, (s4 j hj).2, eq0 2 (by omega), eq0 3 (by omega)]; exact ⟨rfl, rfl⟩
end ZS24
