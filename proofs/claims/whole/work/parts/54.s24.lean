/-- how many answer trial k by less than q -/
def eO (T : zT) (l : List Nat) (k q : Nat) : Nat := l.countP (fun x => decide (aO T k x < q))
theorem eO_step (T : zT) (k q : Nat) : ∀ l : List Nat, eO T l k (q + 1) = eO T l k q + l.countP (fun x => aO T k x == q)
  | [] => rfl
  | x :: l => by
    have ih := eO_step T k q l
    unfold eO at ih ⊢
    rw [List.countP_cons, List.countP_cons, List.countP_cons, ih]
    by_cases h1 : aO T k x = q
    · simp [h1]; omega
    · by_cases h3 : aO T k x < q
      · simp [h1, h3, show aO T k x < q + 1 by omega]; omega
      · simp [h1, h3, show ¬ aO T k x < q + 1 by omega]
theorem eO_mono (T : zT) (l : List Nat) (k q : Nat) : ∀ d, eO T l k q ≤ eO T l k (q + d)
  | 0 => Nat.le_refl _
  | d + 1 => by have := eO_mono T l k q d; have := eO_step T k (q + d) l; rw [show q + (d + 1) = q + d + 1 from rfl]; omega
theorem eO_0 (T : zT) (l : List Nat) (k : Nat) : eO T l k 0 = 0 := by unfold eO; rw [List.countP_eq_zero]; intro x _; simp
theorem eO_le (T : zT) (l : List Nat) (k q : Nat) : eO T l k q ≤ l.length := List.countP_le_length
theorem eO_all {T : zT} {l : List Nat} {k q : Nat} (h : ∀ x ∈ l, aO T k x < q) : eO T l k q = l.length := by unfold eO; rw [List.countP_eq_length]; intro x hx; simpa using h x hx
section ZS28
variable {G : zG} {n : Nat} {h0 : zF} {L : zSh} {V : Nat → Nat → Nat} {y w r len t w2 r2 len2 : Nat} {J : Nat → Nat} {X : Nat → Nat → Nat} {T : zT}
set_option maxRecDepth 100000 in
set_option maxHeartbeats 4000000 in
theorem c_group {k : Nat} {l : List Nat} (hy : zFi L y) (hw : L w = some (sW r)) (hr : L r = some (sA len)) (hm : len < 2 ^ 31) (hw2 : L w2 = some (sW r2)) (hr2 : L r2 = some (sA len2)) (hm2 : len2 < 2 ^ 31) (hl : isWs V w r l) (hln : l.length ≤ len) (hln2 : l.length ≤ len2) (hT : ∀ V, zTr (gH h0 L V) t J X) (hI : tI J X T) (hk : tR T) (hk4 : k < 4 * T 7 0) (hok : lOK T l) (hry : r < y ∨ y + 5 < r) (hry2 : r2 < y ∨ y + 5 < r2) (hrr : r ≠ r2) (hww : w ≠ w2) : zPv G MX0_group 4 [.ref y, .ref t, .ref w, .ref w2, .int (nI k)] (gH h0 L V) n (fun h' => ∃ V', h' = gH h0 L V' ∧ (∀ z, z ≠ y + 3 → z ≠ y + 5 → z ≠ w2 → z ≠ r2 → V' z = V z) ∧ (∀ q, q ≤ 64 → V' (y + 3) q = eO T l k q) ∧ (∀ q, q < 64 → ∀ i, eO T l k q ≤ i → i < eO T l k (q + 1) → V' r2 i ∈ l ∧ aO T k (V' r2 i) = q) ∧ ∀ x, x ∈ l → ∃ i, eO T l k (aO T k x) ≤ i ∧ i < eO T l k (aO T k x + 1) ∧ V' r2 i = x) := by
  refine zCt.of rfl (Nat.le_of_ble_eq_true rfl) rfl ?_
  have k2 := hk.1
  have k7 := hk.2.1
  have hpow : 2 ^ T 2 0 ≤ 256 := (Nat.pow_le_pow_right (by decide) k2 : 2 ^ T 2 0 ≤ 2 ^ 8)
  have hll := hok.2.2
  have w3 := ws_ne hw hy.2.2.2.1
  have w5 := ws_ne hw hy.2.2.2.2.2
  have v3 := ws_ne hw2 hy.2.2.2.1
  have v5 := ws_ne hw2 hy.2.2.2.2.2
  have wr2 := ws_ne hw hr2
  have w2r := ws_ne hw2 hr
  have w2r2 := ws_ne hw2 hr2
  have hR60 : ∀ x ∈ l, aO T k x < 60 := fun x hx => (hok.1 x hx (k / 4) (by omega) (k % 4) (by omega)).2
  refine x_iload dX0_group_0 rfl ?_
  refine x_cSi1 dX0_group_2 lkX0_100 mdX7_parcelOf stX7_parcelOf (by decide) (c_parcelOf (by omega)) (Nat.le_of_ble_eq_true rfl) ⟨Nat.le_refl _, Nat.le_refl _⟩ ?_
  refine x_is5 dX0_group_5 (by decide) rfl ?_
  refine x_aload_n dX0_group_7 rfl ?_
  refine x_aload_n dX0_group_8 rfl ?_
  refine x_iload dX0_group_9 rfl ?_
  refine x_iload dX0_group_11 rfl ?_
  refine x_cSi1 dX0_group_13 lkX0_103 mdX7_sortOf stX7_sortOf (by decide) (c_sortOf (by omega)) (Nat.le_of_ble_eq_true rfl) ⟨Nat.le_refl _, Nat.le_refl _⟩ ?_
  refine x_cVV3 dX0_group_16 lkX0_139 mdX0_listReplies isX0_listReplies rfl rfl (g_c (And.left hy)) (by decide) (c_listReplies hy hT hI hk (by omega) (by omega)) (Nat.le_of_ble_eq_true rfl) ⟨Nat.le_refl _, Nat.le_refl _⟩ ?_
  rintro h' ⟨V0, rfl, a1, a2⟩
  refine x_aload_n dX0_group_19 rfl ?_
  refine x_getf dX0_group_20 flX0_18 (g_c (And.left hy)) rfl ?_
  refine x_iconst (v := nI 0) dX0_group_23 (by decide) ?_
  refine x_cSV2 dX0_group_24 lkX0_56 mdJ7_fill_53178 stJ7_fill_53178 (by decide) (c_fillI (g_c hy.2.2.2.1) (by decide)) (Nat.le_of_ble_eq_true rfl) ⟨Nat.le_refl _, Nat.le_refl _⟩ ?_
  rintro h' rfl
  refine x_eqH (g_up hy.2.2.2.1 _) ?_
  refine x_iconst (v := nI 0) dX0_group_27 (by decide) ?_
  refine x_is6 dX0_group_28 (by decide) rfl ?_
  have hrep : ∀ (V' : Nat → Nat → Nat) (i : Nat), V' (y + 5) = V0 (y + 5) → i < l.length → zI G MX7_at 0 [.ref (y + 5), .int (nI (sI (l.getD i 0) (k / 4)))] (gH h0 L V') n (nI (aO T k (l.getD i 0))) := by
    intro V' i e hi
    have hs := (hok.1 _ (getD_mem hi) (k / 4) (by omega) (k % 4) (by omega)).1
    have c := c_atN (G := G) (n := n) (h := gH h0 L V') (j := sI (l.getD i 0) (k / 4)) (g_c hy.2.2.2.2.2) (by decide) (by omega)
    rw [e, a2 _ hs.1 hs.2] at c
    exact c
  -- the last loop
  have K117 : ∀ i, i ≤ l.length → ∀ (V' : Nat → Nat → Nat) (o7 o8 : Option Value), (∀ z, z ≠ y + 3 → z ≠ y + 5 → z ≠ w2 → z ≠ r2 → V' z = V z) → V' (y + 5) = V0 (y + 5) → (∀ q, q < 64 → V' (y + 3) q + (l.take i).countP (fun x => aO T k x == q) = eO T l k (q + 1)) → V' (y + 3) 64 = eO T l k 65 → (∀ q, q < 64 → ∀ pos, V' (y + 3) q ≤ pos → pos < eO T l k (q + 1) → ∃ j, j < i ∧ V' r2 pos = l.getD j 0 ∧ aO T k (l.getD j 0) = q) → (∀ j, j < i → ∃ pos, V' (y + 3) (aO T k (l.getD j 0)) ≤ pos ∧ pos < eO T l k (aO T k (l.getD j 0) + 1) ∧ V' r2 pos = l.getD j 0) → zEx G MX0_group 4 0 0 117 [some (.ref y), some (.ref t), some (.ref w), some (.ref w2), some (.int (nI k)), some (.int (nI (k / 4))), some (.int (nI i)), o7, o8] [] (gH h0 L V') n (0, 0) (fun r1 h' n' => r1 = none ∧ (∃ V', h' = gH h0 L V' ∧ (∀ z, z ≠ y + 3 → z ≠ y + 5 → z ≠ w2 → z ≠ r2 → V' z = V z) ∧ (∀ q, q ≤ 64 → V' (y + 3) q = eO T l k q) ∧ (∀ q, q < 64 → ∀ i, eO T l k q ≤ i → i < eO T l k (q + 1) → V' r2 i ∈ l ∧ aO T k (V' r2 i) = q) ∧ ∀ x, x ∈ l → ∃ i, eO T l k (aO T k x) ≤ i ∧ i < eO T l k (aO T k x + 1) ∧ V' r2 i = x) ∧ n' = n) := by
    refine z_up l.length ?_
    intro i hi ih V' o7 o8 g1 g2 g3 g4 g5 g6
    have ew : V' w 1 = l.length := by rw [g1 w w3 w5 hww wr2]; exact hl.1
    refine x_iload dX0_group_117 rfl ?_
    refine x_aload_n dX0_group_119 rfl ?_
    refine x_getf dX0_group_120 flX0_31 (g_c hw) rfl ?_
    rw [ew]
    refine n_icmp_ge (tgt := 181) dX0_group_123 (by decide) (by omega) (by omega) (fun c1 => ?_) (fun c1 => ?_)
    · have hie : i = l.length := by omega
      subst hie
      rw [List.take_length] at g3
      have e9 : ∀ q, q ≤ 64 → V' (y + 3) q = eO T l k q := by
        intro q hq
        by_cases e : q = 64
        · subst e
          rw [g4, eO_all (fun x hx => by have := hR60 x hx; omega), eO_all (fun x hx => by have := hR60 x hx; omega)]
        · have h1 := g3 q (by omega)
          have h2 := eO_step T k q l
          omega
      refine x_vret dX0_group_181 rfl ⟨Nat.le_refl _, Nat.le_refl _⟩ ?_
      refine ⟨rfl, ⟨V', rfl, g1, e9, ?_, ?_⟩, rfl⟩
      · intro q hq pos h1 h2
        obtain ⟨j, hj, e1, e2⟩ := g5 q hq pos (by rw [e9 q (by omega)]; exact h1) h2
        rw [e1]
        exact ⟨getD_mem hj, e2⟩
      · intro x hx
        obtain ⟨j, hj, e⟩ := List.getElem_of_mem hx
        obtain ⟨pos, p1, p2, p3⟩ := g6 j hj
        have ee : l.getD j 0 = x := by rw [List.getD_eq_getElem?_getD, List.getElem?_eq_getElem hj, Option.getD_some, e]
        rw [ee] at p1 p2 p3
        have := hR60 x hx
        exact ⟨pos, by rw [← e9 _ (by omega)]; exact p1, p2, p3⟩
    · have hi' : i < l.length := by omega
      have er : V' r i = l.getD i 0 := by rw [g1 r (by omega) (by omega) (Ne.symm w2r) hrr]; exact hl.2 i hi'
      have hR := hR60 _ (getD_mem hi')
      have crep := hrep V' i g2 hi'
      have g3R := g3 (aO T k (l.getD i 0)) (by omega)
      have eS := eO_step T k (aO T k (l.getD i 0)) l
      have etk := take_succ' hi'
      have hsub : ∀ i q, (l.take i).countP (fun x => aO T k x == q) ≤ l.countP (fun x => aO T k x == q) := fun i q => (List.take_sublist i l).countP_le
      have hcnt : (l.take i).countP (fun x => aO T k x == aO T k (l.getD i 0)) + 1 ≤ l.countP (fun x => aO T k x == aO T k (l.getD i 0)) := by
        have := hsub (i + 1) (aO T k (l.getD i 0))
        rw [etk, List.countP_append, List.countP_cons, List.countP_nil, if_pos (by simp)] at this
        omega
      have hlo : ∀ q, q < 64 → eO T l k q ≤ V' (y + 3) q := by
        intro q hq
        have h1 := g3 q hq
        have h2 := eO_step T k q l
        have h3 := hsub i q
        omega
      have hctk : ∀ q, (l.take (i + 1)).countP (fun x => aO T k x == q) = (l.take i).countP (fun x => aO T k x == q) + (if aO T k (l.getD i 0) = q then 1 else 0) := by
        intro q
        rw [etk, List.countP_append, List.countP_cons, List.countP_nil, Nat.zero_add]
        simp
      generalize hRe : aO T k (l.getD i 0) = R at hR crep g3R eS hcnt hctk
      have hE1 := eO_le T l k (R + 1)
      have hVR := hlo R (by omega)
      generalize hs0 : V' (y + 3) R = s0 at g3R hVR
      refine x_aload_n dX0_group_126 rfl ?_
      refine x_iload dX0_group_127 rfl ?_
      refine x_cVi1 dX0_group_129 lkX0_62 mdX6_take isX6_take rfl rfl (g_c hw) (by decide) (c_take hw hr hm (by omega)) (Nat.le_of_ble_eq_true rfl) ⟨Nat.le_refl _, Nat.le_refl _⟩ ?_
      rw [er]
      refine x_is7 dX0_group_132 (by decide) rfl ?_
      refine x_aload_n dX0_group_134 rfl ?_
      refine x_getf dX0_group_135 flX0_24 (g_c (And.left hy)) rfl ?_
      refine x_iload dX0_group_138 rfl ?_
      refine x_iload dX0_group_140 rfl ?_
      refine x_cSi2 dX0_group_142 lkX0_66 mdX7_inside stX7_inside (by decide) (c_inside _ (by omega)) (Nat.le_of_ble_eq_true rfl) ⟨Nat.le_refl _, Nat.le_refl _⟩ ?_
      refine x_cSi2 dX0_group_145 lkX0_77 mdX7_at stX7_at (by decide) (crep) (Nat.le_of_ble_eq_true rfl) ⟨Nat.le_refl _, Nat.le_refl _⟩ ?_
      refine x_is8 dX0_group_148 (by decide) rfl ?_
      refine x_aload_n dX0_group_150 rfl ?_
      refine x_getf dX0_group_151 flX0_18 (g_c (And.left hy)) rfl ?_
      refine x_iload dX0_group_154 rfl ?_
      refine x_iconst (v := -1) dX0_group_156 (by decide) ?_
      refine x_cSV3 dX0_group_157 lkX0_69 mdX7_raise stX7_raise (by decide) (c_raiseM (g_c hy.2.2.2.1) (by decide) (show R < 65 by omega) (by omega)) (Nat.le_of_ble_eq_true rfl) ⟨Nat.le_refl _, Nat.le_refl _⟩ ?_
      rintro h' rfl
      refine x_eqH (g_up hy.2.2.2.1 _) ?_
      rw [hs0]
      generalize hV1 : va_up V' (y + 3) (va_up (V' (y + 3)) R (s0 - 1)) = V1
      have f1 : ∀ z, z ≠ y + 3 → V1 z = V' z := fun z hz => by rw [← hV1]; exact up_ne _ _ hz
      have f2 : V1 (y + 3) = va_up (V' (y + 3)) R (s0 - 1) := by rw [← hV1]; exact up_eq _ _ _
      have f3 : V1 (y + 3) R = s0 - 1 := by rw [f2]; exact up_eq _ _ _
      have f4 : ∀ q, q ≠ R → V1 (y + 3) q = V' (y + 3) q := fun q hq => by rw [f2]; exact up_ne _ _ hq
      have ca := c_atN (G := G) (n := n) (h := gH h0 L V1) (j := R) (g_c hy.2.2.2.1) (by decide) (by omega)
      rw [f3] at ca
      refine x_aload_n dX0_group_160 rfl ?_
      refine x_aload_n dX0_group_161 rfl ?_
      refine x_getf dX0_group_162 flX0_18 (g_c (And.left hy)) rfl ?_
      refine x_iload dX0_group_165 rfl ?_
      refine x_cSi2 dX0_group_167 lkX0_77 mdX7_at stX7_at (by decide) (ca) (Nat.le_of_ble_eq_true rfl) ⟨Nat.le_refl _, Nat.le_refl _⟩ ?_
      refine x_iload dX0_group_170 rfl ?_
      refine x_cVV2 dX0_group_172 lkX0_147 mdX6_set isX6_set rfl rfl (g_c hw2) (by decide) (c_wSet hw2 hr2 hm2 (by omega)) (Nat.le_of_ble_eq_true rfl) ⟨Nat.le_refl _, Nat.le_refl _⟩ ?_
      rintro h' rfl
      have n32 : y + 3 ≠ r2 := by omega
      refine n_ii6 (w := 1) dX0_group_175 (by decide) (by decide) rfl ?_
      refine x_goto (tgt := 117) dX0_group_178 (by decide) ?_
      refine ih hi' _ _ _ ?_ ?_ ?_ ?_ ?_ ?_
      · intro z h1 h2 h3 h4; rw [up_ne _ _ h4, f1 z h1, g1 z h1 h2 h3 h4]
      · rw [up_ne _ _ (by omega), f1 _ (by omega), g2]
      · intro q hq
        rw [up_ne _ _ n32, hctk q]
        have h1 := g3 q hq
        by_cases e : q = R
        · subst e
          rw [f3, if_pos rfl]; omega
        · rw [f4 q e, if_neg (Ne.symm e)]; omega
      · rw [up_ne _ _ n32, f4 64 (by omega), g4]
      · intro q hq pos h1 h2
        rw [up_ne _ _ n32] at h1
        rw [up_eq]
        by_cases e : q = R
        · subst e
          rw [f3] at h1
          by_cases ep : pos = s0 - 1
          · subst ep
            exact ⟨i, by omega, up_eq _ _ _, hRe⟩
          · rw [up_ne _ _ ep]
            obtain ⟨j, hj, e1, e2⟩ := g5 q hq pos (by omega) h2
            rw [f1 _ (Ne.symm n32)]
            exact ⟨j, by omega, e1, e2⟩
        · rw [f4 q e] at h1
          have hne : pos ≠ s0 - 1 := by
            have hq0 := hlo q hq
            rcases Nat.lt_or_gt_of_ne e with hlt | hgt
            · have := eO_mono T l k (q + 1) (R - (q + 1))
              rw [show q + 1 + (R - (q + 1)) = R by omega] at this
              omega
            · have := eO_mono T l k (R + 1) (q - (R + 1))
              rw [show R + 1 + (q - (R + 1)) = q by omega] at this
              omega
          rw [up_ne _ _ hne]
          obtain ⟨j, hj, e1, e2⟩ := g5 q hq pos h1 h2
          rw [f1 _ (Ne.symm n32)]
          exact ⟨j, by omega, e1, e2⟩
      · intro j hj
        rw [up_eq, up_ne _ _ n32]
        by_cases ej : j = i
        · subst ej
          rw [hRe]
          exact ⟨s0 - 1, by rw [f3]; exact Nat.le_refl _, by omega, up_eq _ _ _⟩
        · obtain ⟨pos, p1, p2, p3⟩ := g6 j (by omega)
          have hq := hR60 _ (getD_mem (show j < l.length by omega))
          generalize aO T k (l.getD j 0) = q at p1 p2 hq
          by_cases e : q = R
          · subst e
            rw [hs0] at p1
            refine ⟨pos, by rw [f3]; omega, p2, ?_⟩
            rw [up_ne _ _ (by omega), f1 _ (Ne.symm n32)]; exact p3
          · have hne : pos ≠ s0 - 1 := by
              have hq0 := hlo q (by omega)
              rcases Nat.lt_or_gt_of_ne e with hlt | hgt
              · have := eO_mono T l k (q + 1) (R - (q + 1))
                rw [show q + 1 + (R - (q + 1)) = R by omega] at this
                omega
              · have := eO_mono T l k (R + 1) (q - (R + 1))
                rw [show R + 1 + (q - (R + 1)) = q by omega] at this
                omega
            refine ⟨pos, by rw [f4 q e]; exact p1, p2, ?_⟩
            rw [up_ne _ _ hne, f1 _ (Ne.symm n32)]; exact p3
  -- the sums
  have K74 : ∀ s, s ≤ 65 → 1 ≤ s → ∀ (V' : Nat → Nat → Nat) (o7 o8 : Option Value), (∀ z, z ≠ y + 3 → z ≠ y + 5 → V' z = V z) → V' (y + 5) = V0 (y + 5) → (∀ q, q < 65 → V' (y + 3) q = if q < s then eO T l k (q + 1) else l.countP (fun x => aO T k x == q)) → zEx G MX0_group 4 0 0 74 [some (.ref y), some (.ref t), some (.ref w), some (.ref w2), some (.int (nI k)), some (.int (nI (k / 4))), some (.int (nI s)), o7, o8] [] (gH h0 L V') n (0, 0) (fun r1 h' n' => r1 = none ∧ (∃ V', h' = gH h0 L V' ∧ (∀ z, z ≠ y + 3 → z ≠ y + 5 → z ≠ w2 → z ≠ r2 → V' z = V z) ∧ (∀ q, q ≤ 64 → V' (y + 3) q = eO T l k q) ∧ (∀ q, q < 64 → ∀ i, eO T l k q ≤ i → i < eO T l k (q + 1) → V' r2 i ∈ l ∧ aO T k (V' r2 i) = q) ∧ ∀ x, x ∈ l → ∃ i, eO T l k (aO T k x) ≤ i ∧ i < eO T l k (aO T k x + 1) ∧ V' r2 i = x) ∧ n' = n) := by
    refine z_up 65 ?_
    intro s hs ih hs1 V' o7 o8 g1 g2 g3
    refine x_iload dX0_group_74 rfl ?_
    refine x_aload_n dX0_group_76 rfl ?_
    refine x_getf dX0_group_77 flX0_18 (g_c (And.left hy)) rfl ?_
    refine x_alen dX0_group_80 (g_c hy.2.2.2.1) rfl ?_
    refine n_icmp_ge (tgt := 109) dX0_group_81 (by decide) (by omega) (by omega) (fun c1 => ?_) (fun c1 => ?_)
    · have hse : s = 65 := by omega
      subst hse
      have hlw : V' w 1 ≤ len ∧ V' w 1 ≤ len2 := by rw [g1 w w3 w5, show V w 1 = l.length from hl.1]; exact ⟨hln, hln2⟩
      refine x_aload_n dX0_group_109 rfl ?_
      refine x_aload_n dX0_group_110 rfl ?_
      refine x_cVV1 dX0_group_111 lkX0_143 mdX6_copy isX6_copy rfl rfl (g_c hw2) (by decide) (c_wCopy hw2 hr2 hm2 hw hr hm hlw.2 hlw.1 hww) (Nat.le_of_ble_eq_true rfl) ⟨Nat.le_refl _, Nat.le_refl _⟩ ?_
      rintro h' rfl
      refine x_iconst (v := nI 0) dX0_group_114 (by decide) ?_
      refine x_is6 dX0_group_115 (by decide) rfl ?_
      refine K117 0 (Nat.zero_le _) _ _ _ ?_ ?_ ?_ ?_ ?_ ?_
      · intro z h1 h2 h3 h4; rw [up_ne _ _ h4, up_ne _ _ h3, g1 z h1 h2]
      · rw [up_ne _ _ (by omega), up_ne _ _ (Ne.symm v5), g2]
      · intro q hq; rw [up_ne _ _ (by omega), up_ne _ _ (Ne.symm v3), g3 q (by omega), if_pos (by omega)]; simp
      · rw [up_ne _ _ (by omega), up_ne _ _ (Ne.symm v3), g3 64 (by omega), if_pos (by omega)]
      · intro q hq pos h1 h2
        rw [up_ne _ _ (by omega), up_ne _ _ (Ne.symm v3), g3 q (by omega), if_pos (by omega)] at h1
        omega
      · intro j hj; omega
    · have e1 := g3 s (by omega)
      have e2 := g3 (s - 1) (by omega)
      rw [if_neg (by omega)] at e1
      rw [if_pos (by omega), show s - 1 + 1 = s by omega] at e2
      refine x_aload_n dX0_group_84 rfl ?_
      refine x_getf dX0_group_85 flX0_18 (g_c (And.left hy)) rfl ?_
      refine x_iload dX0_group_88 rfl ?_
      refine x_dup2_11 dX0_group_90 rfl rfl ?_
      refine g_iald dX0_group_91 (g_c hy.2.2.2.1) (by omega) (by omega) ?_
      refine x_aload_n dX0_group_92 rfl ?_
      refine x_getf dX0_group_93 flX0_18 (g_c (And.left hy)) rfl ?_
      refine x_iload dX0_group_96 rfl ?_
      refine x_iconst (v := nI 1) dX0_group_98 (by decide) ?_
      refine n_isub dX0_group_99 (by omega) ?_
      refine g_iald dX0_group_100 (g_c hy.2.2.2.1) (by omega) (by omega) ?_
      refine n_iadd dX0_group_101 ?_
      refine g_iast dX0_group_102 (g_c hy.2.2.2.1) (by omega) (by omega) ?_
      refine x_eqH (g_up hy.2.2.2.1 _) ?_
      rw [e1, e2]
      refine n_ii6 (w := 1) dX0_group_103 (by decide) (by decide) rfl ?_
      refine x_goto (tgt := 74) dX0_group_106 (by decide) ?_
      refine ih (by omega) (by omega) _ _ _ ?_ ?_ ?_
      · intro z h1 h2; rw [up_ne _ _ h1, g1 z h1 h2]
      · rw [up_ne _ _ (by omega), g2]
      · intro q hq
        rw [up_eq]
        by_cases e : q = s
        · subst e
          rw [up_eq, if_pos (by omega), eO_step]; omega
        · rw [up_ne _ _ e, g3 q hq]
          by_cases e3 : q < s
          · rw [if_pos e3, if_pos (by omega)]
          · rw [if_neg e3, if_neg (by omega)]
  -- the counts
  have K30 : ∀ i, i ≤ l.length → ∀ (V' : Nat → Nat → Nat) (o7 o8 : Option Value), (∀ z, z ≠ y + 3 → z ≠ y + 5 → V' z = V z) → V' (y + 5) = V0 (y + 5) → (∀ q, q < 65 → V' (y + 3) q = (l.take i).countP (fun x => aO T k x == q)) → zEx G MX0_group 4 0 0 30 [some (.ref y), some (.ref t), some (.ref w), some (.ref w2), some (.int (nI k)), some (.int (nI (k / 4))), some (.int (nI i)), o7, o8] [] (gH h0 L V') n (0, 0) (fun r1 h' n' => r1 = none ∧ (∃ V', h' = gH h0 L V' ∧ (∀ z, z ≠ y + 3 → z ≠ y + 5 → z ≠ w2 → z ≠ r2 → V' z = V z) ∧ (∀ q, q ≤ 64 → V' (y + 3) q = eO T l k q) ∧ (∀ q, q < 64 → ∀ i, eO T l k q ≤ i → i < eO T l k (q + 1) → V' r2 i ∈ l ∧ aO T k (V' r2 i) = q) ∧ ∀ x, x ∈ l → ∃ i, eO T l k (aO T k x) ≤ i ∧ i < eO T l k (aO T k x + 1) ∧ V' r2 i = x) ∧ n' = n) := by
    refine z_up l.length ?_
    intro i hi ih V' o7 o8 g1 g2 g3
    have ew : V' w 1 = l.length := by rw [g1 w w3 w5]; exact hl.1
    refine x_iload dX0_group_30 rfl ?_
    refine x_aload_n dX0_group_32 rfl ?_
    refine x_getf dX0_group_33 flX0_31 (g_c hw) rfl ?_
    rw [ew]
    refine n_icmp_ge (tgt := 71) dX0_group_36 (by decide) (by omega) (by omega) (fun c1 => ?_) (fun c1 => ?_)
    · have hie : i = l.length := by omega
      subst hie
      rw [List.take_length] at g3
      refine x_iconst (v := nI 1) dX0_group_71 (by decide) ?_
      refine x_is6 dX0_group_72 (by decide) rfl ?_
      refine K74 1 (by decide) (by decide) V' _ _ g1 g2 ?_
      intro q hq
      by_cases e : q < 1
      · rw [if_pos e, show q = 0 by omega, g3 0 (by decide), eO_step, eO_0]; simp
      · rw [if_neg e, g3 q hq]
    · have hi' : i < l.length := by omega
      have er : V' r i = l.getD i 0 := by rw [g1 r (by omega) (by omega)]; exact hl.2 i hi'
      have hR := hR60 _ (getD_mem hi')
      have crep := hrep V' i g2 hi'
      refine x_aload_n dX0_group_39 rfl ?_
      refine x_getf dX0_group_40 flX0_18 (g_c (And.left hy)) rfl ?_
      refine x_aload_n dX0_group_43 rfl ?_
      refine x_getf dX0_group_44 flX0_24 (g_c (And.left hy)) rfl ?_
      refine x_aload_n dX0_group_47 rfl ?_
      refine x_iload dX0_group_48 rfl ?_
      refine x_cVi1 dX0_group_50 lkX0_62 mdX6_take isX6_take rfl rfl (g_c hw) (by decide) (c_take hw hr hm (by omega)) (Nat.le_of_ble_eq_true rfl) ⟨Nat.le_refl _, Nat.le_refl _⟩ ?_
      rw [er]
      refine x_iload dX0_group_53 rfl ?_
      refine x_cSi2 dX0_group_55 lkX0_66 mdX7_inside stX7_inside (by decide) (c_inside _ (by omega)) (Nat.le_of_ble_eq_true rfl) ⟨Nat.le_refl _, Nat.le_refl _⟩ ?_
      refine x_cSi2 dX0_group_58 lkX0_77 mdX7_at stX7_at (by decide) (crep) (Nat.le_of_ble_eq_true rfl) ⟨Nat.le_refl _, Nat.le_refl _⟩ ?_
      refine x_iconst (v := nI 1) dX0_group_61 (by decide) ?_
      refine x_cSV3 dX0_group_62 lkX0_69 mdX7_raise stX7_raise (by decide) (c_raiseN (g_c hy.2.2.2.1) (by decide) (by omega)) (Nat.le_of_ble_eq_true rfl) ⟨Nat.le_refl _, Nat.le_refl _⟩ ?_
      rintro h' rfl
      refine x_eqH (g_up hy.2.2.2.1 _) ?_
      refine n_ii6 (w := 1) dX0_group_65 (by decide) (by decide) rfl ?_
      refine x_goto (tgt := 30) dX0_group_68 (by decide) ?_
      refine ih hi' _ _ _ ?_ ?_ ?_
      · intro z h1 h2; rw [up_ne _ _ h1, g1 z h1 h2]
      · rw [up_ne _ _ (by omega), g2]
      · intro q hq
        rw [up_eq, take_succ' hi', List.countP_append, ← g3 q hq, List.countP_cons, List.countP_nil]
        by_cases e : q = aO T k (l.getD i 0)
        · subst e; rw [up_eq]; simp
        · rw [up_ne _ _ e, if_neg (by simpa using Ne.symm e)]; omega
  refine K30 0 (Nat.zero_le _) _ _ _ ?_ ?_ ?_
  · intro z h1 h2; rw [up_ne _ _ h1, a1 z h2]
  · rw [up_ne _ _ (by omega)]
  · intro q hq; rw [up_eq, if_pos hq]; simp
end ZS28
