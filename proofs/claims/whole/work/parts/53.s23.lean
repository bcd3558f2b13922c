/-- what a world answers to trial k -/
def aO (T : zT) (k x : Nat) : Nat := ansF T (k / 4) (k % 4) (sI x (k / 4)) 0
/-- trial k tells the set of parcel p, of the worlds f a .. f (b - 1) -/
def tel (T : zT) (f : Nat → Nat) (k p a b : Nat) : Prop := ∀ i j, a ≤ i → i < b → a ≤ j → j < b → aO T k (f i) = aO T k (f j) → sI (f i) p = sI (f j) p
def kn0 (l : List Nat) (p : Nat) : Prop := ∀ x, x ∈ l → ∀ z, z ∈ l → sI x p = sI z p
def telL (T : zT) (l : List Nat) (k p : Nat) : Prop := ∀ x, x ∈ l → ∀ z, z ∈ l → aO T k x = aO T k z → sI x p = sI z p
def telG (T : zT) (l : List Nat) (o q k p : Nat) : Prop := ∀ x, x ∈ l → ∀ z, z ∈ l → aO T o x = q → aO T o z = q → aO T k x = aO T k z → sI x p = sI z p
def en1 (T : zT) (l : List Nat) (p : Nat) : Prop := ∃ k, k < 4 * T 7 0 ∧ telL T l k p
def en2 (T : zT) (l : List Nat) (p o : Nat) : Prop := ∀ q, q < 64 → ∃ k, k < 4 * T 7 0 ∧ telG T l o q k p
def fwP (T : zT) (l : List Nat) (p : Nat) (v : Int32) : Prop := (l = [] ∧ v = -4) ∨ (l ≠ [] ∧ ((kn0 l p ∧ v = nI 0) ∨ (¬ kn0 l p ∧ en1 T l p ∧ v = nI 1) ∨ (¬ kn0 l p ∧ ¬ en1 T l p ∧ (∃ o, o < 4 * T 7 0 ∧ en2 T l p o) ∧ v = nI 2) ∨ (¬ kn0 l p ∧ ¬ en1 T l p ∧ (¬ ∃ o, o < 4 * T 7 0 ∧ en2 T l p o) ∧ v = -4)))
section ZS27
variable {G : zG} {n : Nat} {h0 : zF} {L : zSh} {V : Nat → Nat → Nat} {y w r len t : Nat} {J : Nat → Nat} {X : Nat → Nat → Nat} {T : zT}
theorem c_isKnownS {p : Nat} {l : List Nat} (hy : zFi L y) (hw : L w = some (sW r)) (hr : L r = some (sA len)) (hm : len < 2 ^ 31) (hl : isWs V w r l) (hln : l.length ≤ len) (hp : p < 4) (hne : l ≠ []) : zPi G MX0_isKnown 2 [.ref y, .ref w, .int (nI p)] (gH h0 L V) n (fun v h' => h' = gH h0 L V ∧ ((v = nI 1 ∧ kn0 l p) ∨ (v = nI 0 ∧ ¬ kn0 l p))) := by
  refine zCt.of rfl (Nat.le_of_ble_eq_true rfl) rfl ?_
  have ew : V w 1 = l.length := hl.1
  have hpos : 0 < l.length := List.length_pos_iff.mpr hne
  have e0 : V r 0 = l.getD 0 0 := hl.2 0 hpos
  have hs0 := sI_lt (l.getD 0 0) p
  refine x_iconst (v := nI 1) dX0_isKnown_0 (by decide) ?_
  refine x_is3 dX0_isKnown_1 (by decide) rfl ?_
  refine z_up l.length (P := fun i => 1 ≤ i → (∀ j, j < i → sI (l.getD j 0) p = sI (l.getD 0 0) p) → zEx G MX0_isKnown 2 0 0 2 [some (.ref y), some (.ref w), some (.int (nI p)), some (.int (nI i))] [] (gH h0 L V) n (0, 0) _) ?_ 1 (by omega) (by omega) (fun j hj => by rw [show j = 0 by omega])
  intro i hi ih hi1 hf
  refine x_iload_n dX0_isKnown_2 rfl ?_
  refine x_aload_n dX0_isKnown_3 rfl ?_
  refine x_getf dX0_isKnown_4 flX0_31 (g_c hw) rfl ?_
  rw [ew]
  refine n_icmp_ge (tgt := 39) dX0_isKnown_7 (by decide) (by omega) (by omega) (fun c1 => ?_) (fun c1 => ?_)
  · refine x_iconst (v := nI 1) dX0_isKnown_39 (by decide) ?_
    refine x_iret dX0_isKnown_40 rfl (nar_b true) ⟨Nat.le_refl _, Nat.le_refl _⟩ ?_
    refine ⟨_, rfl, ⟨rfl, Or.inl ⟨rfl, ?_⟩⟩, rfl⟩
    intro x hx z hz
    obtain ⟨j, hj, e⟩ := List.getElem_of_mem hx
    obtain ⟨j2, hj2, e2⟩ := List.getElem_of_mem hz
    have g1 := hf j (by omega)
    have g2 := hf j2 (by omega)
    rw [List.getD_eq_getElem?_getD, List.getElem?_eq_getElem hj, Option.getD_some, e] at g1
    rw [List.getD_eq_getElem?_getD, List.getElem?_eq_getElem hj2, Option.getD_some, e2] at g2
    rw [g1, g2]
  · have hi' : i < l.length := by omega
    have ei : V r i = l.getD i 0 := hl.2 i hi'
    have hsi := sI_lt (l.getD i 0) p
    refine x_aload_n dX0_isKnown_10 rfl ?_
    refine x_iload_n dX0_isKnown_11 rfl ?_
    refine x_cVi1 dX0_isKnown_12 lkX0_62 mdX6_take isX6_take rfl rfl (g_c hw) (by decide) (c_take hw hr hm (by omega)) (Nat.le_of_ble_eq_true rfl) ⟨Nat.le_refl _, Nat.le_refl _⟩ ?_
    rw [ei]
    refine x_iload_n dX0_isKnown_15 rfl ?_
    refine x_cSi2 dX0_isKnown_16 lkX0_66 mdX7_inside stX7_inside (by decide) (c_inside _ hp) (Nat.le_of_ble_eq_true rfl) ⟨Nat.le_refl _, Nat.le_refl _⟩ ?_
    refine x_aload_n dX0_isKnown_19 rfl ?_
    refine x_iconst (v := nI 0) dX0_isKnown_20 (by decide) ?_
    refine x_cVi1 dX0_isKnown_21 lkX0_62 mdX6_take isX6_take rfl rfl (g_c hw) (by decide) (c_take hw hr hm (by omega)) (Nat.le_of_ble_eq_true rfl) ⟨Nat.le_refl _, Nat.le_refl _⟩ ?_
    rw [e0]
    refine x_iload_n dX0_isKnown_24 rfl ?_
    refine x_cSi2 dX0_isKnown_25 lkX0_66 mdX7_inside stX7_inside (by decide) (c_inside _ hp) (Nat.le_of_ble_eq_true rfl) ⟨Nat.le_refl _, Nat.le_refl _⟩ ?_
    refine n_icmp_eq (tgt := 33) dX0_isKnown_28 (by decide) (by omega) (by omega) (fun c2 => ?_) (fun c2 => ?_)
    · refine n_ii3 (w := 1) dX0_isKnown_33 (by decide) (by decide) rfl ?_
      refine x_goto (tgt := 2) dX0_isKnown_36 (by decide) ?_
      refine ih hi' (by omega) (fun j hj => ?_)
      by_cases q : j = i
      · subst q; exact c2
      · exact hf j (by omega)
    · refine x_iconst (v := nI 0) dX0_isKnown_31 (by decide) ?_
      refine x_iret dX0_isKnown_32 rfl (nar_b false) ⟨Nat.le_refl _, Nat.le_refl _⟩ ?_
      refine ⟨_, rfl, ⟨rfl, Or.inr ⟨rfl, ?_⟩⟩, rfl⟩
      intro hk
      exact c2 (hk _ (getD_mem hi') _ (getD_mem hpos))
set_option maxRecDepth 100000 in
theorem c_tells {k p a b : Nat} (hy : zFi L y) (hw : L w = some (sW r)) (hr : L r = some (sA len)) (hm : len < 2 ^ 31) (hT : ∀ V, zTr (gH h0 L V) t J X) (hI : tI J X T) (hk : tR T) (hk4 : k < 4 * T 7 0) (hp : p < T 7 0) (ha : a ≤ b) (hb : b ≤ len) (hok : ∀ i, a ≤ i → i < b → ∀ q, q < T 7 0 → ∀ so, so < 4 → (1 ≤ sI (V r i) q ∧ sI (V r i) q < 2 ^ T 2 0) ∧ ansF T q so (sI (V r i) q) 0 < 60) (hry : r < y ∨ y + 5 < r) : zPi G MX0_tells 3 [.ref y, .ref t, .ref w, .int (nI k), .int (nI p), .int (nI a), .int (nI b)] (gH h0 L V) n (fun v h' => ∃ V', h' = gH h0 L V' ∧ (∀ z, z ≠ y + 4 → V' z = V z) ∧ ((v = nI 1 ∧ tel T (V r) k p a b) ∨ (v = nI 0 ∧ ¬ tel T (V r) k p a b))) := by
  refine zCt.of rfl (Nat.le_of_ble_eq_true rfl) rfl ?_
  have k2 := hk.1
  have k7 := hk.2.1
  have hpow : 2 ^ T 2 0 ≤ 256 := (Nat.pow_le_pow_right (by decide) k2 : 2 ^ T 2 0 ≤ 2 ^ 8)
  refine x_aload_n dX0_tells_0 rfl ?_
  refine x_getf dX0_tells_1 flX0_21 (g_c (And.left hy)) rfl ?_
  refine x_iconst (v := nI 0) dX0_tells_4 (by decide) ?_
  refine x_cSV2 dX0_tells_5 lkX0_56 mdJ7_fill_53178 stJ7_fill_53178 (by decide) (c_fillI (g_c hy.2.2.2.2.1) (by decide)) (Nat.le_of_ble_eq_true rfl) ⟨Nat.le_refl _, Nat.le_refl _⟩ ?_
  rintro h' rfl
  refine x_eqH (g_up hy.2.2.2.2.1 _) ?_
  refine x_iload_n dX0_tells_8 rfl ?_
  refine x_cSi1 dX0_tells_9 lkX0_100 mdX7_parcelOf stX7_parcelOf (by decide) (c_parcelOf (by omega)) (Nat.le_of_ble_eq_true rfl) ⟨Nat.le_refl _, Nat.le_refl _⟩ ?_
  refine x_is7 dX0_tells_12 (by decide) rfl ?_
  refine x_iload_n dX0_tells_14 rfl ?_
  refine x_cSi1 dX0_tells_15 lkX0_103 mdX7_sortOf stX7_sortOf (by decide) (c_sortOf (by omega)) (Nat.le_of_ble_eq_true rfl) ⟨Nat.le_refl _, Nat.le_refl _⟩ ?_
  refine x_is8 dX0_tells_18 (by decide) rfl ?_
  refine x_iload dX0_tells_20 rfl ?_
  refine x_is9 dX0_tells_22 (by decide) rfl ?_
  have key : ∀ i, i ≤ b → a ≤ i → ∀ (V' : Nat → Nat → Nat) (o10 o11 o12 o13 : Option Value), (∀ z, z ≠ y + 4 → V' z = V z) → (∀ q, q < 64 → (V' (y + 4) q = 0 ∧ ∀ j, a ≤ j → j < i → aO T k (V r j) ≠ q) ∨ (∃ j, (a ≤ j ∧ j < i) ∧ aO T k (V r j) = q ∧ V' (y + 4) q = sI (V r j) p)) → tel T (V r) k p a i → zEx G MX0_tells 3 0 0 24 [some (.ref y), some (.ref t), some (.ref w), some (.int (nI k)), some (.int (nI p)), some (.int (nI a)), some (.int (nI b)), some (.int (nI (k / 4))), some (.int (nI (k % 4))), some (.int (nI i)), o10, o11, o12, o13] [] (gH h0 L V') n (0, 0) (fun r1 h' n' => ∃ v, r1 = some (.int v) ∧ (∃ V', h' = gH h0 L V' ∧ (∀ z, z ≠ y + 4 → V' z = V z) ∧ ((v = nI 1 ∧ tel T (V r) k p a b) ∨ (v = nI 0 ∧ ¬ tel T (V r) k p a b))) ∧ n' = n) := by
    refine z_up b ?_
    intro i hi ih hai V' o10 o11 o12 o13 g1 g2 g3
    refine x_iload dX0_tells_24 rfl ?_
    refine x_iload dX0_tells_26 rfl ?_
    refine n_icmp_ge (tgt := 108) dX0_tells_28 (by decide) (by omega) (by omega) (fun c1 => ?_) (fun c1 => ?_)
    · have hie : i = b := by omega
      subst hie
      refine x_iconst (v := nI 1) dX0_tells_108 (by decide) ?_
      refine x_iret dX0_tells_109 rfl (nar_b true) ⟨Nat.le_refl _, Nat.le_refl _⟩ ?_
      exact ⟨_, rfl, ⟨V', rfl, g1, Or.inl ⟨rfl, g3⟩⟩, rfl⟩
    · have er : V' r i = V r i := by rw [g1 r (by omega)]
      have hi4 := hok i hai (by omega) (k / 4) (by omega) (k % 4) (by omega)
      have hip := (hok i hai (by omega) p hp 0 (by decide)).1
      have crep := c_reply (G := G) (n := n) (hT V') hI hk (show k / 4 < T 7 0 by omega) (show k % 4 < 4 by omega) hi4.1.2 (show 0 < 100 by decide)
      have hR : aO T k (V r i) < 60 := hi4.2
      rw [show ansF T (k / 4) (k % 4) (sI (V r i) (k / 4)) 0 = aO T k (V r i) from rfl] at crep
      generalize hRe : aO T k (V r i) = R at hR crep
      have g2R := g2 R (by omega)
      have hbef : V' (y + 4) R < 256 := by
        rcases g2R with h | ⟨j, _, _, h⟩
        · omega
        · rw [h]; exact sI_lt _ _
      refine x_aload_n dX0_tells_31 rfl ?_
      refine x_iload dX0_tells_32 rfl ?_
      refine x_cVi1 dX0_tells_34 lkX0_62 mdX6_take isX6_take rfl rfl (g_c hw) (by decide) (c_take hw hr hm (by omega)) (Nat.le_of_ble_eq_true rfl) ⟨Nat.le_refl _, Nat.le_refl _⟩ ?_
      rw [er]
      refine x_is10 dX0_tells_37 (by decide) rfl ?_
      refine x_aload_n dX0_tells_39 rfl ?_
      refine x_iload dX0_tells_40 rfl ?_
      refine x_iload dX0_tells_42 rfl ?_
      refine x_iload dX0_tells_44 rfl ?_
      refine x_iload dX0_tells_46 rfl ?_
      refine x_cSi2 dX0_tells_48 lkX0_66 mdX7_inside stX7_inside (by decide) (c_inside _ (by omega)) (Nat.le_of_ble_eq_true rfl) ⟨Nat.le_refl _, Nat.le_refl _⟩ ?_
      refine x_iconst (v := nI 0) dX0_tells_51 (by decide) ?_
      refine x_cVi4 dX0_tells_52 lkX0_73 mdX5_reply isX5_reply rfl rfl (And.left (hT _)) (by decide) (crep) (Nat.le_of_ble_eq_true rfl) ⟨Nat.le_refl _, Nat.le_refl _⟩ ?_
      refine x_is11 dX0_tells_55 (by decide) rfl ?_
      refine x_iload dX0_tells_57 rfl ?_
      refine x_iload dX0_tells_59 rfl ?_
      refine x_cSi2 dX0_tells_61 lkX0_66 mdX7_inside stX7_inside (by decide) (c_inside _ (by omega)) (Nat.le_of_ble_eq_true rfl) ⟨Nat.le_refl _, Nat.le_refl _⟩ ?_
      refine x_is12 dX0_tells_64 (by decide) rfl ?_
      refine x_aload_n dX0_tells_66 rfl ?_
      refine x_getf dX0_tells_67 flX0_21 (g_c (And.left hy)) rfl ?_
      refine x_iload dX0_tells_70 rfl ?_
      refine x_cSi2 dX0_tells_72 lkX0_77 mdX7_at stX7_at (by decide) (c_atN (g_c hy.2.2.2.2.1) (by decide) (show R < 64 by omega)) (Nat.le_of_ble_eq_true rfl) ⟨Nat.le_refl _, Nat.le_refl _⟩ ?_
      refine x_is13 dX0_tells_75 (by decide) rfl ?_
      refine x_iload dX0_tells_77 rfl ?_
      have K91 : (V' (y + 4) R = 0 ∨ V' (y + 4) R = sI (V r i) p) → zEx G MX0_tells 3 0 0 91 [some (.ref y), some (.ref t), some (.ref w), some (.int (nI k)), some (.int (nI p)), some (.int (nI a)), some (.int (nI b)), some (.int (nI (k / 4))), some (.int (nI (k % 4))), some (.int (nI i)), some (.int (nI (V r i))), some (.int (nI R)), some (.int (nI (sI (V r i) p))), some (.int (nI (V' (y + 4) R)))] [] (gH h0 L V') n (0, 0) (fun r1 h' n' => ∃ v, r1 = some (.int v) ∧ (∃ V', h' = gH h0 L V' ∧ (∀ z, z ≠ y + 4 → V' z = V z) ∧ ((v = nI 1 ∧ tel T (V r) k p a b) ∨ (v = nI 0 ∧ ¬ tel T (V r) k p a b))) ∧ n' = n) := by
        intro hbe
        refine x_aload_n dX0_tells_91 rfl ?_
        refine x_getf dX0_tells_92 flX0_21 (g_c (And.left hy)) rfl ?_
        refine x_iload dX0_tells_95 rfl ?_
        refine x_iload dX0_tells_97 rfl ?_
        refine x_cSV3 dX0_tells_99 lkX0_136 mdX7_put stX7_put (by decide) (c_putN (g_c hy.2.2.2.2.1) (by decide) (show R < 64 by omega)) (Nat.le_of_ble_eq_true rfl) ⟨Nat.le_refl _, Nat.le_refl _⟩ ?_
        rintro h' rfl
        refine x_eqH (g_up hy.2.2.2.2.1 _) ?_
        refine n_ii9 (w := 1) dX0_tells_102 (by decide) (by decide) rfl ?_
        refine x_goto (tgt := 24) dX0_tells_105 (by decide) ?_
        have hall : ∀ j, a ≤ j → j < i → aO T k (V r j) = R → sI (V r j) p = sI (V r i) p := by
          intro j h1 h2 h3
          rcases g2R with ⟨_, h⟩ | ⟨j2, h4, h5, h6⟩
          · exact absurd h3 (h j h1 h2)
          · have e1 := g3 j j2 h1 h2 h4.1 h4.2 (by rw [h3, h5])
            have p1 := (hok j2 h4.1 (by omega) p hp 0 (by decide)).1.1
            rcases hbe with h7 | h7
            · omega
            · rw [e1, ← h6, h7]
        refine ih (by omega) (by omega) _ _ _ _ _ ?_ ?_ ?_
        · intro z hz; rw [up_ne _ _ hz, g1 z hz]
        · intro q hq
          rw [up_eq]
          by_cases e : q = R
          · subst e
            exact Or.inr ⟨i, ⟨hai, by omega⟩, hRe, up_eq _ _ _⟩
          · rw [up_ne _ _ e]
            rcases g2 q hq with ⟨h, h2⟩ | ⟨j, h, h2, h3⟩
            · refine Or.inl ⟨h, fun j h3 h4 => ?_⟩
              by_cases ej : j = i
              · subst ej; rw [hRe]; exact Ne.symm e
              · exact h2 j h3 (by omega)
            · exact Or.inr ⟨j, ⟨h.1, by omega⟩, h2, h3⟩
        · intro j j2 h1 h2 h3 h4 h5
          by_cases e1 : j = i
          · by_cases e2 : j2 = i
            · rw [e1, e2]
            · subst e1
              exact (hall j2 h3 (by omega) (by rw [← h5, hRe])).symm
          · by_cases e2 : j2 = i
            · subst e2
              exact hall j h1 (by omega) (by rw [h5, hRe])
            · exact g3 j j2 h1 (by omega) h3 (by omega) h5
      refine n_if_eq (tgt := 91) dX0_tells_79 (by decide) (by omega) (fun c2 => ?_) (fun c2 => ?_)
      · exact K91 (Or.inl c2)
      · refine x_iload dX0_tells_82 rfl ?_
        refine x_iload dX0_tells_84 rfl ?_
        refine n_icmp_eq (tgt := 91) dX0_tells_86 (by decide) (by omega) (by omega) (fun c3 => ?_) (fun c3 => ?_)
        · exact K91 (Or.inr c3)
        · refine x_iconst (v := nI 0) dX0_tells_89 (by decide) ?_
          refine x_iret dX0_tells_90 rfl (nar_b false) ⟨Nat.le_refl _, Nat.le_refl _⟩ ?_
          refine ⟨_, rfl, ⟨V', rfl, g1, Or.inr ⟨rfl, fun ht => ?_⟩⟩, rfl⟩
          rcases g2R with ⟨h, _⟩ | ⟨j, h, h2, h3⟩
          · exact c2 h
          · exact c3 (h3.trans (ht j i h.1 (by omega) hai (by omega) (by rw [h2, hRe])))
  refine key a ha (Nat.le_refl _) _ _ _ _ _ ?_ ?_ ?_
  · intro z hz; rw [up_ne _ _ hz]
  · intro q hq; rw [up_eq, if_pos hq]; exact Or.inl ⟨rfl, fun j h1 h2 => absurd h2 (by omega)⟩
  · intro i j h1 h2; omega
theorem c_someTrial {p a b : Nat} (hy : zFi L y) (hw : L w = some (sW r)) (hr : L r = some (sA len)) (hm : len < 2 ^ 31) (hT : ∀ V, zTr (gH h0 L V) t J X) (hI : tI J X T) (hk : tR T) (hp : p < T 7 0) (ha : a ≤ b) (hb : b ≤ len) (hok : ∀ i, a ≤ i → i < b → ∀ q, q < T 7 0 → ∀ so, so < 4 → (1 ≤ sI (V r i) q ∧ sI (V r i) q < 2 ^ T 2 0) ∧ ansF T q so (sI (V r i) q) 0 < 60) (hry : r < y ∨ y + 5 < r) : zPi G MX0_someTrialTells 4 [.ref y, .ref t, .ref w, .int (nI p), .int (nI a), .int (nI b)] (gH h0 L V) n (fun v h' => ∃ V', h' = gH h0 L V' ∧ (∀ z, z ≠ y + 4 → V' z = V z) ∧ ((v = nI 1 ∧ ∃ k, k < 4 * T 7 0 ∧ tel T (V r) k p a b) ∨ (v = nI 0 ∧ ∀ k, k < 4 * T 7 0 → ¬ tel T (V r) k p a b))) := by
  refine zCt.of rfl (Nat.le_of_ble_eq_true rfl) rfl ?_
  have k7 := hk.2.1
  refine x_iconst (v := nI 0) dX0_someTrialTells_0 (by decide) ?_
  refine x_is6 dX0_someTrialTells_1 (by decide) rfl ?_
  refine z_up (4 * T 7 0) (P := fun k => ∀ V' : Nat → Nat → Nat, (∀ z, z ≠ y + 4 → V' z = V z) → (∀ k', k' < k → ¬ tel T (V r) k' p a b) → zEx G MX0_someTrialTells 4 0 0 3 [some (.ref y), some (.ref t), some (.ref w), some (.int (nI p)), some (.int (nI a)), some (.int (nI b)), some (.int (nI k))] [] (gH h0 L V') n (0, 0) _) ?_ 0 (by omega) V (fun _ _ => rfl) (fun k' h => absurd h (by omega))
  intro k hk4 ih V' g1 g2
  have er : V' r = V r := g1 r (by omega)
  refine x_iload dX0_someTrialTells_3 rfl ?_
  refine x_aload_n dX0_someTrialTells_5 rfl ?_
  refine x_cVi0 dX0_someTrialTells_6 lkX0_121 mdX5_trials isX5_trials rfl rfl (And.left (hT _)) (by decide) (c_trials (hT _) hI hk) (Nat.le_of_ble_eq_true rfl) ⟨Nat.le_refl _, Nat.le_refl _⟩ ?_
  refine n_icmp_ge (tgt := 36) dX0_someTrialTells_9 (by decide) (by omega) (by omega) (fun c1 => ?_) (fun c1 => ?_)
  · refine x_iconst (v := nI 0) dX0_someTrialTells_36 (by decide) ?_
    refine x_iret dX0_someTrialTells_37 rfl (nar_b false) ⟨Nat.le_refl _, Nat.le_refl _⟩ ?_
    exact ⟨_, rfl, ⟨V', rfl, g1, Or.inr ⟨rfl, fun k' h => g2 k' (by omega)⟩⟩, rfl⟩
  · have ct := c_tells (G := G) (n := n) (V := V') (k := k) (p := p) (a := a) (b := b) hy hw hr hm hT hI hk (by omega) hp ha hb (by rw [er]; exact hok) hry
    rw [er] at ct
    refine x_aload_n dX0_someTrialTells_12 rfl ?_
    refine x_aload_n dX0_someTrialTells_13 rfl ?_
    refine x_aload_n dX0_someTrialTells_14 rfl ?_
    refine x_iload dX0_someTrialTells_15 rfl ?_
    refine x_iload_n dX0_someTrialTells_17 rfl ?_
    refine x_iload dX0_someTrialTells_18 rfl ?_
    refine x_iload dX0_someTrialTells_20 rfl ?_
    refine x_cVI6 dX0_someTrialTells_22 lkX0_132 mdX0_tells isX0_tells rfl rfl (g_c (And.left hy)) (by decide) (ct) (Nat.le_of_ble_eq_true rfl) ⟨Nat.le_refl _, Nat.le_refl _⟩ ?_
    rintro v h' ⟨V2, rfl, f1, f2⟩
    have g1' : ∀ z, z ≠ y + 4 → V2 z = V z := fun z hz => (f1 z hz).trans (g1 z hz)
    rcases f2 with ⟨rfl, f2⟩ | ⟨rfl, f2⟩
    · refine b_if_eq (b := true) (tgt := 30) dX0_someTrialTells_25 (by decide) (fun z => by cases z) (fun _ => ?_)
      refine x_iconst (v := nI 1) dX0_someTrialTells_28 (by decide) ?_
      refine x_iret dX0_someTrialTells_29 rfl (nar_b true) ⟨Nat.le_refl _, Nat.le_refl _⟩ ?_
      exact ⟨_, rfl, ⟨V2, rfl, g1', Or.inl ⟨rfl, k, by omega, f2⟩⟩, rfl⟩
    · refine b_if_eq (b := false) (tgt := 30) dX0_someTrialTells_25 (by decide) (fun _ => ?_) (fun z => by cases z)
      refine n_ii6 (w := 1) dX0_someTrialTells_30 (by decide) (by decide) rfl ?_
      refine x_goto (tgt := 3) dX0_someTrialTells_33 (by decide) ?_
      refine ih (by omega) V2 g1' (fun k' h => ?_)
      by_cases e : k' = k
      · subst e; exact f2
      · exact g2 k' (by omega)
theorem c_listReplies {p so : Nat} (hy : zFi L y) (hT : ∀ V, zTr (gH h0 L V) t J X) (hI : tI J X T) (hk : tR T) (hp : p < T 7 0) (hso : so < 4) : zPv G MX0_listReplies 3 [.ref y, .ref t, .int (nI p), .int (nI so)] (gH h0 L V) n (fun h' => ∃ V', h' = gH h0 L V' ∧ (∀ z, z ≠ y + 5 → V' z = V z) ∧ ∀ s, 1 ≤ s → s < 2 ^ T 2 0 → V' (y + 5) s = ansF T p so s 0) := by
  refine zCt.of rfl (Nat.le_of_ble_eq_true rfl) rfl ?_
  have k2 := hk.1
  have k7 := hk.2.1
  have e24 := hI.1.1
  have hTb := fun V => (hT V).2.1
  have hpow : 2 ^ T 2 0 ≤ 256 := (Nat.pow_le_pow_right (by decide) k2 : 2 ^ T 2 0 ≤ 2 ^ 8)
  have hp1 := Nat.two_pow_pos (T 2 0)
  refine x_iconst (v := nI 1) dX0_listReplies_0 (by decide) ?_
  refine x_is4 dX0_listReplies_1 (by decide) rfl ?_
  refine z_up (2 ^ T 2 0) (P := fun s => 1 ≤ s → ∀ V' : Nat → Nat → Nat, (∀ z, z ≠ y + 5 → V' z = V z) → (∀ s', 1 ≤ s' → s' < s → V' (y + 5) s' = ansF T p so s' 0) → zEx G MX0_listReplies 3 0 0 3 [some (.ref y), some (.ref t), some (.int (nI p)), some (.int (nI so)), some (.int (nI s))] [] (gH h0 L V') n (0, 0) _) ?_ 1 (by omega) (by omega) V (fun _ _ => rfl) (fun s' h h2 => absurd h2 (by omega))
  intro s hs ih hs1 V' g1 g2
  refine x_iload dX0_listReplies_3 rfl ?_
  refine x_iconst (v := nI 1) dX0_listReplies_5 (by decide) ?_
  refine x_aload_n dX0_listReplies_6 rfl ?_
  refine x_getf dX0_listReplies_7 flX0_151 (And.left (hT _)) rfl ?_
  refine x_getf dX0_listReplies_10 flX0_155 (hTb _) rfl ?_
  rw [e24]
  refine n_ishl dX0_listReplies_13 (by omega) ?_
  rw [Nat.one_mul]
  refine n_icmp_ge (tgt := 41) dX0_listReplies_14 (by decide) (by omega) (by omega) (fun c1 => ?_) (fun c1 => ?_)
  · have hse : s = 2 ^ T 2 0 := by omega
    subst hse
    refine x_vret dX0_listReplies_41 rfl ⟨Nat.le_refl _, Nat.le_refl _⟩ ?_
    exact ⟨rfl, ⟨V', rfl, g1, g2⟩, rfl⟩
  · refine x_aload_n dX0_listReplies_17 rfl ?_
    refine x_getf dX0_listReplies_18 flX0_24 (g_c (And.left hy)) rfl ?_
    refine x_iload dX0_listReplies_21 rfl ?_
    refine x_aload_n dX0_listReplies_23 rfl ?_
    refine x_iload_n dX0_listReplies_24 rfl ?_
    refine x_iload_n dX0_listReplies_25 rfl ?_
    refine x_iload dX0_listReplies_26 rfl ?_
    refine x_iconst (v := nI 0) dX0_listReplies_28 (by decide) ?_
    refine x_cVi4 dX0_listReplies_29 lkX0_73 mdX5_reply isX5_reply rfl rfl (And.left (hT _)) (by decide) (c_reply (hT _) hI hk hp hso (by omega) (by decide)) (Nat.le_of_ble_eq_true rfl) ⟨Nat.le_refl _, Nat.le_refl _⟩ ?_
    refine x_cSV3 dX0_listReplies_32 lkX0_136 mdX7_put stX7_put (by decide) (c_putN (g_c hy.2.2.2.2.2) (by decide) (by omega)) (Nat.le_of_ble_eq_true rfl) ⟨Nat.le_refl _, Nat.le_refl _⟩ ?_
    rintro h' rfl
    refine x_eqH (g_up hy.2.2.2.2.2 _) ?_
    refine n_ii4 (w := 1) dX0_listReplies_35 (by decide) (by decide) rfl ?_
    refine x_goto (tgt := 3) dX0_listReplies_38 (by decide) ?_
    refine ih (by omega) (by omega) _ ?_ ?_
    · intro z hz; rw [up_ne _ _ hz, g1 z hz]
    · intro s' h1 h2
      rw [up_eq]
      by_cases e : s' = s
      · subst e; rw [up_eq]
      · rw [up_ne _ _ e]; exact g2 s' h1 (by omega)
end ZS27
