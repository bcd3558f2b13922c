section ZS29
variable {G : zG} {n : Nat} {h0 : zF} {L : zSh} {V : Nat → Nat → Nat} {y w r len t w2 r2 len2 : Nat} {J : Nat → Nat} {X : Nat → Nat → Nat} {T : zT}
theorem c_eachGroup {p : Nat} {E : Nat → Nat} (hy : zFi L y) (hw : L w = some (sW r)) (hr : L r = some (sA len)) (hm : len < 2 ^ 31) (hT : ∀ V, zTr (gH h0 L V) t J X) (hI : tI J X T) (hk : tR T) (hp : p < T 7 0) (hE : ∀ q, q ≤ 64 → V (y + 3) q = E q ∧ E q ≤ len) (hok : ∀ q, q < 64 → ∀ i, E q ≤ i → i < E (q + 1) → ∀ p', p' < T 7 0 → ∀ so, so < 4 → (1 ≤ sI (V r i) p' ∧ sI (V r i) p' < 2 ^ T 2 0) ∧ ansF T p' so (sI (V r i) p') 0 < 60) (hry : r < y ∨ y + 5 < r) : zPi G MX0_eachGroupIsTold 5 [.ref y, .ref t, .ref w, .int (nI p)] (gH h0 L V) n (fun v h' => ∃ V', h' = gH h0 L V' ∧ (∀ z, z ≠ y + 4 → V' z = V z) ∧ ((v = nI 1 ∧ ∀ q, q < 64 → E q < E (q + 1) → ∃ k, k < 4 * T 7 0 ∧ tel T (V r) k p (E q) (E (q + 1))) ∨ (v = nI 0 ∧ ∃ q, q < 64 ∧ E q < E (q + 1) ∧ ∀ k, k < 4 * T 7 0 → ¬ tel T (V r) k p (E q) (E (q + 1))))) := by
  refine zCt.of rfl (Nat.le_of_ble_eq_true rfl) rfl ?_
  refine x_iconst (v := nI 0) dX0_eachGroupIsTold_0 (by decide) ?_
  refine x_is4 dX0_eachGroupIsTold_1 (by decide) rfl ?_
  refine z_up 64 (P := fun q => ∀ (V' : Nat → Nat → Nat) (o5 o6 : Option Value), (∀ z, z ≠ y + 4 → V' z = V z) → (∀ q', q' < q → E q' < E (q' + 1) → ∃ k, k < 4 * T 7 0 ∧ tel T (V r) k p (E q') (E (q' + 1))) → zEx G MX0_eachGroupIsTold 5 0 0 3 [some (.ref y), some (.ref t), some (.ref w), some (.int (nI p)), some (.int (nI q)), o5, o6] [] (gH h0 L V') n (0, 0) _) ?_ 0 (by omega) V _ _ (fun _ _ => rfl) (fun q' h => absurd h (by omega))
  intro q hq ih V' o5 o6 g1 g2
  have er : V' r = V r := g1 r (by omega)
  have es : V' (y + 3) = V (y + 3) := g1 _ (by omega)
  refine x_iload dX0_eachGroupIsTold_3 rfl ?_
  refine x_bipush (v := nI 64) dX0_eachGroupIsTold_5 (by decide) ?_
  refine n_icmp_ge (tgt := 63) dX0_eachGroupIsTold_7 (by decide) (by omega) (by omega) (fun c1 => ?_) (fun c1 => ?_)
  · refine x_iconst (v := nI 1) dX0_eachGroupIsTold_63 (by decide) ?_
    refine x_iret dX0_eachGroupIsTold_64 rfl (nar_b true) ⟨Nat.le_refl _, Nat.le_refl _⟩ ?_
    exact ⟨_, rfl, ⟨V', rfl, g1, Or.inl ⟨rfl, fun q' h => g2 q' (by omega)⟩⟩, rfl⟩
  · have hE0 := hE q (by omega)
    have hE1 := hE (q + 1) (by omega)
    have ca := c_atN (G := G) (n := n) (h := gH h0 L V') (j := q) (g_c hy.2.2.2.1) (by decide) (by omega)
    have cb := c_atN (G := G) (n := n) (h := gH h0 L V') (j := q + 1) (g_c hy.2.2.2.1) (by decide) (by omega)
    rw [es, hE0.1] at ca
    rw [es, hE1.1] at cb
    refine x_aload_n dX0_eachGroupIsTold_10 rfl ?_
    refine x_getf dX0_eachGroupIsTold_11 flX0_18 (g_c (And.left hy)) rfl ?_
    refine x_iload dX0_eachGroupIsTold_14 rfl ?_
    refine x_cSi2 dX0_eachGroupIsTold_16 lkX0_77 mdX7_at stX7_at (by decide) (ca) (Nat.le_of_ble_eq_true rfl) ⟨Nat.le_refl _, Nat.le_refl _⟩ ?_
    refine x_is5 dX0_eachGroupIsTold_19 (by decide) rfl ?_
    refine x_aload_n dX0_eachGroupIsTold_21 rfl ?_
    refine x_getf dX0_eachGroupIsTold_22 flX0_18 (g_c (And.left hy)) rfl ?_
    refine x_iload dX0_eachGroupIsTold_25 rfl ?_
    refine x_iconst (v := nI 1) dX0_eachGroupIsTold_27 (by decide) ?_
    refine n_iadd dX0_eachGroupIsTold_28 ?_
    refine x_cSi2 dX0_eachGroupIsTold_29 lkX0_77 mdX7_at stX7_at (by decide) (cb) (Nat.le_of_ble_eq_true rfl) ⟨Nat.le_refl _, Nat.le_refl _⟩ ?_
    refine x_is6 dX0_eachGroupIsTold_32 (by decide) rfl ?_
    refine x_iload dX0_eachGroupIsTold_34 rfl ?_
    refine x_iload dX0_eachGroupIsTold_36 rfl ?_
    refine n_icmp_ge (tgt := 57) dX0_eachGroupIsTold_38 (by decide) (by omega) (by omega) (fun c2 => ?_) (fun c2 => ?_)
    · refine n_ii4 (w := 1) dX0_eachGroupIsTold_57 (by decide) (by decide) rfl ?_
      refine x_goto (tgt := 3) dX0_eachGroupIsTold_60 (by decide) ?_
      refine ih (by omega) V' _ _ g1 (fun q' h h2 => ?_)
      by_cases e : q' = q
      · subst e; omega
      · exact g2 q' (by omega) h2
    · have ct := c_someTrial (G := G) (n := n) (V := V') (p := p) (a := E q) (b := E (q + 1)) hy hw hr hm hT hI hk hp (by omega) hE1.2 (by rw [er]; exact hok q (by omega)) hry
      rw [er] at ct
      refine x_aload_n dX0_eachGroupIsTold_41 rfl ?_
      refine x_aload_n dX0_eachGroupIsTold_42 rfl ?_
      refine x_aload_n dX0_eachGroupIsTold_43 rfl ?_
      refine x_iload_n dX0_eachGroupIsTold_44 rfl ?_
      refine x_iload dX0_eachGroupIsTold_45 rfl ?_
      refine x_iload dX0_eachGroupIsTold_47 rfl ?_
      refine x_cVI5 dX0_eachGroupIsTold_49 lkX0_117 mdX0_someTrialTells isX0_someTrialTells rfl rfl (g_c (And.left hy)) (by decide) (ct) (Nat.le_of_ble_eq_true rfl) ⟨Nat.le_refl _, Nat.le_refl _⟩ ?_
      rintro v h' ⟨V2, rfl, f1, f2⟩
      have g1' : ∀ z, z ≠ y + 4 → V2 z = V z := fun z hz => (f1 z hz).trans (g1 z hz)
      rcases f2 with ⟨rfl, f2⟩ | ⟨rfl, f2⟩
      · refine b_if_ne (b := true) (tgt := 57) dX0_eachGroupIsTold_52 (by decide) (fun _ => ?_) (fun z => by cases z)
        refine n_ii4 (w := 1) dX0_eachGroupIsTold_57 (by decide) (by decide) rfl ?_
        refine x_goto (tgt := 3) dX0_eachGroupIsTold_60 (by decide) ?_
        refine ih (by omega) V2 _ _ g1' (fun q' h h2 => ?_)
        by_cases e : q' = q
        · subst e; exact f2
        · exact g2 q' (by omega) h2
      · refine b_if_ne (b := false) (tgt := 57) dX0_eachGroupIsTold_52 (by decide) (fun z => by cases z) (fun _ => ?_)
        refine x_iconst (v := nI 0) dX0_eachGroupIsTold_55 (by decide) ?_
        refine x_iret dX0_eachGroupIsTold_56 rfl (nar_b false) ⟨Nat.le_refl _, Nat.le_refl _⟩ ?_
        exact ⟨_, rfl, ⟨V2, rfl, g1', Or.inr ⟨rfl, q, by omega, by omega, f2⟩⟩, rfl⟩
set_option maxRecDepth 100000 in
theorem c_fewest {p : Nat} {l : List Nat} (hy : zFi L y) (hw : L w = some (sW r)) (hr : L r = some (sA len)) (hm : len < 2 ^ 31) (hw2 : L w2 = some (sW r2)) (hr2 : L r2 = some (sA len2)) (hm2 : len2 < 2 ^ 31) (hl : isWs V w r l) (hln : l.length ≤ len) (hln2 : l.length ≤ len2) (hT : ∀ V, zTr (gH h0 L V) t J X) (hI : tI J X T) (hk : tR T) (hp : p < T 7 0) (hok : lOK T l) (hry : r < y ∨ y + 5 < r) (hry2 : r2 < y ∨ y + 5 < r2) (hrr : r ≠ r2) (hww : w ≠ w2) : zPi G MX0_fewest 6 [.ref y, .ref t, .ref w, .ref w2, .int (nI p)] (gH h0 L V) n (fun v h' => ∃ V', h' = gH h0 L V' ∧ (∀ z, z ≠ y + 3 → z ≠ y + 4 → z ≠ y + 5 → z ≠ w2 → z ≠ r2 → V' z = V z) ∧ fwP T l p v) := by
  refine zCt.of rfl (Nat.le_of_ble_eq_true rfl) rfl ?_
  have k7 := hk.2.1
  have hll := hok.2.2
  have ew : V w 1 = l.length := hl.1
  have w3 := ws_ne hw hy.2.2.2.1
  have w4 := ws_ne hw hy.2.2.2.2.1
  have w5 := ws_ne hw hy.2.2.2.2.2
  have wr2 := ws_ne hw hr2
  have w2r := ws_ne hw2 hr
  refine x_aload_n dX0_fewest_0 rfl ?_
  refine x_getf dX0_fewest_1 flX0_31 (g_c hw) rfl ?_
  rw [ew]
  by_cases hne : l = []
  · rw [hne]
    refine n_if_ne (tgt := 10) dX0_fewest_4 (by decide) (by decide) (fun c1 => absurd rfl c1) (fun c1 => ?_)
    refine x_bipush (v := -4) dX0_fewest_7 (by decide) ?_
    refine x_iret dX0_fewest_9 rfl rfl ⟨Nat.le_refl _, Nat.le_refl _⟩ ?_
    exact ⟨_, rfl, ⟨V, rfl, fun _ _ _ _ _ _ => rfl, Or.inl ⟨rfl, rfl⟩⟩, rfl⟩
  · have hpos : 0 < l.length := List.length_pos_iff.mpr hne
    refine n_if_ne (tgt := 10) dX0_fewest_4 (by decide) (by omega) (fun _ => ?_) (fun c1 => absurd c1 (by omega))
    have telLl : ∀ (f : Nat → Nat) k, arrIs f l → (tel T f k p 0 l.length ↔ telL T l k p) := by
      intro f k hf
      constructor
      · intro h x hx z hz he
        obtain ⟨j, hj, e⟩ := List.getElem_of_mem hx
        obtain ⟨j2, hj2, e2⟩ := List.getElem_of_mem hz
        have g1 := hf j hj
        have g2 := hf j2 hj2
        rw [List.getD_eq_getElem?_getD, List.getElem?_eq_getElem hj, Option.getD_some, e] at g1
        rw [List.getD_eq_getElem?_getD, List.getElem?_eq_getElem hj2, Option.getD_some, e2] at g2
        have := h j j2 (by omega) hj (by omega) hj2 (by rw [g1, g2]; exact he)
        rw [g1, g2] at this
        exact this
      · intro h i j _ hi _ hj he
        rw [hf i hi, hf j hj] at he ⊢
        exact h _ (getD_mem hi) _ (getD_mem hj) he
    refine x_aload_n dX0_fewest_10 rfl ?_
    refine x_aload_n dX0_fewest_11 rfl ?_
    refine x_iload dX0_fewest_12 rfl ?_
    refine x_cVI2 dX0_fewest_14 lkX0_113 mdX0_isKnown isX0_isKnown rfl rfl (g_c (And.left hy)) (by decide) (c_isKnownS hy hw hr hm hl hln (by omega) hne) (Nat.le_of_ble_eq_true rfl) ⟨Nat.le_refl _, Nat.le_refl _⟩ ?_
    rintro v h' ⟨rfl, (⟨rfl, hkn⟩ | ⟨rfl, hkn⟩)⟩
    · refine b_if_eq (b := true) (tgt := 22) dX0_fewest_17 (by decide) (fun z => by cases z) (fun _ => ?_)
      refine x_iconst (v := nI 0) dX0_fewest_20 (by decide) ?_
      refine x_iret dX0_fewest_21 rfl rfl ⟨Nat.le_refl _, Nat.le_refl _⟩ ?_
      exact ⟨_, rfl, ⟨V, rfl, fun _ _ _ _ _ _ => rfl, Or.inr ⟨hne, Or.inl ⟨hkn, rfl⟩⟩⟩, rfl⟩
    · refine b_if_eq (b := false) (tgt := 22) dX0_fewest_17 (by decide) (fun _ => ?_) (fun z => by cases z)
      refine x_aload_n dX0_fewest_22 rfl ?_
      refine x_aload_n dX0_fewest_23 rfl ?_
      refine x_aload_n dX0_fewest_24 rfl ?_
      refine x_iload dX0_fewest_25 rfl ?_
      refine x_iconst (v := nI 0) dX0_fewest_27 (by decide) ?_
      refine x_aload_n dX0_fewest_28 rfl ?_
      refine x_getf dX0_fewest_29 flX0_31 (g_c hw) rfl ?_
      rw [ew]
      refine x_cVI5 dX0_fewest_32 lkX0_117 mdX0_someTrialTells isX0_someTrialTells rfl rfl (g_c (And.left hy)) (by decide) (c_someTrial hy hw hr hm hT hI hk hp (Nat.zero_le _) hln (fun i _ hi => by rw [hl.2 i hi]; exact hok.1 _ (getD_mem hi)) hry) (Nat.le_of_ble_eq_true rfl) ⟨Nat.le_refl _, Nat.le_refl _⟩ ?_
      rintro v h' ⟨V1, rfl, f1, f2⟩
      rcases f2 with ⟨rfl, k, hk4, f2⟩ | ⟨rfl, f2⟩
      · refine b_if_eq (b := true) (tgt := 40) dX0_fewest_35 (by decide) (fun z => by cases z) (fun _ => ?_)
        refine x_iconst (v := nI 1) dX0_fewest_38 (by decide) ?_
        refine x_iret dX0_fewest_39 rfl rfl ⟨Nat.le_refl _, Nat.le_refl _⟩ ?_
        exact ⟨_, rfl, ⟨V1, rfl, fun z _ h _ _ _ => f1 z h, Or.inr ⟨hne, Or.inr (Or.inl ⟨hkn, ⟨k, hk4, (telLl _ k hl.2).mp f2⟩, rfl⟩)⟩⟩, rfl⟩
      · refine b_if_eq (b := false) (tgt := 40) dX0_fewest_35 (by decide) (fun _ => ?_) (fun z => by cases z)
        have hn1 : ¬ en1 T l p := by
          rintro ⟨k, hk4, h⟩
          exact f2 k hk4 ((telLl _ k hl.2).mpr h)
        refine x_iconst (v := nI 0) dX0_fewest_40 (by decide) ?_
        refine x_is5 dX0_fewest_41 (by decide) rfl ?_
        refine z_up (4 * T 7 0) (P := fun o => ∀ V' : Nat → Nat → Nat, (∀ z, z ≠ y + 3 → z ≠ y + 4 → z ≠ y + 5 → z ≠ w2 → z ≠ r2 → V' z = V z) → (∀ o', o' < o → ¬ en2 T l p o') → zEx G MX0_fewest 6 0 0 43 [some (.ref y), some (.ref t), some (.ref w), some (.ref w2), some (.int (nI p)), some (.int (nI o))] [] (gH h0 L V') n (0, 0) _) ?_ 0 (by omega) V1 (fun z _ h _ _ _ => f1 z h) (fun o' h => absurd h (by omega))
        intro o ho ih V' g1 g2
        refine x_iload dX0_fewest_43 rfl ?_
        refine x_aload_n dX0_fewest_45 rfl ?_
        refine x_cVi0 dX0_fewest_46 lkX0_121 mdX5_trials isX5_trials rfl rfl (And.left (hT _)) (by decide) (c_trials (hT _) hI hk) (Nat.le_of_ble_eq_true rfl) ⟨Nat.le_refl _, Nat.le_refl _⟩ ?_
        refine n_icmp_ge (tgt := 80) dX0_fewest_49 (by decide) (by omega) (by omega) (fun c1 => ?_) (fun c1 => ?_)
        · refine x_bipush (v := -4) dX0_fewest_80 (by decide) ?_
          refine x_iret dX0_fewest_82 rfl rfl ⟨Nat.le_refl _, Nat.le_refl _⟩ ?_
          refine ⟨_, rfl, ⟨V', rfl, g1, Or.inr ⟨hne, Or.inr (Or.inr (Or.inr ⟨hkn, hn1, ?_, rfl⟩))⟩⟩, rfl⟩
          rintro ⟨o', ho', h⟩
          exact g2 o' (by omega) h
        · have hl' : isWs V' w r l := ⟨by rw [g1 w w3 w4 w5 hww wr2]; exact hl.1, by rw [g1 r (by omega) (by omega) (by omega) (Ne.symm w2r) hrr]; exact hl.2⟩
          refine x_aload_n dX0_fewest_52 rfl ?_
          refine x_aload_n dX0_fewest_53 rfl ?_
          refine x_aload_n dX0_fewest_54 rfl ?_
          refine x_aload_n dX0_fewest_55 rfl ?_
          refine x_iload dX0_fewest_56 rfl ?_
          refine x_cVV4 dX0_fewest_58 lkX0_124 mdX0_group isX0_group rfl rfl (g_c (And.left hy)) (by decide) (c_group hy hw hr hm hw2 hr2 hm2 hl' hln hln2 hT hI hk (by omega) hok hry hry2 hrr hww) (Nat.le_of_ble_eq_true rfl) ⟨Nat.le_refl _, Nat.le_refl _⟩ ?_
          rintro h' ⟨V2, rfl, q1, q2, q3, q4⟩
          have hR60 : ∀ x ∈ l, aO T o x < 60 := fun x hx => (hok.1 x hx (o / 4) (by omega) (o % 4) (by omega)).2
          have tg : ∀ q, q < 64 → ∀ k, tel T (V2 r2) k p (eO T l o q) (eO T l o (q + 1)) ↔ telG T l o q k p := by
            intro q hq k
            constructor
            · intro h x hx z hz e1 e2 he
              obtain ⟨i, i1, i2, i3⟩ := q4 x hx
              obtain ⟨j, j1, j2, j3⟩ := q4 z hz
              rw [e1] at i1 i2
              rw [e2] at j1 j2
              have := h i j i1 i2 j1 j2 (by rw [i3, j3]; exact he)
              rw [i3, j3] at this
              exact this
            · intro h i j i1 i2 j1 j2 he
              have a1 := q3 q hq i i1 i2
              have a2 := q3 q hq j j1 j2
              exact h _ a1.1 _ a2.1 a1.2 a2.2 he
          have cg := c_eachGroup (G := G) (n := n) (V := V2) (p := p) (E := eO T l o) hy hw2 hr2 hm2 hT hI hk hp (fun q hq => ⟨q2 q hq, Nat.le_trans (eO_le T l o q) hln2⟩) (fun q hq i i1 i2 => hok.1 _ (q3 q hq i i1 i2).1) hry2
          refine x_aload_n dX0_fewest_61 rfl ?_
          refine x_aload_n dX0_fewest_62 rfl ?_
          refine x_aload_n dX0_fewest_63 rfl ?_
          refine x_iload dX0_fewest_64 rfl ?_
          refine x_cVI3 dX0_fewest_66 lkX0_128 mdX0_eachGroupIsTold isX0_eachGroupIsTold rfl rfl (g_c (And.left hy)) (by decide) (cg) (Nat.le_of_ble_eq_true rfl) ⟨Nat.le_refl _, Nat.le_refl _⟩ ?_
          rintro v h' ⟨V3, rfl, f1, f2⟩
          have g1' : ∀ z, z ≠ y + 3 → z ≠ y + 4 → z ≠ y + 5 → z ≠ w2 → z ≠ r2 → V3 z = V z := fun z h1 h2 h3 h4 h5 => (f1 z h2).trans ((q1 z h1 h3 h4 h5).trans (g1 z h1 h2 h3 h4 h5))
          rcases f2 with ⟨rfl, f2⟩ | ⟨rfl, q, hq, hlt, f2⟩
          · refine b_if_eq (b := true) (tgt := 74) dX0_fewest_69 (by decide) (fun z => by cases z) (fun _ => ?_)
            refine x_iconst (v := nI 2) dX0_fewest_72 (by decide) ?_
            refine x_iret dX0_fewest_73 rfl rfl ⟨Nat.le_refl _, Nat.le_refl _⟩ ?_
            refine ⟨_, rfl, ⟨V3, rfl, g1', Or.inr ⟨hne, Or.inr (Or.inr (Or.inl ⟨hkn, hn1, ⟨o, by omega, ?_⟩, rfl⟩))⟩⟩, rfl⟩
            intro q hq
            by_cases hlt : eO T l o q < eO T l o (q + 1)
            · obtain ⟨k, hk4, h⟩ := f2 q hq hlt
              exact ⟨k, hk4, (tg q hq k).mp h⟩
            · refine ⟨0, by omega, ?_⟩
              intro x hx z hz e1
              obtain ⟨i, i1, i2, _⟩ := q4 x hx
              rw [e1] at i1 i2
              omega
          · refine b_if_eq (b := false) (tgt := 74) dX0_fewest_69 (by decide) (fun _ => ?_) (fun z => by cases z)
            refine n_ii5 (w := 1) dX0_fewest_74 (by decide) (by decide) rfl ?_
            refine x_goto (tgt := 43) dX0_fewest_77 (by decide) ?_
            refine ih (by omega) V3 g1' (fun o' h => ?_)
            by_cases e : o' = o
            · subst e
              intro hen
              obtain ⟨k, hk4, h⟩ := hen q hq
              exact f2 k hk4 ((tg q hq k).mpr h)
            · exact g2 o' (by omega)
end ZS29
