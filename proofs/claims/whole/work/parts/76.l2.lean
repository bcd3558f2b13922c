section ZL2
variable {V X A A' : Nat → Nat → Nat} {c : Nat} {P J I I' : Nat → Nat} {L : zSh}
theorem kpA.eT (h : kpA A A') : eqT A A' := by
  have e : ∀ k j, kp k j → A k j = A' k j := fun k j q => (h k j q).symm
  refine ⟨⟨e _ _ ⟨by omega, by omega, by omega, by omega, by omega⟩, e _ _ ⟨by omega, by omega, by omega, by omega, by omega⟩, e _ _ ⟨by omega, by omega, by omega, by omega, by omega⟩, e _ _ ⟨by omega, by omega, by omega, by omega, by omega⟩⟩, fun t ht => ⟨e _ _ ⟨by omega, by omega, by omega, by omega, by omega⟩, e _ _ ⟨by omega, by omega, by omega, by omega, by omega⟩, e _ _ ⟨by omega, by omega, by omega, by omega, by omega⟩, e _ _ ⟨by omega, by omega, by omega, by omega, by omega⟩⟩, fun p hp => ⟨e _ _ ⟨by omega, by omega, by omega, by omega, by omega⟩, e _ _ ⟨by omega, by omega, by omega, by omega, by omega⟩, e _ _ ⟨by omega, by omega, by omega, by omega, by omega⟩, e _ _ ⟨by omega, by omega, by omega, by omega, by omega⟩, e _ _ ⟨by omega, by omega, by omega, by omega, by omega⟩⟩⟩
theorem kpA.row (h : kpA A A') {k : Nat} (hk : k = 1 ∨ (16 ≤ k ∧ k ≤ 19)) : A' k = A k := funext fun j => h k j ⟨by omega, by omega, by omega, by omega, by omega⟩
theorem eqT_ans {p so s f : Nat} (h : eqT A A') (h2 : A 2 0 ≤ 8) (hp : p < 4) : ansF A' p so s f = ansF A p so s f := by
  obtain ⟨⟨b1, b2, b3, b4⟩, b5, b6⟩ := h
  have e1 : ∀ kd, mnOf A' s kd = mnOf A s kd := by
    intro kd
    unfold mnOf
    rw [← b1]
    exact zsum_congr 0 _ (fun t ht => by rw [← (b5 t (by omega)).2.1])
  have e2 : wOf A' p s = wOf A p s := by
    unfold wOf
    rw [← b1, ← (b6 p hp).1]
    exact zsum_congr _ _ (fun t ht => by rw [← (b5 t (by omega)).1])
  unfold ansF
  rw [e2, e1, e1, e1, b3]
theorem eqT_fit {S : Nat → Nat} {w : Nat} (h : eqT A A') (h2 : A 2 0 ≤ 8) : ∀ k, fitT A' S w k = fitT A S w k
  | 0 => rfl
  | k + 1 => by
    unfold fitT
    rw [eqT_fit h h2 k, eqT_ans h h2 (Nat.mod_lt _ (by decide))]
theorem kpA.vwT (h : kpA A A') : eqT (vw A 0) (vw A' 0) := by
  have h := h.eT
  unfold eqT at h ⊢
  rw [vw0 (k := 2) (by decide) (by decide), vw0 (k := 7) (by decide) (by decide), vw0 (k := 11) (by decide) (by decide), vw0 (k := 12) (by decide) (by decide), vw0 (k := 3) (by decide) (by decide), vw0 (k := 4) (by decide) (by decide), vw0 (k := 5) (by decide) (by decide), vw0 (k := 6) (by decide) (by decide), vw0 (k := 8) (by decide) (by decide), vw0 (k := 9) (by decide) (by decide), vw0 (k := 10) (by decide) (by decide), vw0 (k := 13) (by decide) (by decide), vw0 (k := 14) (by decide) (by decide), vw0 (k := 2) (by decide) (by decide), vw0 (k := 7) (by decide) (by decide), vw0 (k := 11) (by decide) (by decide), vw0 (k := 12) (by decide) (by decide), vw0 (k := 3) (by decide) (by decide), vw0 (k := 4) (by decide) (by decide), vw0 (k := 5) (by decide) (by decide), vw0 (k := 6) (by decide) (by decide), vw0 (k := 8) (by decide) (by decide), vw0 (k := 9) (by decide) (by decide), vw0 (k := 10) (by decide) (by decide), vw0 (k := 13) (by decide) (by decide), vw0 (k := 14) (by decide) (by decide)]
  exact h
theorem kpA.wlE (h : kpA A A') (h2 : A 2 0 ≤ 8) (h7 : A 7 0 ≤ 4) : wl (vw A' 0) = wl (vw A 0) := (wl_eqW (eqT_eqW h.vwT (by rw [vw0 (k := 2) (by decide) (by decide)]; exact h2) (by rw [vw0 (k := 7) (by decide) (by decide)]; exact h7))).symm
theorem kpA.sc {S : Nat → Nat} (h : kpA A A') (h7 : A 7 0 ≤ 4) (q : scOK A S) : scOK A' S := by
  obtain ⟨⟨b1, b2, b3, b4⟩, b5, b6⟩ := h.eT
  obtain ⟨⟨s1, s2⟩, s3, s4, s5, s6⟩ := q
  refine ⟨⟨s1, fun k hk => by rw [← b2]; exact s2 k hk⟩, fun p hp => ?_, fun p q hp hq => s4 p q (by omega) (by omega), fun p hp => s5 p (by omega), s6⟩
  rw [← b1, ← (b6 p (by omega)).2.2.1]
  exact s3 p (by omega)
theorem kpA.lfE (h : kpA A A') (h2 : A 2 0 ≤ 8) (k w : Nat) : lf A' k w = lf A k w := by
  unfold lf; rw [eqT_fit h.eT h2, h.row (k := 17) (by omega), h.row (k := 16) (by omega)]
theorem kpA.jd (h : kpA A A') (h2 : A 2 0 ≤ 8) (i17 : I' 17 = I 17) : ∀ r k, jdF I' A' r k = jdF I A r k
  | 0, _ => rfl
  | r + 1, k => by
    unfold jdF
    have : nLeft A' (k + 1) (I' 17) = nLeft A (k + 1) (I 17) := by
      rw [i17]; unfold nLeft; exact zsum_congr 0 _ (fun w _ => by rw [h.lfE h2])
    rw [this, kpA.jd h h2 i17 r (k + 1)]
theorem kV.kp (h : kV V c P J X I A) (e : kpA A A') (i0 : I' 0 = I 0) (i17 : I' 17 = I 17) (i20 : I' 20 = I 20) (i22 : I' 22 = I 22) : kV V c P J X I' A' := by
  obtain ⟨a1, a2, a3, a4, a5, a6, a7⟩ := h
  have h2 := a2.2.1.1
  have h7 := a2.2.1.2.1
  have r1 := e.row (k := 1) (by omega)
  have r16 := e.row (k := 16) (by omega)
  have r17 := e.row (k := 17) (by omega)
  have r18 := e.row (k := 18) (by omega)
  have r19 := e.row (k := 19) (by omega)
  refine ⟨a1.co i0 r1, ⟨tI_eqT e.eT h2 h7 a2.1, tR_eqT e.eT a2.2.1, ?_, ?_⟩, ?_, ⟨?_, ?_⟩, ?_, ?_, ?_⟩
  · rw [← e.eT.1.2.1]; exact a2.2.2.1
  · rw [← e.eT.1.1]; exact a2.2.2.2
  · unfold kWl at a3 ⊢; rw [e.wlE h2 h7, i17, r16]; exact a3
  · rw [r17]; exact a4.1
  · rw [r17]; exact e.sc h7 a4.2
  · obtain ⟨b1, b2, b3, b4, b5⟩ := a5
    refine ⟨by rw [i20]; exact b1, by rw [i20]; exact b2, b3, b4, fun u hu => ?_⟩
    rw [r18]
    rw [i20] at hu
    exact ⟨(b5 u hu).1, e.sc h7 (b5 u hu).2⟩
  · obtain ⟨b1, b2, b3, b5⟩ := a6
    refine ⟨by rw [i22]; exact b1, by rw [i22]; exact b2, b3, fun u hu => ?_⟩
    rw [r19]
    rw [i22] at hu
    exact ⟨(b5 u hu).1, e.sc h7 (b5 u hu).2⟩
  · have hr : ∀ k, remL A' k = remL A k := by
      intro k
      unfold remL
      rw [e.wlE h2 h7, r17]
      congr 1
      funext x
      rw [eqT_fit e.eT h2]
    unfold kSt at a7 ⊢
    rw [hr, r17, e.jd h2 i17]; exact a7
/-- what the reference's rows ask of the state -/
def kF (I : Nat → Nat) (A : Nat → Nat → Nat) : Prop := (tR A) ∧ (1 ≤ A 7 0) ∧ (1 ≤ A 2 0) ∧ (A 2 0 ≤ 8) ∧ (A 7 0 ≤ 4) ∧ (sOK A (A 17)) ∧ (I 17 ≤ 5040) ∧ (0 < I 17) ∧ (a60 A (I 17)) ∧ (∀ w, w < I 17 → A 16 w < 2 ^ 32) ∧ (∀ p, p < 4 → A 17 p < 256) ∧ (∀ p, p < 4 → A 17 (4 + p) ≤ 9) ∧ (I 20 ≤ 8) ∧ (I 22 ≤ 2) ∧ (I 0 ≤ 200) ∧ (∀ j, ltr I A j < 128) ∧ (∀ k, k < 4 → A 13 k ≤ 9)
theorem kF.tr (f : kF I A) : tR A := f.1
theorem kF.p1 (f : kF I A) : 1 ≤ A 7 0 := f.2.1
theorem kF.t1 (f : kF I A) : 1 ≤ A 2 0 := f.2.2.1
theorem kF.t8 (f : kF I A) : A 2 0 ≤ 8 := f.2.2.2.1
theorem kF.p4 (f : kF I A) : A 7 0 ≤ 4 := f.2.2.2.2.1
theorem kF.sk (f : kF I A) : sOK A (A 17) := f.2.2.2.2.2.1
theorem kF.w5 (f : kF I A) : I 17 ≤ 5040 := f.2.2.2.2.2.2.1
theorem kF.w0 (f : kF I A) : 0 < I 17 := f.2.2.2.2.2.2.2.1
theorem kF.w6 (f : kF I A) : a60 A (I 17) := f.2.2.2.2.2.2.2.2.1
theorem kF.w3 (f : kF I A) : ∀ w, w < I 17 → A 16 w < 2 ^ 32 := f.2.2.2.2.2.2.2.2.2.1
theorem kF.s2 (f : kF I A) : ∀ p, p < 4 → A 17 p < 256 := f.2.2.2.2.2.2.2.2.2.2.1
theorem kF.s9 (f : kF I A) : ∀ p, p < 4 → A 17 (4 + p) ≤ 9 := f.2.2.2.2.2.2.2.2.2.2.2.1
theorem kF.u8 (f : kF I A) : I 20 ≤ 8 := f.2.2.2.2.2.2.2.2.2.2.2.2.1
theorem kF.k2 (f : kF I A) : I 22 ≤ 2 := f.2.2.2.2.2.2.2.2.2.2.2.2.2.1
theorem kF.l2 (f : kF I A) : I 0 ≤ 200 := f.2.2.2.2.2.2.2.2.2.2.2.2.2.2.1
theorem kF.l1 (f : kF I A) : ∀ j, ltr I A j < 128 := f.2.2.2.2.2.2.2.2.2.2.2.2.2.2.2.1
theorem kF.r9 (f : kF I A) : ∀ k, k < 4 → A 13 k ≤ 9 := f.2.2.2.2.2.2.2.2.2.2.2.2.2.2.2.2
theorem kV.ft (h : kV V c P J X I A) : kF I A := by
  obtain ⟨a1, a2, a3, a4, a5, a6, a7⟩ := h
  have hk := a2.2.1
  have hW := a3.2.1
  refine ⟨hk, a2.2.2.1, a2.2.2.2, hk.1, hk.2.1, a4.2.1, by rw [hW]; exact wl_len (tR_vw.mpr hk), a3.2.2.2.1, by rw [hW]; exact wl_a60 hk a3.2.2.1, fun w hw => ?_, fun p hp => ?_, a4.2.2.2.2.2, a5.2.1, a6.2.1, a1.2.1, (lt_ltr a1).2, fun k hk2 => (hk.2.2.2.2.2.2 k hk2).1⟩
  · rw [hW] at hw
    rw [a3.2.2.1 w hw]
    rw [List.getD_eq_getElem?_getD, List.getElem?_eq_getElem hw]
    exact (wl_ok hk).1.2.1 _ (List.getElem_mem hw)
  · by_cases q : p < A 7 0
    · exact Nat.lt_of_lt_of_le (a4.2.2.1 p q).1 (Nat.le_trans (Nat.pow_le_pow_right (by decide) hk.1) (by decide))
    · rw [a4.2.2.2.2.1 p (by omega) hp]; decide
end ZL2
section ZL3
variable {G : zG} {M : zM} {k mc ms pc n : Nat} {lv : List (Option Value)} {st : List Value} {h : zF} {u : Nat × Nat} {Q : zQ}
theorem l_sld {j : Nat} (hd : decode M.2.1 pc = .ok (.iaload, 1)) (hj : j < G.2.2.2.1.2.1) (hm : G.2.2.2.1.2.1 ≤ 256) (K : zEx G M k mc ms (pc + 1) lv (.int (G.2.2.2.1.2.2 j) :: st) h n u Q) : zEx G M k mc ms pc lv (.int (nI j) :: .ref G.2.2.2.1.1 :: st) h n u Q := by
  refine x_sld hd (vp_in_nI hj (by omega)) ?_
  rw [nI_clamp (by omega)]
  exact K
end ZL3
def ML_law : zM := (yL_law, cL_law, 4, some .boolean)
/-- the law's locals -/
abbrev lV (G : zG) (c a i : Nat) : List (Option Value) := [some (.ref G.2.2.2.1.1), some (.ref c), some (.ref a), some (.int (nI i))]
/-- on with the next row of the script, whatever state was reached -/
def lGo (G : zG) (a c i : Nat) (u : Nat × Nat) (Q : zQ) : Prop := ∀ (h2 : zF) (n : Nat) (I : Nat → Nat) (A : Nat → Nat → Nat) (B P J : Nat → Nat) (X : Nat → Nat → Nat) (J' : Nat → Nat) (X' : Nat → Nat → Nat) (L : zSh) (V : Nat → Nat → Nat), lI h2 a c n I A P J X X' L V → zEx G ML_law 20 600000 7302250 957 (lV G c a i) [] (hp h2 a I A B (P 1) J' X' L V) n (u.1 + 3, u.2 + 15120) Q
theorem lGo.go {G : zG} {a c i n : Nat} {u : Nat × Nat} {Q : zQ} {h2 : zF} {I B P J J' : Nat → Nat} {A X X' V : Nat → Nat → Nat} {L : zSh} (K : lGo G a c i u Q) (hI : lI h2 a c n I A P J X X' L V) : zEx G ML_law 20 600000 7302250 957 (lV G c a i) [] (hp h2 a I A B (P 1) J' X' L V) n u Q := zEx.widen (u' := (u.1 + 3, u.2 + 15120)) (Nat.le_add_right _ _) (Nat.le_add_right _ _) (K h2 n I A B P J X J' X' L V hI)
theorem lI.tr {h2 : zF} {a c n : Nat} {I B P J J' : Nat → Nat} {A X X' V : Nat → Nat → Nat} {L : zSh} (h : lI h2 a c n I A P J X X' L V) : ∀ V, zTr (gH (tH (mH h2 a I A B) (P 1) J' X') L V) (P 0) J X := fun V => tr2 h.2.1 (tr_m h.1 h.bd.1) V
