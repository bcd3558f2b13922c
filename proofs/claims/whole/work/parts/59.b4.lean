section ZB5
variable {T T' : zT}
/-- what the worlds hang on -/
def eqW (T T' : zT) : Prop := (T 2 0 = T' 2 0 ∧ T 7 0 = T' 7 0 ∧ T 12 0 = T' 12 0) ∧ (∀ t, t < T 2 0 → T 5 t = T' 5 t) ∧ ∀ p, p < T 7 0 → T 9 p = T' 9 p ∧ T 10 p = T' 10 p
theorem wr_eqW (h : eqW T T') (s : Nat) : wr T s (T 2 0) = wr T' s (T' 2 0) := by
  rw [← h.1.1]; unfold wr; exact zsum_congr 0 _ (fun t ht => by rw [h.2.1 t ht])
theorem wC_eqW (h : eqW T T') (w c : Nat) : wC T w c (T 7 0) = wC T' w c (T' 7 0) := by
  rw [← h.1.2.1]; unfold wC; exact zsum_congr 0 _ (fun p hp => by rw [(h.2.2 p hp).1, wr_eqW h])
theorem anyC_eqW (h : eqW T T') (c : Nat) : ∀ P, P ≤ T 7 0 → anyC T c P = anyC T' c P
  | 0, _ => rfl
  | P + 1, hP => by unfold anyC; rw [anyC_eqW h c P (by omega), (h.2.2 P (by omega)).1]
theorem fairT_eqW (h : eqW T T') (w : Nat) : fairT T w = fairT T' w := by
  unfold fairT
  rw [wC_eqW h, wC_eqW h, anyC_eqW h 0 _ (Nat.le_refl _), anyC_eqW h 1 _ (Nat.le_refl _), h.1.2.1, h.1.2.2]
theorem lev_eqW (h : eqW T T') : ∀ p, p ≤ T 7 0 → lev T p = lev T' p
  | 0, _ => rfl
  | p + 1, hp => by
    unfold lev
    rw [levTo_flat T p _ _ (Nat.le_refl _), levTo_flat T' p _ _ (Nat.le_refl _), List.take_length, List.take_length, lev_eqW h p (by omega)]
    congr 1
    funext x
    rw [extTo_range, extTo_range, (h.2.2 p (by omega)).2, h.1.1]
theorem wl_eqW (h : eqW T T') : wl T = wl T' := by
  unfold wl
  rw [filTo_flat T _ _ (Nat.le_refl _), filTo_flat T' _ _ (Nat.le_refl _), List.take_length, List.take_length, lev_eqW h _ (Nat.le_refl _), h.1.2.1]
  congr 1
  funext x
  rw [fairT_eqW h]
theorem eqT_eqW (h : eqT T T') (h2 : T 2 0 ≤ 8) (h7 : T 7 0 ≤ 4) : eqW T T' := ⟨⟨h.1.1, h.1.2.1, h.1.2.2.2⟩, fun t ht => (h.2.1 t (by omega)).2.2.1, fun p hp => ⟨(h.2.2 p (by omega)).2.1, (h.2.2 p (by omega)).2.2.1⟩⟩
/-- a tree's cells hang on no more than this -/
theorem tI_eqT {J : Nat → Nat} {X : Nat → Nat → Nat} (h : eqT T T') (h2 : T 2 0 ≤ 8) (h7 : T 7 0 ≤ 4) (hI : tI J X T) : tI J X T' := by
  obtain ⟨⟨a1, a2, a3, a4⟩, a5, a6, a7, a8, a9, a10⟩ := hI
  obtain ⟨⟨b1, b2, b3, b4⟩, b5, b6⟩ := id h
  refine ⟨⟨by rw [← b1]; exact a1, by rw [← b2]; exact a2, by rw [← b3]; exact a3, by rw [← b4]; exact a4⟩, ?_, ?_, ?_, ?_, by rw [← b1]; exact a9, ?_⟩
  · intro t ht
    rw [← b1] at ht
    have q := b5 t (by omega)
    rw [← q.1, ← q.2.1, ← q.2.2.1, ← q.2.2.2]; exact a5 t ht
  · intro p hp
    rw [← b2] at hp
    have q := b6 p (by omega)
    rw [← q.1, ← q.2.1, ← q.2.2.1]; exact a6 p hp
  · intro k hk
    have q := b6 k hk
    rw [← q.2.2.2.1, ← q.2.2.2.2]; exact a7 k hk
  · intro s hs
    rw [← b1] at hs ⊢
    have q := a8 s hs
    refine ⟨q.1.trans (zsum_congr 0 _ (fun t ht => by rw [(b5 t (by omega)).1])), q.2.1.trans ?_, q.2.2.trans (zprod_congr _ (fun t ht => by rw [(b5 t (by omega)).2.2.2]))⟩
    have := wr_eqW (eqT_eqW h h2 h7) s
    rw [← b1] at this
    exact this
  · intro t ht
    rw [← b1] at ht
    rw [← (b5 t (by omega)).2.1]; exact a10 t ht
theorem tR_eqT (h : eqT T T') (hk : tR T) : tR T' := by
  obtain ⟨a1, a2, a3, a4, a5, a6, a7⟩ := hk
  obtain ⟨⟨b1, b2, b3, b4⟩, b5, b6⟩ := h
  refine ⟨by omega, by omega, ?_, ?_, by omega, by omega, ?_⟩
  · intro t ht
    have q := b5 t (by omega)
    rw [← q.1, ← q.2.1, ← q.2.2.1, ← q.2.2.2]; exact a3 t (by omega)
  · intro p hp
    have q := b6 p (by omega)
    rw [← q.1, ← q.2.1, ← q.2.2.1]; exact a4 p (by omega)
  · intro k hk
    have q := b6 k hk
    rw [← q.2.2.2.1, ← q.2.2.2.2]; exact a7 k hk
theorem tOK_tR (h : tOK T) : tR T := ⟨h.1, h.2.1, h.2.2.1, h.2.2.2.1, h.2.2.2.2.1, h.2.2.2.2.2.1, h.2.2.2.2.2.2.1⟩
end ZB5
section ZB6
variable {V : Nat → Nat → Nat} {c : Nat} {P J I I' : Nat → Nat} {X A A' : Nat → Nat → Nat}
/-- the rows of the tree are the same -/
def rwE (A A' : Nat → Nat → Nat) : Prop := ∀ k, 2 ≤ k → k ≤ 14 → A' k = A k
theorem rwE.vwE (h : rwE A A') : eqW (vw A 0) (vw A' 0) := by
  have e : ∀ k, 2 ≤ k → k ≤ 14 → vw A' 0 k = vw A 0 k := fun k h1 h2 => by rw [vw0 h1 (by omega), vw0 h1 (by omega), h k h1 h2]
  refine ⟨⟨?_, ?_, ?_⟩, fun t _ => ?_, fun p _ => ⟨?_, ?_⟩⟩ <;> rw [e _ (by decide) (by decide)]
theorem rwE.wlE (h : rwE A A') : wl (vw A' 0) = wl (vw A 0) := (wl_eqW h.vwE).symm
theorem rwE.ans (h : rwE A A') (p so s f : Nat) : ansF A' p so s f = ansF A p so s f := by
  unfold ansF wOf mnOf
  rw [h 8 (by decide) (by decide), h 3 (by decide) (by decide), h 2 (by decide) (by decide), h 4 (by decide) (by decide), h 11 (by decide) (by decide)]
theorem rwE.fit (h : rwE A A') (S : Nat → Nat) (w : Nat) : ∀ k, fitT A' S w k = fitT A S w k
  | 0 => rfl
  | k + 1 => by unfold fitT; rw [h.fit S w k, h.ans]
theorem rwE.sc (h : rwE A A') {S : Nat → Nat} (hs : scOK A S) : scOK A' S := by
  unfold scOK sOK at hs ⊢
  rw [h 7 (by decide) (by decide), h 2 (by decide) (by decide), h 10 (by decide) (by decide)]
  exact hs
theorem kTr.co (h : kTr J X A) (e : rwE A A') : kTr J X A' := by
  unfold kTr tI tR wr at h ⊢
  rw [e 2 (by decide) (by decide), e 3 (by decide) (by decide), e 4 (by decide) (by decide), e 5 (by decide) (by decide), e 6 (by decide) (by decide), e 7 (by decide) (by decide), e 8 (by decide) (by decide), e 9 (by decide) (by decide), e 10 (by decide) (by decide), e 11 (by decide) (by decide), e 12 (by decide) (by decide), e 13 (by decide) (by decide), e 14 (by decide) (by decide)]
  exact h
theorem kTx.co (h : kTx V c I A) (e0 : I' 0 = I 0) (e1 : A' 1 = A 1) : kTx V c I' A' := by
  unfold kTx at h ⊢; rw [e0, e1]; exact h
theorem kWl.co (h : kWl V c P I A) (e : rwE A A') (e17 : I' 17 = I 17) (e16 : A' 16 = A 16) : kWl V c P I' A' := by
  unfold kWl at h ⊢; rw [e.wlE, e17, e16]; exact h
theorem kNw.co (h : kNw V c A) (e : rwE A A') (e17 : A' 17 = A 17) : kNw V c A' := by
  refine ⟨?_, ?_⟩
  · rw [e17]; exact h.1
  · rw [e17]; exact e.sc h.2
theorem kUn.co (h : kUn V c I A) (e : rwE A A') (e20 : I' 20 = I 20) (e18 : A' 18 = A 18) : kUn V c I' A' := by
  obtain ⟨a1, a2, a3, a4, a5⟩ := h
  refine ⟨by rw [e20]; exact a1, by rw [e20]; exact a2, a3, a4, fun u hu => ?_⟩
  rw [e18]
  rw [e20] at hu
  exact ⟨(a5 u hu).1, e.sc (a5 u hu).2⟩
theorem kKe.co (h : kKe V c I A) (e : rwE A A') (e22 : I' 22 = I 22) (e19 : A' 19 = A 19) : kKe V c I' A' := by
  obtain ⟨a1, a2, a3, a5⟩ := h
  refine ⟨by rw [e22]; exact a1, by rw [e22]; exact a2, a3, fun u hu => ?_⟩
  rw [e19]
  rw [e22] at hu
  exact ⟨(a5 u hu).1, e.sc (a5 u hu).2⟩
theorem rwE.lfE (e : rwE A A') (e17 : A' 17 = A 17) (e16 : A' 16 = A 16) (k w : Nat) : lf A' k w = lf A k w := by
  unfold lf; rw [e.fit, e17, e16]
theorem rwE.jd (e : rwE A A') (e17 : A' 17 = A 17) (e16 : A' 16 = A 16) (i17 : I' 17 = I 17) : ∀ r k, jdF I' A' r k = jdF I A r k
  | 0, _ => rfl
  | r + 1, k => by
    unfold jdF
    have : nLeft A' (k + 1) (I' 17) = nLeft A (k + 1) (I 17) := by
      rw [i17]; unfold nLeft; exact zsum_congr 0 _ (fun w _ => by rw [e.lfE e17 e16])
    rw [this, e.jd e17 e16 i17 r (k + 1)]
theorem rwE.rem (e : rwE A A') (e17 : A' 17 = A 17) (k : Nat) : remL A' k = remL A k := by
  unfold remL
  rw [e.wlE, e17]
  congr 1
  funext x
  rw [e.fit]
theorem kSt.co (h : kSt V c P I A) (e : rwE A A') (e17 : A' 17 = A 17) (e16 : A' 16 = A 16) (i17 : I' 17 = I 17) : kSt V c P I' A' := by
  unfold kSt at h ⊢
  rw [e.rem e17, e17, e.jd e17 e16 i17]; exact h
theorem kV.co (h : kV V c P J X I A) (e : rwE A A') (e1 : A' 1 = A 1) (e16 : A' 16 = A 16) (e17 : A' 17 = A 17) (e18 : A' 18 = A 18) (e19 : A' 19 = A 19) (i0 : I' 0 = I 0) (i17 : I' 17 = I 17) (i20 : I' 20 = I 20) (i22 : I' 22 = I 22) : kV V c P J X I' A' := by
  obtain ⟨a1, a2, a3, a4, a5, a6, a7⟩ := h
  exact ⟨a1.co i0 e1, a2.co e, a3.co e i17 e16, a4.co e e17, a5.co e i20 e18, a6.co e i22 e19, a7.co e e17 e16 i17⟩
end ZB6
