section ZB3
variable {A : Nat → Nat → Nat} {T : zT}
theorem vw0 {k : Nat} (h1 : 2 ≤ k) (h2 : k ≤ 15) : vw A 0 k = A k := by
  funext j
  unfold vw
  by_cases c1 : k = 2 ∨ k = 7 ∨ k = 11 ∨ k = 12
  · rw [if_pos c1, Nat.zero_add]
  · rw [if_neg c1]
    by_cases c2 : 3 ≤ k ∧ k ≤ 6
    · rw [if_pos c2, Nat.mul_zero, Nat.zero_add]
    · rw [if_neg c2]
      by_cases c3 : (8 ≤ k ∧ k ≤ 10) ∨ k = 13 ∨ k = 14
      · rw [if_pos c3, Nat.mul_zero, Nat.zero_add]
      · rw [if_neg c3, if_pos (by omega)]
theorem tI_vw {J : Nat → Nat} {X : Nat → Nat → Nat} : tI J X (vw A 0) ↔ tI J X A := by
  unfold tI wr
  rw [vw0 (k := 2) (by decide) (by decide), vw0 (k := 3) (by decide) (by decide), vw0 (k := 4) (by decide) (by decide), vw0 (k := 5) (by decide) (by decide), vw0 (k := 6) (by decide) (by decide), vw0 (k := 7) (by decide) (by decide), vw0 (k := 8) (by decide) (by decide), vw0 (k := 9) (by decide) (by decide), vw0 (k := 10) (by decide) (by decide), vw0 (k := 11) (by decide) (by decide), vw0 (k := 12) (by decide) (by decide), vw0 (k := 13) (by decide) (by decide), vw0 (k := 14) (by decide) (by decide)]
theorem tR_vw : tR (vw A 0) ↔ tR A := by
  unfold tR
  rw [vw0 (k := 2) (by decide) (by decide), vw0 (k := 3) (by decide) (by decide), vw0 (k := 4) (by decide) (by decide), vw0 (k := 5) (by decide) (by decide), vw0 (k := 6) (by decide) (by decide), vw0 (k := 7) (by decide) (by decide), vw0 (k := 8) (by decide) (by decide), vw0 (k := 9) (by decide) (by decide), vw0 (k := 10) (by decide) (by decide), vw0 (k := 11) (by decide) (by decide), vw0 (k := 12) (by decide) (by decide), vw0 (k := 13) (by decide) (by decide), vw0 (k := 14) (by decide) (by decide)]
theorem wl_lev {x : Nat} (h : x ∈ wl T) : x ∈ lev T (T 7 0) ∧ fairT T x = true := by
  unfold wl at h
  rw [filTo_flat T _ _ (Nat.le_refl _), List.take_length, List.mem_flatMap] at h
  obtain ⟨y, hy, h⟩ := h
  by_cases hf : fairT T y = true
  · rw [if_pos hf, List.mem_singleton] at h
    subst h; exact ⟨hy, hf⟩
  · rw [if_neg hf] at h; cases h
theorem lev_wl {x : Nat} (h : x ∈ lev T (T 7 0)) (hf : fairT T x = true) : x ∈ wl T := by
  unfold wl
  rw [filTo_flat T _ _ (Nat.le_refl _), List.take_length, List.mem_flatMap]
  exact ⟨x, h, by rw [if_pos hf]; exact List.mem_singleton.mpr rfl⟩
theorem zsum_20 {f : Nat → Nat} {s : Nat} : ∀ N, (∀ t, t < N → f t ≤ 20) → zsum 0 (fun t => if s.testBit t then f t else 0) N ≤ 20 * zsum 0 (fun t => if s.testBit t then 1 else 0) N
  | 0, _ => Nat.le_refl _
  | N + 1, h => by
    have ih := zsum_20 (f := f) (s := s) N (fun t ht => h t (by omega))
    have hn := h N (by omega)
    show zsum 0 _ N + (if s.testBit N then f N else 0) ≤ 20 * (zsum 0 _ N + (if s.testBit N then 1 else 0))
    split <;> omega
theorem ans_58 {p so s f : Nat} (hk : tR T) (hp : p < T 7 0) (hso : so < 4) (hs : s < 2 ^ T 2 0) (hpop : pop s ≤ 2) : ansF T p so s f ≤ 49 + f := by
  have k2 := hk.1
  rcases (show so = 0 ∨ so = 1 ∨ so = 2 ∨ so = 3 by omega) with rfl | rfl | rfl | rfl
  · show (wOf T p s + f) / T 11 0 ≤ _
    have h1 := Nat.div_le_self (wOf T p s + f) (T 11 0)
    have h2 : wOf T p s ≤ 49 := by
      unfold wOf
      rw [zsum_base]
      have := zsum_20 (s := s) (f := T 3) (T 2 0) (fun t ht => (hk.2.2.1 t ht).1.2)
      rw [← pop_bitsm k2 hs] at this
      have := (hk.2.2.2.1 p hp).1
      omega
    omega
  · show (if 0 < mnOf T s 2 then 2 else 0) + (if 0 < mnOf T s 1 then 1 else 0) ≤ _
    split <;> split <;> omega
  · show pop s - mnOf T s 0 ≤ _
    omega
  · show (if pop s = mnOf T s 0 then 1 else 0) ≤ _
    split <;> omega
theorem wl_len (hk : tR T) : (wl T).length ≤ 5040 := Nat.le_trans (filTo_len T _ _) (lev_len hk.1 hk.2.1 (fun p hp => (hk.2.2.2.1 p hp).2.2) _ (Nat.le_refl _))
theorem wl_ok (hk : tR A) : lOK A (wl (vw A 0)) ∧ (∀ x ∈ wl (vw A 0), djW (vw A 0) x ∧ ∀ p, p < A 7 0 → pop (sI x p) = A 10 p) := by
  have hk0 := tR_vw.mpr hk
  have hw : ∀ x ∈ wl (vw A 0), wOK (vw A 0) (vw A 0 7 0) x := fun x hx => lev_ok hk0.1 _ hk0.2.1 x (wl_lev hx).1
  refine ⟨⟨?_, ?_, ?_⟩, ?_⟩
  · intro x hx p hp so hso
    have h := (hw x hx).2.1 p (by rw [vw0 (by decide) (by decide)]; exact hp)
    rw [vw0 (k := 2) (by decide) (by decide), vw0 (k := 10) (by decide) (by decide)] at h
    refine ⟨h.1, ?_⟩
    have := (hk.2.2.2.1 p hp).2.2
    have := ans_58 (f := 0) hk hp hso h.1.2 (by omega)
    omega
  · intro x hx
    have h := (hw x hx).1
    exact Nat.lt_of_lt_of_le h (Nat.pow_le_pow_right (by decide) (by have := hk0.2.1; omega))
  · have := wl_len hk0; omega
  · intro x hx
    refine ⟨wOK_dj (hw x hx), fun p hp => ?_⟩
    have h := (hw x hx).2.1 p (by rw [vw0 (by decide) (by decide)]; exact hp)
    rw [vw0 (k := 10) (by decide) (by decide)] at h
    exact h.2
theorem wl_a60 (hk : tR A) (hA : arrIs (A 16) (wl (vw A 0))) : a60 A (wl (vw A 0)).length := by
  intro w hw p hp so hso
  unfold av
  rw [hA w hw]
  exact ((wl_ok hk).1.1 _ (getD_mem hw) p hp so hso).2
theorem cdOf_sI {w : Nat} (hw : w < 2 ^ 32) : cdOf (sI w 0) (sI w 1) (sI w 2) (sI w 3) = w := by
  unfold cdOf
  have h0 := sI_lt w 0
  have h1 := sI_lt w 1
  have h2 := sI_lt w 2
  rw [or_add (sI w 1) (show sI w 0 < 2 ^ 8 by omega)]
  rw [or_add (sI w 2) (show sI w 0 + sI w 1 * 2 ^ 8 < 2 ^ 16 by omega)]
  rw [or_add (sI w 3) (show sI w 0 + sI w 1 * 2 ^ 8 + sI w 2 * 2 ^ 16 < 2 ^ 24 by omega)]
  unfold sI
  simp only [Nat.mul_zero, Nat.pow_zero, Nat.div_one]
  omega
end ZB3
/-- the scene at x is the reference's S -/
def scR (V : Nat → Nat → Nat) (x : Nat) (S : Nat → Nat) : Prop := V x 0 < 2 ^ 32 ∧ (∀ p, p < 4 → sI (V x 0) p = S p ∧ V (x + 1) p = S (4 + p)) ∧ V x 4 = S 8 ∧ ∀ k, k < S 8 → V (x + 2) k = S (9 + k) % 16 ∧ V (x + 3) k = S (9 + k) / 16
/-- a scene of the tree A -/
def scOK (A : Nat → Nat → Nat) (S : Nat → Nat) : Prop := sOK A S ∧ (∀ p, p < A 7 0 → S p < 2 ^ A 2 0 ∧ pop (S p) = A 10 p) ∧ (∀ p q, p < A 7 0 → q < A 7 0 → p ≠ q → S p &&& S q = 0) ∧ (∀ p, A 7 0 ≤ p → p < 4 → S p = 0) ∧ ∀ p, p < 4 → S (4 + p) ≤ 9
theorem scR.eq {V V' : Nat → Nat → Nat} {x y : Nat} {S : Nat → Nat} (h : scR V y S) (h8 : S 8 ≤ 12) (e : scEq V' x V y) : scR V' x S := by
  obtain ⟨a1, a2, a3, a4⟩ := h
  obtain ⟨e1, e2, e3, e4⟩ := e
  refine ⟨by rw [e1]; exact a1, fun p hp => ?_, by rw [e2]; exact a3, fun k hk => ?_⟩
  · rw [e1, e3 p hp]; exact a2 p hp
  · rw [(e4 k (by omega)).1, (e4 k (by omega)).2]; exact a4 k hk
theorem scR.fr {V V' : Nat → Nat → Nat} {x : Nat} {S : Nat → Nat} (h : scR V x S) (e0 : V' x = V x) (e1 : V' (x + 1) = V (x + 1)) (e2 : V' (x + 2) = V (x + 2)) (e3 : V' (x + 3) = V (x + 3)) : scR V' x S := by
  unfold scR at h ⊢
  rw [e0, e1, e2, e3]; exact h
theorem scR.tr {V : Nat → Nat → Nat} {x : Nat} {S : Nat → Nat} (h : scR V x S) : V x 0 = trC S := by
  unfold trC
  rw [← (h.2.1 0 (by decide)).1, ← (h.2.1 1 (by decide)).1, ← (h.2.1 2 (by decide)).1, ← (h.2.1 3 (by decide)).1, cdOf_sI h.1]
abbrev sK (c t t' : Nat) : (Nat → Nat) → zC := fun f => .inr (7, [.ref (c + 1), .ref t, .ref t', .ref (c + 32), .ref (c + 34), .ref (c + 36), .ref (c + 38), .ref (c + 44), .ref (c + 48), .ref (c + 82), .ref (c + 92), .int (nI (f 11)), .int (nI (f 12))])
/-- where the class's cells stand: P 0 its tree, P 1 the spare one, P 2 P 3 P 4 the rows of its worlds, P 5 P 6 P 7 their lengths -/
def kL (L : zSh) (c : Nat) (P : Nat → Nat) : Prop :=
  L c = some (sK c (P 0) (P 1)) ∧ (L (c + 1) = some (sX (c + 2) (c + 3)) ∧ L (c + 2) = some (sC 200) ∧ L (c + 3) = some (sA 4)) ∧
  (L (c + 32) = some (sW (P 2)) ∧ L (P 2) = some (sA (P 5))) ∧ (L (c + 34) = some (sW (P 3)) ∧ L (P 3) = some (sA (P 6))) ∧ (L (c + 36) = some (sW (P 4)) ∧ L (P 4) = some (sA (P 7))) ∧
  zFi L (c + 38) ∧ zSc L (c + 44) ∧ (L (c + 48) = some (sSs (c + 49)) ∧ L (c + 49) = some (sR 8) ∧ ∀ i, i < 8 → zSc L (c + 50 + 4 * i)) ∧ (L (c + 82) = some (sSs (c + 83)) ∧ L (c + 83) = some (sR 2) ∧ ∀ i, i < 2 → zSc L (c + 84 + 4 * i)) ∧ L (c + 92) = some (sLA 256) ∧
  (∀ y, c + 4 ≤ y → y < c + 32 → L y = none) ∧ ((P 0 = c + 4 ∧ P 1 = c + 18) ∨ (P 0 = c + 18 ∧ P 1 = c + 4)) ∧
  ((P 2 = c + 33 ∨ c + 93 ≤ P 2) ∧ (P 3 = c + 35 ∨ c + 93 ≤ P 3) ∧ (P 4 = c + 37 ∨ c + 93 ≤ P 4) ∧ P 2 ≠ P 3 ∧ P 2 ≠ P 4 ∧ P 3 ≠ P 4) ∧ (P 5 < 1000000 ∧ P 6 < 1000000 ∧ P 7 < 1000000)
def kTx (V : Nat → Nat → Nat) (c : Nat) (I : Nat → Nat) (A : Nat → Nat → Nat) : Prop := V (c + 1) 1 = I 0 ∧ I 0 ≤ 200 ∧ (∀ j, j < I 0 → V (c + 2) j = A 1 j ∧ A 1 j < 128) ∧ ∀ j, j < 4 → V (c + 3) j < 1000
def kTr (J : Nat → Nat) (X A : Nat → Nat → Nat) : Prop := tI J X A ∧ tR A ∧ 1 ≤ A 7 0 ∧ 1 ≤ A 2 0
/-- the worlds that remain behind the first k answers -/
def remL (A : Nat → Nat → Nat) (k : Nat) : List Nat := (wl (vw A 0)).filter (fun x => fitT A (A 17) x k)
def kWl (V : Nat → Nat → Nat) (c : Nat) (P I : Nat → Nat) (A : Nat → Nat → Nat) : Prop := isWs V (c + 32) (P 2) (wl (vw A 0)) ∧ I 17 = (wl (vw A 0)).length ∧ arrIs (A 16) (wl (vw A 0)) ∧ 0 < I 17 ∧ ((wl (vw A 0)).length ≤ P 5 ∧ (wl (vw A 0)).length ≤ P 6 ∧ (wl (vw A 0)).length ≤ P 7)
def kNw (V : Nat → Nat → Nat) (c : Nat) (A : Nat → Nat → Nat) : Prop := scR V (c + 44) (A 17) ∧ scOK A (A 17)
def kUn (V : Nat → Nat → Nat) (c : Nat) (I : Nat → Nat) (A : Nat → Nat → Nat) : Prop := V (c + 48) 1 = I 20 ∧ I 20 ≤ 8 ∧ (∀ j, j < 8 → ∃ i, i < 8 ∧ V (c + 49) j = c + 50 + 4 * i) ∧ (∀ j j', j < 8 → j' < 8 → V (c + 49) j = V (c + 49) j' → j = j') ∧ ∀ u, u < I 20 → scR V (V (c + 49) u) (fun k => A 18 (21 * u + k)) ∧ scOK A (fun k => A 18 (21 * u + k))
def kKe (V : Nat → Nat → Nat) (c : Nat) (I : Nat → Nat) (A : Nat → Nat → Nat) : Prop := V (c + 82) 1 = I 22 ∧ I 22 ≤ 2 ∧ (∀ j, j < 2 → V (c + 83) j = c + 84 + 4 * j) ∧ ∀ u, u < I 22 → scR V (c + 84 + 4 * u) (fun k => A 19 (21 * u + k)) ∧ scOK A (fun k => A 19 (21 * u + k))
def kSt (V : Nat → Nat → Nat) (c : Nat) (P I : Nat → Nat) (A : Nat → Nat → Nat) : Prop := V c 11 = 1 ∨ (V c 11 = 0 ∧ isWs V (c + 34) (P 3) (remL A (A 17 8)) ∧ nI (V c 12) = jdF I A (A 17 8) 0)
/-- the class's state is the reference's -/
def kV (V : Nat → Nat → Nat) (c : Nat) (P J : Nat → Nat) (X : Nat → Nat → Nat) (I : Nat → Nat) (A : Nat → Nat → Nat) : Prop := kTx V c I A ∧ kTr J X A ∧ kWl V c P I A ∧ kNw V c A ∧ kUn V c I A ∧ kKe V c I A ∧ kSt V c P I A
section ZB4
variable {L : zSh} {V V' : Nat → Nat → Nat} {c : Nat} {P J I : Nat → Nat} {X A : Nat → Nat → Nat}
theorem kTx.fr (h : kTx V c I A) (e1 : V' (c + 1) = V (c + 1)) (e2 : V' (c + 2) = V (c + 2)) (e3 : V' (c + 3) = V (c + 3)) : kTx V' c I A := by
  unfold kTx at h ⊢; rw [e1, e2, e3]; exact h
theorem kWl.fr (h : kWl V c P I A) (e1 : V' (c + 32) = V (c + 32)) (e2 : V' (P 2) = V (P 2)) : kWl V' c P I A := by
  unfold kWl isWs at h ⊢; rw [e1, e2]; exact h
theorem kNw.fr (h : kNw V c A) (e : ∀ b, c + 44 ≤ b → b < c + 48 → V' b = V b) : kNw V' c A := ⟨h.1.fr (e _ (by omega) (by omega)) (e _ (by omega) (by omega)) (e _ (by omega) (by omega)) (e _ (by omega) (by omega)), h.2⟩
theorem kUn.fr (h : kUn V c I A) (e : ∀ b, c + 48 ≤ b → b < c + 82 → V' b = V b) : kUn V' c I A := by
  obtain ⟨a1, a2, a3, a4, a5⟩ := h
  have e49 : V' (c + 49) = V (c + 49) := e _ (by omega) (by omega)
  refine ⟨by rw [e _ (by omega) (by omega)]; exact a1, a2, by rw [e49]; exact a3, by rw [e49]; exact a4, fun u hu => ?_⟩
  rw [e49]
  obtain ⟨i, hi, ei⟩ := a3 u (by omega)
  refine ⟨(a5 u hu).1.fr ?_ ?_ ?_ ?_, (a5 u hu).2⟩ <;> (rw [ei]; exact e _ (by omega) (by omega))
theorem kKe.fr (h : kKe V c I A) (e : ∀ b, c + 82 ≤ b → b < c + 92 → V' b = V b) : kKe V' c I A := by
  obtain ⟨a1, a2, a3, a5⟩ := h
  have e49 : V' (c + 83) = V (c + 83) := e _ (by omega) (by omega)
  refine ⟨by rw [e _ (by omega) (by omega)]; exact a1, a2, by rw [e49]; exact a3, fun u hu => ⟨(a5 u hu).1.fr ?_ ?_ ?_ ?_, (a5 u hu).2⟩⟩ <;> exact e _ (by omega) (by omega)
theorem kSt.fr (h : kSt V c P I A) (e0 : V' c = V c) (e1 : V' (c + 34) = V (c + 34)) (e2 : V' (P 3) = V (P 3)) : kSt V' c P I A := by
  unfold kSt isWs at h ⊢; rw [e0, e1, e2]; exact h
/-- the cells that hold nothing from one call to the next -/
def scr (c : Nat) (P : Nat → Nat) (b : Nat) : Prop := b = c + 36 ∨ b = P 4 ∨ (c + 38 ≤ b ∧ b < c + 44) ∨ b = c + 92
theorem kV.fr (hL : kL L c P) (h : kV V c P J X I A) (e : ∀ b, ¬ scr c P b → V' b = V b) : kV V' c P J X I A := by
  obtain ⟨a1, a2, a3, a4, a5, a6, a7⟩ := h
  obtain ⟨-, -, -, -, -, -, -, -, -, -, -, -, ⟨p1, p2, p3, p4, p5, p6⟩, -⟩ := hL
  have f : ∀ b, b ≠ c + 36 → b ≠ P 4 → ¬ (c + 38 ≤ b ∧ b < c + 44) → b ≠ c + 92 → V' b = V b := fun b h1 h2 h3 h4 => e b (by unfold scr; omega)
  refine ⟨a1.fr (f _ (by omega) (by omega) (by omega) (by omega)) (f _ (by omega) (by omega) (by omega) (by omega)) (f _ (by omega) (by omega) (by omega) (by omega)), a2, a3.fr (f _ (by omega) (by omega) (by omega) (by omega)) (f _ (by omega) p5 (by omega) (by omega)), a4.fr (fun b h1 h2 => f _ (by omega) (by omega) (by omega) (by omega)), a5.fr (fun b h1 h2 => f _ (by omega) (by omega) (by omega) (by omega)), a6.fr (fun b h1 h2 => f _ (by omega) (by omega) (by omega) (by omega)), a7.fr (f _ (by omega) (by omega) (by omega) (by omega)) (f _ (by omega) (by omega) (by omega) (by omega)) (f _ (by omega) p6 (by omega) (by omega))⟩
end ZB4
