def cntD (u z : Nat) : Nat → Nat
  | 0 => 0
  | s + 1 => cntD u z s + (if s &&& u = 0 ∧ 1 ≤ s ∧ pop s = z then 1 else 0)
def cb (q z : Nat) : Nat := if z = 1 then 8 - q else (8 - q) * (7 - q) / 2
theorem extTo_len (T : zT) (p w : Nat) : ∀ s, (extTo T p w s).length = cntD (usedW w) (T 10 p) s
  | 0 => rfl
  | s + 1 => by
    rw [extTo, cntD, List.length_append, extTo_len T p w s]
    by_cases h : 1 ≤ s ∧ pop s = T 10 p ∧ s &&& usedW w = 0
    · rw [if_pos h, if_pos ⟨h.2.2, h.1, h.2.1⟩]; rfl
    · rw [if_neg h, if_neg (fun q => h ⟨q.2.1, q.2.2, q.1⟩)]; rfl
theorem cntD_mono (u z : Nat) : ∀ (d s : Nat), cntD u z s ≤ cntD u z (s + d)
  | 0, s => Nat.le_refl _
  | d + 1, s => by
    have := cntD_mono u z d s
    rw [show s + (d + 1) = (s + d) + 1 from rfl, cntD]
    omega
theorem cntD_1 : ∀ u, u < 256 → cntD u 1 256 ≤ cb (pop u) 1 := by decide +kernel
theorem cntD_2 : ∀ u, u < 256 → cntD u 2 256 ≤ cb (pop u) 2 := by decide +kernel
theorem pop_or : ∀ u, u < 256 → ∀ s, s < 256 → s &&& u = 0 → pop (u ||| s) = pop u + pop s := by decide +kernel
def szs (T : zT) : Nat → Nat := zsum 0 (T 10)
theorem or_add {w k : Nat} (s : Nat) (h : w < 2 ^ k) : w ||| s * 2 ^ k = w + s * 2 ^ k := by
  rw [Nat.or_comm, Nat.mul_comm, ← Nat.two_pow_add_eq_or_of_lt h, Nat.add_comm]
theorem sI_put {w s p q : Nat} (hp : p < 4) (hq : q < 4) (hw : w < 2 ^ (8 * p)) (hs : s < 256) : sI (w ||| s * 2 ^ (8 * p)) q = if q < p then sI w q else if q = p then s else 0 := by
  rw [or_add s hw]
  unfold sI
  rcases (show p = 0 ∨ p = 1 ∨ p = 2 ∨ p = 3 by omega) with rfl | rfl | rfl | rfl <;> rcases (show q = 0 ∨ q = 1 ∨ q = 2 ∨ q = 3 by omega) with rfl | rfl | rfl | rfl <;> simp only [Nat.reduceMul, Nat.reducePow, Nat.reduceLT, Nat.reduceEqDiff, if_true, if_false, reduceIte] at hw ⊢ <;> omega
theorem or_put_lt {w s p : Nat} (hw : w < 2 ^ (8 * p)) (hs : s < 256) : w ||| s * 2 ^ (8 * p) < 2 ^ (8 * (p + 1)) := by
  rw [or_add s hw, show 8 * (p + 1) = 8 + 8 * p by omega, Nat.pow_add]
  have h1 : (s + 1) * 2 ^ (8 * p) ≤ 256 * 2 ^ (8 * p) := Nat.mul_le_mul_right _ hs
  rw [Nat.succ_mul] at h1
  have : (2 : Nat) ^ 8 = 256 := rfl
  rw [this]
  omega
theorem used_put {w s p : Nat} (hp : p < 3) (hw : w < 2 ^ (8 * p)) (hs : s < 256) : usedW (w ||| s * 2 ^ (8 * p)) = usedW w ||| s := by
  unfold usedW
  rw [sI_put (by omega) (by decide) hw hs, sI_put (by omega) (by decide) hw hs, sI_put (by omega) (by decide) hw hs]
  rcases (show p = 0 ∨ p = 1 ∨ p = 2 by omega) with rfl | rfl | rfl
  · have : w = 0 := by simpa using hw
    subst this
    simp [sI]
  · have h2 : sI w 2 = 0 := by unfold sI; simp only [Nat.reduceMul, Nat.reducePow] at hw ⊢; omega
    have h1 : sI w 1 = 0 := by unfold sI; simp only [Nat.reduceMul, Nat.reducePow] at hw ⊢; omega
    simp [h1, h2]
  · have h2 : sI w 2 = 0 := by unfold sI; simp only [Nat.reduceMul, Nat.reducePow] at hw ⊢; omega
    simp [h2]
theorem extTo_mem {T : zT} {p w x : Nat} : ∀ {s : Nat}, x ∈ extTo T p w s ↔ ∃ s0, (1 ≤ s0 ∧ s0 < s) ∧ pop s0 = T 10 p ∧ s0 &&& usedW w = 0 ∧ x = w ||| s0 * 2 ^ (8 * p)
  | 0 => by simp [extTo]
  | s + 1 => by
    rw [extTo, List.mem_append, extTo_mem]
    constructor
    · rintro (⟨s0, h1, h2⟩ | h)
      · exact ⟨s0, by omega, h2⟩
      · split at h
        · rename_i hc
          rw [List.mem_singleton] at h
          exact ⟨s, by omega, hc.2.1, hc.2.2, h⟩
        · cases h
    · rintro ⟨s0, h1, h2, h3, h4⟩
      by_cases h : s0 = s
      · subst h
        right
        rw [if_pos ⟨h1.1, h2, h3⟩, h4]
        exact List.mem_singleton.mpr rfl
      · left; exact ⟨s0, by omega, h2, h3, h4⟩
theorem levTo_mem {T : zT} {p x : Nat} {L : List Nat} : ∀ {i : Nat}, i ≤ L.length → (x ∈ levTo T p L i ↔ ∃ j, j < i ∧ x ∈ extTo T p (L.getD j 0) (2 ^ T 2 0))
  | 0, _ => by simp [levTo]
  | i + 1, hi => by
    rw [levTo, List.mem_append, levTo_mem (by omega)]
    constructor
    · rintro (⟨j, h1, h2⟩ | h)
      · exact ⟨j, by omega, h2⟩
      · exact ⟨i, by omega, h⟩
    · rintro ⟨j, h1, h2⟩
      by_cases h : j = i
      · subst h; right; exact h2
      · left; exact ⟨j, by omega, h2⟩
theorem getD_mem {l : List Nat} {j : Nat} (h : j < l.length) : l.getD j 0 ∈ l := by
  rw [List.getD_eq_getElem?_getD, List.getElem?_eq_getElem h]
  exact List.getElem_mem h
/-- what a code in a level is -/
def wOK (T : zT) (p w : Nat) : Prop := w < 2 ^ (8 * p) ∧ (∀ q, q < p → (1 ≤ sI w q ∧ sI w q < 2 ^ T 2 0) ∧ pop (sI w q) = T 10 q) ∧ (∀ q r, q < p → r < p → q ≠ r → sI w q &&& sI w r = 0) ∧ (p ≤ 3 → pop (usedW w) = szs T p ∧ ∀ q, q < p → ∀ s, s &&& usedW w = 0 → s &&& sI w q = 0)
theorem and_or_0 {s x y : Nat} : s &&& (x ||| y) = 0 ↔ s &&& x = 0 ∧ s &&& y = 0 := by
  rw [Nat.and_or_distrib_left]
  exact Nat.or_eq_zero_iff
theorem lev_ok {T : zT} (h2 : T 2 0 ≤ 8) : ∀ p, p ≤ 4 → ∀ w, w ∈ lev T p → wOK T p w
  | 0, _, w, hw => by
    have : w = 0 := by simpa [lev] using hw
    subst this
    exact ⟨by decide, fun q hq => absurd hq (by omega), fun q r hq => absurd hq (by omega), fun _ => ⟨by rfl, fun q hq => absurd hq (by omega)⟩⟩
  | p + 1, hp, w, hw => by
    have hpow : 2 ^ T 2 0 ≤ 256 := (Nat.pow_le_pow_right (by decide) h2 : 2 ^ T 2 0 ≤ 2 ^ 8)
    obtain ⟨j, hj, hx⟩ := (levTo_mem (Nat.le_refl _)).mp hw
    obtain ⟨s, hs1, hs2, hs3, rfl⟩ := extTo_mem.mp hx
    have ih := lev_ok h2 p (by omega) _ (getD_mem hj)
    generalize (lev T p).getD j 0 = v at ih hs3
    obtain ⟨i1, i2, i3, i4⟩ := ih
    have i4 := i4 (by omega)
    have hsp := fun q (hq : q < 4) => sI_put (q := q) (show p < 4 by omega) hq i1 (show s < 256 by omega)
    refine ⟨or_put_lt i1 (by omega), fun q hq => ?_, fun q r hq hr hqr => ?_, fun h3 => ?_⟩
    · rw [hsp q (by omega)]
      by_cases h : q < p
      · rw [if_pos h]; exact i2 q h
      · rw [if_neg h, if_pos (by omega), show q = p by omega]
        exact ⟨by omega, hs2⟩
    · rw [hsp q (by omega), hsp r (by omega)]
      by_cases h : q < p
      · rw [if_pos h]
        by_cases h' : r < p
        · rw [if_pos h']; exact i3 q r h h' hqr
        · rw [if_neg h', if_pos (by omega), Nat.and_comm]; exact i4.2 q h s hs3
      · rw [if_neg h, if_pos (by omega), if_pos (by omega)]
        exact i4.2 r (by omega) s hs3
    · rw [used_put (by omega) i1 (by omega)]
      refine ⟨?_, fun q hq t ht => ?_⟩
      · rw [pop_or _ (usedW_lt v) s (by omega) hs3, i4.1, hs2]; rfl
      · rw [and_or_0] at ht
        rw [hsp q (by omega)]
        by_cases h : q < p
        · rw [if_pos h]; exact i4.2 q h t ht.1
        · rw [if_neg h, if_pos (by omega)]; exact ht.2
theorem levTo_len {T : zT} {p c : Nat} {L : List Nat} (h : ∀ j, j < L.length → (extTo T p (L.getD j 0) (2 ^ T 2 0)).length ≤ c) : ∀ i, i ≤ L.length → (levTo T p L i).length ≤ i * c
  | 0, _ => by simp [levTo]
  | i + 1, hi => by
    have h1 := levTo_len h i (by omega)
    have h2 := h i (by omega)
    rw [levTo, List.length_append, Nat.succ_mul]
    omega
theorem lev_step {T : zT} {p N : Nat} (h2 : T 2 0 ≤ 8) (hz : 1 ≤ T 10 p ∧ T 10 p ≤ 2) (hp : p ≤ 3) (hN : (lev T p).length ≤ N) : (lev T (p + 1)).length ≤ N * cb (szs T p) (T 10 p) := by
  have hpow : 2 ^ T 2 0 ≤ 256 := (Nat.pow_le_pow_right (by decide) h2 : 2 ^ T 2 0 ≤ 2 ^ 8)
  have := levTo_len (T := T) (p := p) (c := cb (szs T p) (T 10 p)) (L := lev T p) (fun j hj => by
    have ho := (lev_ok h2 p (by omega) _ (getD_mem hj)).2.2.2 hp
    rw [extTo_len]
    have h1 := cntD_mono (usedW ((lev T p).getD j 0)) (T 10 p) (256 - 2 ^ T 2 0) (2 ^ T 2 0)
    rw [show 2 ^ T 2 0 + (256 - 2 ^ T 2 0) = 256 by omega] at h1
    refine Nat.le_trans h1 ?_
    rw [← ho.1]
    rcases (show T 10 p = 1 ∨ T 10 p = 2 by omega) with q | q
    · rw [q]; exact cntD_1 _ (usedW_lt _)
    · rw [q]; exact cntD_2 _ (usedW_lt _)) (lev T p).length (Nat.le_refl _)
  exact Nat.le_trans this (Nat.mul_le_mul_right _ hN)
theorem lev_len {T : zT} (h2 : T 2 0 ≤ 8) (h7 : T 7 0 ≤ 4) (hz : ∀ p, p < T 7 0 → 1 ≤ T 10 p ∧ T 10 p ≤ 2) : ∀ p, p ≤ T 7 0 → (lev T p).length ≤ 5040 := by
  intro p hp
  have l0 : (lev T 0).length ≤ 1 := Nat.le_refl _
  rcases (show p = 0 ∨ p = 1 ∨ p = 2 ∨ p = 3 ∨ p = 4 by omega) with rfl | rfl | rfl | rfl | rfl
  · exact Nat.le_trans l0 (by decide)
  · have a0 := hz 0 (by omega)
    have l1 := lev_step h2 a0 (by decide) l0
    have e0 : szs T 0 = 0 := rfl
    rw [e0] at l1
    refine Nat.le_trans l1 ?_
    rcases (show T 10 0 = 1 ∨ T 10 0 = 2 by omega) with q | q <;> rw [q] <;> decide
  · have a0 := hz 0 (by omega)
    have a1 := hz 1 (by omega)
    have l2 := lev_step h2 a1 (by decide) (lev_step h2 a0 (by decide) l0)
    have e0 : szs T 0 = 0 := rfl
    have e1 : szs T 1 = 0 + T 10 0 := rfl
    rw [e0, e1] at l2
    refine Nat.le_trans l2 ?_
    rcases (show T 10 0 = 1 ∨ T 10 0 = 2 by omega) with q | q <;> rcases (show T 10 1 = 1 ∨ T 10 1 = 2 by omega) with q1 | q1 <;> rw [q, q1] <;> decide
  · have a0 := hz 0 (by omega)
    have a1 := hz 1 (by omega)
    have a2 := hz 2 (by omega)
    have l3 := lev_step h2 a2 (by decide) (lev_step h2 a1 (by decide) (lev_step h2 a0 (by decide) l0))
    have e0 : szs T 0 = 0 := rfl
    have e1 : szs T 1 = 0 + T 10 0 := rfl
    have e2 : szs T 2 = 0 + T 10 0 + T 10 1 := rfl
    rw [e0, e1, e2] at l3
    refine Nat.le_trans l3 ?_
    rcases (show T 10 0 = 1 ∨ T 10 0 = 2 by omega) with q | q <;> rcases (show T 10 1 = 1 ∨ T 10 1 = 2 by omega) with q1 | q1 <;> rcases (show T 10 2 = 1 ∨ T 10 2 = 2 by omega) with q2 | q2 <;> rw [q, q1, q2] <;> decide
  · have a0 := hz 0 (by omega)
    have a1 := hz 1 (by omega)
    have a2 := hz 2 (by omega)
    have a3 := hz 3 (by omega)
    have l4 := lev_step h2 a3 (by decide) (lev_step h2 a2 (by decide) (lev_step h2 a1 (by decide) (lev_step h2 a0 (by decide) l0)))
    have e0 : szs T 0 = 0 := rfl
    have e1 : szs T 1 = 0 + T 10 0 := rfl
    have e2 : szs T 2 = 0 + T 10 0 + T 10 1 := rfl
    have e3 : szs T 3 = 0 + T 10 0 + T 10 1 + T 10 2 := rfl
    rw [e0, e1, e2, e3] at l4
    refine Nat.le_trans l4 ?_
    rcases (show T 10 0 = 1 ∨ T 10 0 = 2 by omega) with q | q <;> rcases (show T 10 1 = 1 ∨ T 10 1 = 2 by omega) with q1 | q1 <;> rcases (show T 10 2 = 1 ∨ T 10 2 = 2 by omega) with q2 | q2 <;> rcases (show T 10 3 = 1 ∨ T 10 3 = 2 by omega) with q3 | q3 <;> rw [q, q1, q2, q3] <;> decide
