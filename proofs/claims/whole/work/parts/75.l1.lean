/-- the heap of both: the reference at a, the class over it -/
abbrev hp (h2 : zF) (a : Nat) (I : Nat → Nat) (A : Nat → Nat → Nat) (B : Nat → Nat) (t : Nat) (J' : Nat → Nat) (X' : Nat → Nat → Nat) (L : zSh) (V : Nat → Nat → Nat) : zF := gH (tH (mH h2 a I A B) t J' X') L V
section ZL1
variable {h2 : zF} {a c n : Nat} {I I' : Nat → Nat} {A A' X X' V : Nat → Nat → Nat} {B : Nat → Nat} {P J J' : Nat → Nat} {L : zSh}
theorem hp_m (hn : ∀ b, a ≤ b → b < a + 27 → L b = none) (ht : P 1 + 14 ≤ a) : hp h2 a I A B (P 1) J' X' L V = mH (gH (tH h2 (P 1) J' X') L V) a I A B := by
  funext b
  show gH (tH (mH h2 a I A B) (P 1) J' X') L V b = _
  by_cases e : a ≤ b ∧ b < a + 27
  · rw [g_out (hn b e.1 e.2), tH_out (by omega)]
    unfold mH
    rw [if_pos e, if_pos e]
  · have q : ∀ h : zF, mH h a I A B b = h b := fun h => mH_out (by omega)
    rw [q]
    unfold gH
    cases L b with
    | some s => rfl
    | none =>
      show tH (mH h2 a I A B) (P 1) J' X' b = tH h2 (P 1) J' X' b
      unfold tH
      rw [q]
theorem tr_m (hT : zTr h2 (P 0) J X) (ht : P 0 + 14 ≤ a) : zTr (mH h2 a I A B) (P 0) J X := by
  have e : ∀ q, q < 14 → mH h2 a I A B (P 0 + q) = h2 (P 0 + q) := fun q hq => mH_out (by omega)
  exact ⟨(e 0 (by decide)).trans hT.1, (e 1 (by decide)).trans hT.2.1, fun q x y => (e q y).trans (hT.2.2 q x y)⟩
/-- what holds between the calls -/
def lI (h2 : zF) (a c n : Nat) (I : Nat → Nat) (A : Nat → Nat → Nat) (P J : Nat → Nat) (X X' : Nat → Nat → Nat) (L : zSh) (V : Nat → Nat → Nat) : Prop := zTr h2 (P 0) J X ∧ kL L c P ∧ kBd c n P ∧ kV V c P J X I A ∧ (X 6 0 = 0 ∧ X 7 0 = 0) ∧ (X' 6 0 = 0 ∧ X' 7 0 = 0) ∧ (∀ b, a ≤ b → b < a + 27 → L b = none) ∧ (c + 93 ≤ a ∧ a + 27 ≤ n) ∧ ∀ j, A 20 j < 1000
theorem lI.bd (h : lI h2 a c n I A P J X X' L V) : P 0 + 14 ≤ a ∧ P 1 + 14 ≤ a := by
  have h1 := h.2.1.2.2.2.2.2.2.2.2.2.2.2.1
  have h2 := h.2.2.2.2.2.2.2.1
  omega
theorem lI.ch {V' : Nat → Nat → Nat} (h : lI h2 a c n I A P J X X' L V) (kv : kV V' c P J X I' A') (h20 : ∀ j, A' 20 j < 1000) : lI h2 a c n I' A' P J X X' L V' := ⟨h.1, h.2.1, h.2.2.1, kv, h.2.2.2.2.1, h.2.2.2.2.2.1, h.2.2.2.2.2.2.1, h.2.2.2.2.2.2.2.1, h20⟩
theorem lI.A0 (h : lI h2 a c n I A P J X X' L V) : mH h2 a I A B a = some (.inr (8, mFs a I)) := mH_a
-- each answers one way
theorem rWr.one {x v v' : Int32} {I1 I2 : Nat → Nat} {A1 A2 : Nat → Nat → Nat} (h1 : rWr I A x v I1 A1) (h2 : rWr I A x v' I2 A2) : v = v' ∧ I1 = I2 ∧ A1 = A2 := by
  rcases h1 with ⟨p1, rfl, rfl, rfl⟩ | ⟨p1, p2, rfl, rfl, rfl⟩ | ⟨p1, p2, k, pk, rfl, rfl, rfl, rfl⟩ <;> rcases h2 with ⟨q1, rfl, rfl, rfl⟩ | ⟨q1, q2, rfl, rfl, rfl⟩ | ⟨q1, q2, k', qk, e, rfl, rfl, rfl⟩ <;> first | exact ⟨rfl, rfl, rfl⟩ | (exfalso; omega) | (have e := (nI_inj32 (by omega) (by omega)).mp e; subst e; exact ⟨rfl, rfl, rfl⟩) | (exact absurd (by assumption) p1) | (exact absurd (by assumption) q1)
theorem btF_ {b : Bool} {Q : Prop} (h1 : b = false) (h2 : b = true) : Q := by rw [h1] at h2; cases h2
theorem rAt.one {x y v v' : Int32} {I1 I2 : Nat → Nat} {A1 A2 : Nat → Nat → Nat} (k7 : A 7 0 ≤ 4) (h1 : rAt I A x y v I1 A1) (h2 : rAt I A x y v' I2 A2) : v = v' ∧ I1 = I2 ∧ A1 = A2 := by
  rcases h1 with ⟨p1, rfl, rfl, rfl⟩ | ⟨p1, p2, rfl, rfl, rfl⟩ | ⟨p1, p2, k, so, pk, ⟨rfl, rfl⟩, rfl, rfl, rfl⟩ <;> rcases h2 with ⟨q1, rfl, rfl, rfl⟩ | ⟨q1, q2, rfl, rfl, rfl⟩ | ⟨q1, q2, k', so', qk, ⟨e, e'⟩, rfl, rfl, rfl⟩ <;> first | exact ⟨rfl, rfl, rfl⟩ | exact btF_ p1 q1 | exact btF_ q1 p1 | (exfalso; omega) | (have e := (nI_inj32 (by omega) (by omega)).mp e; subst e; have e' := (nI_inj32 (by omega) (by omega)).mp e'; subst e'; exact ⟨rfl, rfl, rfl⟩)
theorem rHe.one {x y z v v' : Int32} {I1 I2 : Nat → Nat} {A1 A2 : Nat → Nat → Nat} (k7 : A 7 0 ≤ 4) (h1 : rHe I A x y z v I1 A1) (h2 : rHe I A x y z v' I2 A2) : v = v' ∧ I1 = I2 ∧ A1 = A2 := by
  rcases h1 with ⟨p1, rfl, rfl, rfl⟩ | ⟨p1, p2, rfl, rfl, rfl⟩ | ⟨p1, p2, k, so, w, pk, ⟨rfl, rfl, rfl⟩, rfl, rfl, rfl⟩ <;> rcases h2 with ⟨q1, rfl, rfl, rfl⟩ | ⟨q1, q2, rfl, rfl, rfl⟩ | ⟨q1, q2, k', so', w', qk, ⟨e, e', e''⟩, rfl, rfl, rfl⟩ <;> first | exact ⟨rfl, rfl, rfl⟩ | exact btF_ p1 q1 | exact btF_ q1 p1 | (exfalso; omega) | (have e := (nI_inj32 (by omega) (by omega)).mp e; subst e; have e' := (nI_inj32 (by omega) (by omega)).mp e'; subst e'; have e'' := (nI_inj32 (by omega) (by omega)).mp e''; subst e''; exact ⟨rfl, rfl, rfl⟩)
theorem rHi.one {x y v v' : Int32} {I1 I2 : Nat → Nat} {A1 A2 : Nat → Nat → Nat} (k7 : A 7 0 ≤ 4) (h1 : rHi I A x y v I1 A1) (h2 : rHi I A x y v' I2 A2) : v = v' ∧ I1 = I2 ∧ A1 = A2 := by
  rcases h1 with ⟨p1, rfl, rfl, rfl⟩ | ⟨p1, k, so, pk, ⟨rfl, rfl⟩, rfl, rfl, rfl⟩ <;> rcases h2 with ⟨q1, rfl, rfl, rfl⟩ | ⟨q1, k', so', qk, ⟨e, e'⟩, rfl, rfl, rfl⟩ <;> first | exact ⟨rfl, rfl, rfl⟩ | exact btF_ p1 q1 | exact btF_ q1 p1 | (have e := (nI_inj32 (by omega) (by omega)).mp e; subst e; have e' := (nI_inj32 (by omega) (by omega)).mp e'; subst e'; exact ⟨rfl, rfl, rfl⟩)
theorem rCh.one {x y v v' : Int32} {I1 I2 : Nat → Nat} {A1 A2 : Nat → Nat → Nat} (k7 : A 7 0 ≤ 4) (h1 : rCh I A x y v I1 A1) (h2 : rCh I A x y v' I2 A2) : v = v' ∧ I1 = I2 ∧ A1 = A2 := by
  rcases h1 with ⟨p1, rfl, rfl, rfl⟩ | ⟨p1, k, so, pk, ⟨rfl, rfl⟩, p2⟩ <;> rcases h2 with ⟨q1, rfl, rfl, rfl⟩ | ⟨q1, k', so', qk, ⟨e, e'⟩, q2⟩
  · exact ⟨rfl, rfl, rfl⟩
  · exact absurd p1 q1
  · exact absurd q1 p1
  · have e := (nI_inj32 (by omega) (by omega)).mp e
    subst e
    have e' := (nI_inj32 (by omega) (by omega)).mp e'
    subst e'
    rcases p2 with ⟨a1, rfl, rfl, rfl⟩ | ⟨a1, rfl, rfl, rfl⟩ <;> rcases q2 with ⟨b1, rfl, rfl, rfl⟩ | ⟨b1, rfl, rfl, rfl⟩
    · exact ⟨rfl, rfl, rfl⟩
    · exact absurd b1 a1
    · exact absurd a1 b1
    · exact ⟨rfl, rfl, rfl⟩
theorem rUd.one {v v' : Int32} {I1 I2 : Nat → Nat} {A1 A2 : Nat → Nat → Nat} (h1 : rUd I A v I1 A1) (h2 : rUd I A v' I2 A2) : v = v' ∧ I1 = I2 ∧ A1 = A2 := by
  rcases h1 with ⟨p1, rfl, rfl, rfl⟩ | ⟨p1, rfl, rfl, rfl⟩ <;> rcases h2 with ⟨q1, rfl, rfl, rfl⟩ | ⟨q1, rfl, rfl, rfl⟩ <;> first | exact ⟨rfl, rfl, rfl⟩ | (exfalso; omega)
theorem rKp.one {v v' : Int32} {I1 I2 : Nat → Nat} {A1 A2 : Nat → Nat → Nat} (h1 : rKp I A v I1 A1) (h2 : rKp I A v' I2 A2) : v = v' ∧ I1 = I2 ∧ A1 = A2 := by
  rcases h1 with ⟨p1, rfl, rfl, rfl⟩ | ⟨p1, rfl, rfl, rfl⟩ <;> rcases h2 with ⟨q1, rfl, rfl, rfl⟩ | ⟨q1, rfl, rfl, rfl⟩ <;> first | exact ⟨rfl, rfl, rfl⟩ | (exfalso; omega)
theorem rBk.one {v v' : Int32} {I1 I2 : Nat → Nat} {A1 A2 : Nat → Nat → Nat} (h1 : rBk I A v I1 A1) (h2 : rBk I A v' I2 A2) : v = v' ∧ I1 = I2 ∧ A1 = A2 := by
  rcases h1 with ⟨p1, rfl, rfl, rfl⟩ | ⟨p1, rfl, rfl, rfl⟩ <;> rcases h2 with ⟨q1, rfl, rfl, rfl⟩ | ⟨q1, rfl, rfl, rfl⟩ <;> first | exact ⟨rfl, rfl, rfl⟩ | (exfalso; omega)
end ZL1
