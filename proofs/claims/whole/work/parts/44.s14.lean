/-- a tree's cells with what is told -/
def tJ (J : Nat → Nat) (X : Nat → Nat → Nat) (T : zT) : Prop := tI J X T ∧ J 5 < 2 ^ 32 ∧ ∀ p, p < 4 → sI (J 5) p = T 15 p
theorem bit_add {s m t : Nat} (h : s < 2 ^ m) : (2 ^ m + s).testBit t = if t = m then true else s.testBit t := by
  rw [Nat.add_comm, ← or_pow h |>.trans (Nat.add_comm _ _), Nat.testBit_or, Nat.testBit_two_pow]
  by_cases q : t = m
  · subst q; simp
  · simp [q, Ne.symm q]
theorem zsum_bits {f : Nat → Nat} {s m : Nat} : zsum 0 (fun t => if s.testBit t then f t else 0) (m + 1) = zsum 0 (fun t => if s.testBit t then f t else 0) m + (if s.testBit m then f m else 0) := rfl
section ZS17
variable {J : Nat → Nat} {X : Nat → Nat → Nat} {T : zT}
theorem tI_zero (hI : tI J X T) : X 6 0 = 0 ∧ X 7 0 = 0 := by
  have h := hI.2.2.2.2.1 0 (Nat.two_pow_pos _)
  have z : ∀ (f : Nat → Nat) m, zsum 0 (fun t => if (0 : Nat).testBit t then f t else 0) m = 0 := by
    intro f m
    induction m with
    | zero => rfl
    | succ m ih => rw [zsum_bits, ih, Nat.zero_testBit]; rfl
  exact ⟨h.1.trans (z _ _), h.2.1.trans (z _ _)⟩
theorem tJ_clear (h6 : X 6 0 = 0 ∧ X 7 0 = 0) {T : zT} (h2 : T 2 0 = 0) (h7 : T 7 0 = 0) (h11 : T 11 0 = 1) (h12 : T 12 0 = 40) (hs : ∀ k, k < 4 → T 13 k = 0 ∧ T 14 k = 10 ∧ T 15 k = 0) : tJ (va_up (va_up (va_up (va_up (clJ J) 4 0) 5 0) 6 1) 7 40) (va_up (va_up (va_up X 8 (va_up (X 8) 0 1)) 12 (fun j => if j < 4 then 0 else X 12 j)) 13 (fun j => if j < 4 then 10 else X 13 j)) T := by
  refine ⟨⟨⟨?_, ?_, ?_, ?_⟩, ?_, ?_, ?_, ?_, ⟨?_, ?_, ?_⟩, ?_⟩, ?_, ?_⟩
  · rw [h2]; rfl
  · rw [h7]; rfl
  · rw [h11]; rfl
  · rw [h12]; rfl
  · intro t ht; omega
  · intro p hp; omega
  · intro k hk
    rw [(hs k hk).1, (hs k hk).2.1]
    simp [va_up, hk]
  · intro s hs
    rw [h2] at hs ⊢
    have : s = 0 := by simpa using hs
    subst this
    exact ⟨h6.1, h6.2, rfl⟩
  · exact Nat.two_pow_pos _
  · exact Nat.two_pow_pos _
  · exact Nat.two_pow_pos _
  · intro t ht; omega
  · exact (by decide : 0 < 2 ^ 32)
  · intro p hp
    rw [(hs p hp).2.2]
    show sI 0 p = 0
    unfold sI; simp
theorem tJ_scale (h : tJ J X T) (x : Nat) : tJ (va_up J 6 x) X (va_up T 11 (va_up (T 11) 0 x)) := by
  obtain ⟨⟨⟨a1, a2, a3, a4⟩, a5, a6, a7, a8, a9, a10⟩, a11, a12⟩ := h
  exact ⟨⟨⟨a1, a2, rfl, a4⟩, a5, a6, a7, a8, a9, a10⟩, a11, a12⟩
theorem tJ_apart (h : tJ J X T) (x : Nat) : tJ (va_up J 7 x) X (va_up T 12 (va_up (T 12) 0 x)) := by
  obtain ⟨⟨⟨a1, a2, a3, a4⟩, a5, a6, a7, a8, a9, a10⟩, a11, a12⟩ := h
  exact ⟨⟨⟨a1, a2, a3, rfl⟩, a5, a6, a7, a8, a9, a10⟩, a11, a12⟩
theorem tJ_sort (h : tJ J X T) (x y z : Nat) : tJ J (va_up (va_up X 12 (va_up (X 12) x y)) 13 (va_up (X 13) x z)) (va_up (va_up T 13 (va_up (T 13) x y)) 14 (va_up (T 14) x z)) := by
  obtain ⟨⟨⟨a1, a2, a3, a4⟩, a5, a6, a7, a8, a9, a10⟩, a11, a12⟩ := h
  refine ⟨⟨⟨a1, a2, a3, a4⟩, a5, a6, fun k hk => ?_, a8, a9, a10⟩, a11, a12⟩
  have := a7 k hk
  show va_up (X 12) x y k = va_up (T 13) x y k ∧ va_up (X 13) x z k = va_up (T 14) x z k
  unfold va_up
  split
  · exact ⟨rfl, rfl⟩
  · exact this
theorem tJ_parcel (h : tJ J X T) (x0 x1 x2 : Nat) : tJ (va_up J 4 (J 4 + 1)) (prX X (J 4) x0 x1 x2) (adP T 0 x0 x1 x2) := by
  obtain ⟨⟨⟨a1, a2, a3, a4⟩, a5, a6, a7, a8, a9, a10⟩, a11, a12⟩ := h
  have hk : ∀ k j, k ≠ 7 → k ≠ 8 → k ≠ 9 → k ≠ 10 → adP T 0 x0 x1 x2 k j = T k j := by
    intro k j h1 h2 h3 h4
    simp only [adP, h1, h2, h3, h4, if_false]
    split <;> rfl
  have e7 : adP T 0 x0 x1 x2 7 0 = T 7 0 + 1 := by simp [adP]
  have ewr : ∀ s m, wr (adP T 0 x0 x1 x2) s m = wr T s m := by
    intro s m; unfold wr; exact zsum_congr 0 _ (fun t _ => by rw [hk 5 t (by decide) (by decide) (by decide) (by decide)])
  refine ⟨⟨⟨?_, ?_, ?_, ?_⟩, ?_, ?_, ?_, ?_, ?_, ?_⟩, a11, ?_⟩
  · rw [hk 2 0 (by decide) (by decide) (by decide) (by decide)]; exact a1
  · rw [e7, ← a2]; rfl
  · rw [hk 11 0 (by decide) (by decide) (by decide) (by decide)]; exact a3
  · rw [hk 12 0 (by decide) (by decide) (by decide) (by decide)]; exact a4
  · intro t ht
    rw [hk 2 0 (by decide) (by decide) (by decide) (by decide)] at ht
    rw [hk 3 t (by decide) (by decide) (by decide) (by decide), hk 4 t (by decide) (by decide) (by decide) (by decide), hk 5 t (by decide) (by decide) (by decide) (by decide), hk 6 t (by decide) (by decide) (by decide) (by decide)]
    exact a5 t ht
  · intro p hp
    rw [e7] at hp
    rw [a2]
    by_cases q : p = T 7 0
    · subst q
      simp [prX, adP, va_up]
    · have := a6 p (by omega)
      simp [prX, adP, va_up, q]
      exact this
  · intro k hk'
    rw [hk 13 k (by decide) (by decide) (by decide) (by decide), hk 14 k (by decide) (by decide) (by decide) (by decide)]
    exact a7 k hk'
  · intro s hs
    rw [hk 2 0 (by decide) (by decide) (by decide) (by decide)] at hs ⊢
    have := a8 s hs
    refine ⟨this.1.trans (zsum_congr 0 _ (fun t _ => by rw [hk 3 t (by decide) (by decide) (by decide) (by decide)])), this.2.1.trans (ewr _ _).symm, ?_⟩
    show X 8 s = _
    rw [this.2.2]
    congr 1
    funext t
    rw [hk 6 t (by decide) (by decide) (by decide) (by decide)]
  · rw [hk 2 0 (by decide) (by decide) (by decide) (by decide)]
    exact a9
  · intro t ht
    rw [hk 2 0 (by decide) (by decide) (by decide) (by decide)] at ht
    rw [hk 4 t (by decide) (by decide) (by decide) (by decide)]
    exact a10 t ht
  · intro p hp
    rw [hk 15 p (by decide) (by decide) (by decide) (by decide)]
    exact a12 p hp
end ZS17
