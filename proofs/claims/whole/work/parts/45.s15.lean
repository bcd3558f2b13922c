section ZS18
variable {J : Nat → Nat} {X : Nat → Nat → Nat} {T : zT}
theorem sI_set {w x y p : Nat} (hx : x < 4) (hy : y < 8) (hp : p < 4) : sI (w ||| 2 ^ (8 * x + y)) p = if p = x then sI w x ||| 2 ^ y else sI w p := by
  have key : sI (w ||| 2 ^ (8 * x + y)) p = sI w p ||| sI (2 ^ (8 * x + y)) p := by
    apply Nat.eq_of_testBit_eq
    intro i
    unfold sI
    rw [show (256 : Nat) = 2 ^ 8 from rfl]
    rw [Nat.testBit_or, Nat.testBit_mod_two_pow, Nat.testBit_mod_two_pow, Nat.testBit_mod_two_pow, Nat.testBit_div_two_pow, Nat.testBit_div_two_pow, Nat.testBit_div_two_pow, Nat.testBit_or]
    cases decide (i < 8) <;> simp
  have k2 : ∀ x, x < 4 → ∀ y, y < 8 → ∀ p, p < 4 → sI (2 ^ (8 * x + y)) p = if p = x then 2 ^ y else 0 := by decide +kernel
  rw [key, k2 x hx y hy p hp]
  by_cases q : p = x
  · subst q; rw [if_pos rfl, if_pos rfl]
  · rw [if_neg q, if_neg q, Nat.or_zero]
theorem tJ_truth (h : tJ J X T) {x y : Nat} (hx : x < 4) (hy : y < 8) : tJ (va_up J 5 (J 5 ||| 2 ^ (8 * x + y))) X (va_up T 15 (va_up (T 15) x (T 15 x ||| 2 ^ y))) := by
  obtain ⟨⟨⟨a1, a2, a3, a4⟩, a5, a6, a7, a8, a9, a10⟩, a11, a12⟩ := h
  refine ⟨⟨⟨a1, a2, a3, a4⟩, a5, a6, a7, a8, a9, a10⟩, ?_, fun p hp => ?_⟩
  · show J 5 ||| 2 ^ (8 * x + y) < 2 ^ 32
    exact Nat.or_lt_two_pow a11 (Nat.pow_lt_pow_right (by decide) (by omega))
  · show sI (J 5 ||| 2 ^ (8 * x + y)) p = va_up (T 15) x (T 15 x ||| 2 ^ y) p
    rw [sI_set hx hy hp]
    unfold va_up
    by_cases q : p = x
    · rw [if_pos q, if_pos q, a12 x hx]
    · rw [if_neg q, if_neg q, a12 p hp]
theorem zsum_lowb {f g : Nat → Nat} {s m : Nat} (hs : s < 2 ^ m) (hfg : ∀ t, t < m → f t = g t) : zsum 0 (fun t => if s.testBit t then f t else 0) (m + 1) = zsum 0 (fun t => if s.testBit t then g t else 0) m := by
  rw [zsum_bits, Nat.testBit_lt_two_pow hs]
  exact zsum_congr 0 _ (fun t ht => by rw [hfg t ht])
theorem zsum_highb {f g : Nat → Nat} {s m : Nat} (hs : s < 2 ^ m) (hfg : ∀ t, t < m → f t = g t) : zsum 0 (fun t => if (2 ^ m + s).testBit t then f t else 0) (m + 1) = zsum 0 (fun t => if s.testBit t then g t else 0) m + f m := by
  rw [zsum_bits, bit_add hs, if_pos rfl, if_pos rfl]
  congr 1
  refine zsum_congr 0 _ (fun t ht => ?_)
  have hb : (2 ^ m + s).testBit t = s.testBit t := by rw [bit_add hs, if_neg (by omega)]
  rw [hb, hfg t ht]
theorem zprod_congr {f g : Nat → Nat} : ∀ N, (∀ t, t < N → f t = g t) → zprod 1 f N = zprod 1 g N
  | 0, _ => rfl
  | N + 1, h => by
    show zprod 1 f N * f N = zprod 1 g N * g N
    rw [zprod_congr N (fun t ht => h t (by omega)), h N (by omega)]
theorem zprod_lowb {f g : Nat → Nat} {s m : Nat} (hs : s < 2 ^ m) (hfg : ∀ t, t < m → f t = g t) : zprod 1 (fun t => if s.testBit t then f t else 1) (m + 1) = zprod 1 (fun t => if s.testBit t then g t else 1) m := by
  show zprod 1 (fun t => if s.testBit t then f t else 1) m * (if s.testBit m then f m else 1) = _
  rw [Nat.testBit_lt_two_pow hs]
  show _ * 1 = _
  rw [Nat.mul_one]
  exact zprod_congr _ (fun t ht => by rw [hfg t ht])
theorem zprod_highb {f g : Nat → Nat} {s m : Nat} (hs : s < 2 ^ m) (hfg : ∀ t, t < m → f t = g t) : zprod 1 (fun t => if (2 ^ m + s).testBit t then f t else 1) (m + 1) = zprod 1 (fun t => if s.testBit t then g t else 1) m * f m := by
  show zprod 1 (fun t => if (2 ^ m + s).testBit t then f t else 1) m * (if (2 ^ m + s).testBit m then f m else 1) = _
  rw [bit_add hs, if_pos rfl, if_pos rfl]
  congr 1
  refine zprod_congr _ (fun t ht => ?_)
  have hb : (2 ^ m + s).testBit t = s.testBit t := by rw [bit_add hs, if_neg (by omega)]
  rw [hb, hfg t ht]
theorem bits_k {r m t : Nat} {c : Prop} [Decidable c] (hr : r < 2 ^ m) (ht : t < m + 1) : (if c then r ||| 2 ^ m else r) < 2 ^ (m + 1) ∧ (if c then r ||| 2 ^ m else r).testBit t = if t = m then decide c else r.testBit t := by
  have h1 : r < 2 ^ (m + 1) := Nat.lt_of_lt_of_le hr (Nat.pow_le_pow_right (by decide) (by omega))
  by_cases hc : c
  · rw [if_pos hc]
    refine ⟨Nat.or_lt_two_pow h1 (Nat.pow_lt_pow_right (by decide) (by omega)), ?_⟩
    rw [or_pow hr, bit_add hr, decide_eq_true hc]
  · rw [if_neg hc]
    refine ⟨h1, ?_⟩
    by_cases q : t = m
    · subst q; rw [if_pos rfl, decide_eq_false hc, Nat.testBit_lt_two_pow hr]
    · rw [if_neg q]
set_option maxHeartbeats 1000000 in
theorem tJ_thing (h : tJ J X T) (x0 x1 x2 x3 : Nat) : tJ (va_up (sbK J (2 ^ J 24) x1) 24 (J 24 + 1)) (adX (ad4 X (J 24) x0 x1 x2 x3) (2 ^ J 24) (2 ^ J 24) x0 x2 x3) (adT T 0 x0 x1 x2 x3) := by
  obtain ⟨⟨⟨a1, a2, a3, a4⟩, a5, a6, a7, a8, ⟨c1, c2, c3⟩, a10⟩, a11, a12⟩ := h
  rw [← a1] at a5 a8 c1 c2 c3 a10
  have hk : ∀ k j, k ≠ 2 → k ≠ 3 → k ≠ 4 → k ≠ 5 → k ≠ 6 → adT T 0 x0 x1 x2 x3 k j = T k j := by
    intro k j h1 h2 h3 h4 h5
    simp only [adT, h1, h2, h3, h4, h5, if_false]
    split <;> rfl
  have e2 : adT T 0 x0 x1 x2 x3 2 0 = J 24 + 1 := by rw [a1]; simp [adT]
  have em : adT T 0 x0 x1 x2 x3 3 (J 24) = x0 ∧ adT T 0 x0 x1 x2 x3 4 (J 24) = x1 ∧ adT T 0 x0 x1 x2 x3 5 (J 24) = x2 ∧ adT T 0 x0 x1 x2 x3 6 (J 24) = x3 := by
    rw [a1]; simp [adT]
  have et : ∀ t, t < J 24 → ∀ k, 3 ≤ k → adT T 0 x0 x1 x2 x3 k t = T k t := by
    intro t ht k hk
    simp only [adT]
    rw [if_neg (by omega), if_neg (by omega)]
  have hlow : ∀ k, k = 6 ∨ k = 7 ∨ k = 8 → ∀ s, s < 2 ^ J 24 → adX (ad4 X (J 24) x0 x1 x2 x3) (2 ^ J 24) (2 ^ J 24) x0 x2 x3 k s = X k s := by
    intro k hk s hs
    simp only [adX]
    rw [if_neg (by omega)]
    rcases hk with rfl | rfl | rfl <;> rfl
  have hhi : ∀ s, s < 2 ^ J 24 → adX (ad4 X (J 24) x0 x1 x2 x3) (2 ^ J 24) (2 ^ J 24) x0 x2 x3 6 (2 ^ J 24 + s) = X 6 s + x0 ∧ adX (ad4 X (J 24) x0 x1 x2 x3) (2 ^ J 24) (2 ^ J 24) x0 x2 x3 7 (2 ^ J 24 + s) = X 7 s + x2 ∧ adX (ad4 X (J 24) x0 x1 x2 x3) (2 ^ J 24) (2 ^ J 24) x0 x2 x3 8 (2 ^ J 24 + s) = X 8 s * x3 := by
    intro s hs
    have hc : 2 ^ J 24 ≤ 2 ^ J 24 + s ∧ 2 ^ J 24 + s < 2 ^ J 24 + 2 ^ J 24 := by omega
    unfold adX
    rw [if_pos hc, if_pos hc, if_pos hc, Nat.add_sub_cancel_left]
    exact ⟨rfl, rfl, rfl⟩
  have hsame : ∀ k j, k ≠ 2 → k ≠ 3 → k ≠ 4 → k ≠ 5 → k ≠ 6 → k ≠ 7 → k ≠ 8 → adX (ad4 X (J 24) x0 x1 x2 x3) (2 ^ J 24) (2 ^ J 24) x0 x2 x3 k j = X k j := by
    intro k j h2 h3 h4 h5 h6 h7 h8
    simp only [adX, ad4, va_up, h2, h3, h4, h5, h6, h7, h8, if_false]
    split <;> rfl
  have h25 : ∀ k j, k = 2 ∨ k = 3 ∨ k = 4 ∨ k = 5 → adX (ad4 X (J 24) x0 x1 x2 x3) (2 ^ J 24) (2 ^ J 24) x0 x2 x3 k j = ad4 X (J 24) x0 x1 x2 x3 k j := by
    intro k j hk
    have k6 : ¬ k = 6 := by omega
    have k7 : ¬ k = 7 := by omega
    have k8 : ¬ k = 8 := by omega
    simp only [adX, k6, k7, k8, if_false]
    split <;> rfl
  refine ⟨⟨⟨?_, ?_, ?_, ?_⟩, ?_, ?_, ?_, ?_, ⟨?_, ?_, ?_⟩, ?_⟩, a11, ?_⟩
  · rw [e2]; rfl
  · rw [hk 7 0 (by decide) (by decide) (by decide) (by decide) (by decide)]; exact a2
  · rw [hk 11 0 (by decide) (by decide) (by decide) (by decide) (by decide)]; exact a3
  · rw [hk 12 0 (by decide) (by decide) (by decide) (by decide) (by decide)]; exact a4
  · intro t ht
    rw [e2] at ht
    rw [h25 2 t (by decide), h25 3 t (by decide), h25 4 t (by decide), h25 5 t (by decide)]
    by_cases q : t = J 24
    · subst q
      rw [em.1, em.2.1, em.2.2.1, em.2.2.2]
      simp [ad4, va_up]
    · rw [et t (by omega) 3 (by decide), et t (by omega) 4 (by decide), et t (by omega) 5 (by decide), et t (by omega) 6 (by decide)]
      have := a5 t (by omega)
      simp [ad4, va_up, q]
      exact this
  · intro p hp
    rw [hk 7 0 (by decide) (by decide) (by decide) (by decide) (by decide)] at hp
    rw [hsame 9 p (by decide) (by decide) (by decide) (by decide) (by decide) (by decide) (by decide), hsame 10 p (by decide) (by decide) (by decide) (by decide) (by decide) (by decide) (by decide), hsame 11 p (by decide) (by decide) (by decide) (by decide) (by decide) (by decide) (by decide), hk 8 p (by decide) (by decide) (by decide) (by decide) (by decide), hk 9 p (by decide) (by decide) (by decide) (by decide) (by decide), hk 10 p (by decide) (by decide) (by decide) (by decide) (by decide)]
    exact a6 p hp
  · intro k hk'
    rw [hsame 12 k (by decide) (by decide) (by decide) (by decide) (by decide) (by decide) (by decide), hsame 13 k (by decide) (by decide) (by decide) (by decide) (by decide) (by decide) (by decide), hk 13 k (by decide) (by decide) (by decide) (by decide) (by decide), hk 14 k (by decide) (by decide) (by decide) (by decide) (by decide)]
    exact a7 k hk'
  · intro s hs
    rw [e2] at hs ⊢
    by_cases q : s < 2 ^ J 24
    · have := a8 s q
      rw [hlow 6 (by decide) s q, hlow 7 (by decide) s q, hlow 8 (by decide) s q, this.1, this.2.1, this.2.2]
      refine ⟨(zsum_lowb q (fun t ht => et t ht 3 (by decide))).symm, (zsum_lowb q (fun t ht => et t ht 5 (by decide))).symm, (zprod_lowb q (fun t ht => et t ht 6 (by decide))).symm⟩
    · obtain ⟨s', rfl⟩ := Nat.exists_eq_add_of_le (Nat.le_of_not_lt q)
      have hs' : s' < 2 ^ J 24 := by rw [Nat.pow_succ] at hs; omega
      have := a8 s' hs'
      have hh := hhi s' hs'
      rw [hh.1, hh.2.1, hh.2.2, this.1, this.2.1, this.2.2]
      refine ⟨?_, ?_, ?_⟩
      · rw [zsum_highb hs' (fun t ht => et t ht 3 (by decide)), em.1]
      · show _ = zsum 0 _ _
        rw [zsum_highb hs' (fun t ht => et t ht 5 (by decide)), em.2.2.1]; rfl
      · rw [zprod_highb hs' (fun t ht => et t ht 6 (by decide)), em.2.2.2]
  · rw [e2]; exact (bits_k (t := 0) c1 (by omega)).1
  · rw [e2]; exact (bits_k (t := 0) c2 (by omega)).1
  · rw [e2]
    have := (bits_k (t := 0) (c := ¬ x1 = 0) c3 (by omega)).1
    rw [ite_not] at this
    exact this
  · intro t ht
    rw [e2] at ht
    have b1 := (bits_k (t := t) (c := x1 = 1) c1 ht).2
    have b2 := (bits_k (t := t) (c := x1 = 2) c2 ht).2
    have b3 := (bits_k (t := t) (c := ¬ x1 = 0) c3 ht).2
    rw [ite_not] at b3
    refine ⟨b1.trans ?_, b2.trans ?_, b3.trans ?_⟩
    all_goals
      by_cases q : t = J 24
      · subst q
        rw [if_pos rfl, em.2.1]
        try simp
      · rw [if_neg q, et t (by omega) 4 (by decide)]
        first | exact (a10 t (by omega)).1 | exact (a10 t (by omega)).2.1 | exact (a10 t (by omega)).2.2
  · intro p hp
    rw [hk 15 p (by decide) (by decide) (by decide) (by decide) (by decide)]
    exact a12 p hp
end ZS18
