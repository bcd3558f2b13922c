section ZKA
variable {T : zT} {w : Nat}
theorem au_t15 (h : ∀ p, p < 4 → sI w p = T 15 p) : ∀ p, p ≤ 4 → au w p = tUsed T p
  | 0, _ => rfl
  | p + 1, hp => by unfold au tUsed; rw [au_t15 h p (by omega), h p (by omega)]
theorem wIs_t15 (h : ∀ p, p < 4 → sI w p = T 15 p) : ∀ p, p ≤ 4 → wIs T w p = tIs T p
  | 0, _ => rfl
  | p + 1, hp => by unfold wIs tIs; rw [wIs_t15 h p (by omega), h p (by omega), au_t15 h p (by omega), Nat.and_comm]
theorem isW_truth (h : ∀ p, p < 4 → sI w p = T 15 p) (hw : w < 2 ^ 32) (h7 : T 7 0 ≤ 4) : isW T w = truthT T := by
  unfold isW truthT
  rw [wIs_t15 h _ h7, ← h 0 (by decide), ← h 1 (by decide), ← h 2 (by decide), ← h 3 (by decide), cdOf_sI hw]
theorem wIs_pop : ∀ Q, wIs T w Q = true → ∀ p, p < Q → pop (sI w p) = T 10 p
  | 0, _, p, hp => absurd hp (by omega)
  | Q + 1, h, p, hp => by
    have h : (wIs T w Q && decide (pop (sI w Q) = T 10 Q) && decide (sI w Q &&& au w Q = 0)) = true := h
    rw [Bool.and_eq_true, Bool.and_eq_true, decide_eq_true_eq, decide_eq_true_eq] at h
    by_cases e : p = Q
    · subst e; exact h.1.2
    · exact wIs_pop Q h.1.1 p (by omega)
theorem wIs_le {d : Nat} : ∀ {Q}, wIs T w (Q + d) = true → wIs T w Q = true := by
  intro Q h
  cases hq : wIs T w Q with
  | true => rfl
  | false => rw [wIs_ext d Q hq] at h; cases h
theorem szs_au {m : Nat} (hm : m ≤ 8) (hs : ∀ p, p < 4 → sI w p < 2 ^ m) : ∀ Q, Q ≤ 4 → wIs T w Q = true → szs T Q = pop (au w Q)
  | 0, _, _ => rfl
  | Q + 1, hQ, h => by
    have h' : (wIs T w Q && decide (pop (sI w Q) = T 10 Q) && decide (sI w Q &&& au w Q = 0)) = true := h
    rw [Bool.and_eq_true, Bool.and_eq_true, decide_eq_true_eq, decide_eq_true_eq] at h'
    have ih := szs_au hm hs Q (by omega) h'.1.1
    have hpow : 2 ^ m ≤ 256 := (Nat.pow_le_pow_right (by decide) hm : 2 ^ m ≤ 2 ^ 8)
    have ha := au_lt (w := w) (m := m) Q (fun p hp => hs p (by omega))
    have hq := hs Q (by omega)
    show szs T Q + T 10 Q = pop (au w Q ||| sI w Q)
    rw [pop_or _ (by omega) _ (by omega) h'.2, ih, h'.1.2]
theorem pop_m {s m : Nat} (hm : m ≤ 8) (hs : s < 2 ^ m) : pop s ≤ m := by
  rw [pop_bitsm hm hs]
  have := zsum_le (f := fun t => if s.testBit t then 1 else 0) (m := 1) m 0 (fun t _ => by show (if s.testBit t then 1 else 0) ≤ 1; split <;> omega)
  omega
theorem szs_T2 (h2 : T 2 0 ≤ 8) (h7 : T 7 0 ≤ 4) (hs : ∀ p, p < 4 → sI w p < 2 ^ T 2 0) (h : wIs T w (T 7 0) = true) : szs T (T 7 0) ≤ T 2 0 := by
  rw [szs_au h2 hs _ h7 h]
  exact pop_m h2 (au_lt _ (fun p hp => hs p (by omega)))
/-- the class's room, by sizes -/
def mwF (m : Nat) (z : Nat → Nat) : Nat → Nat
  | 0 => 1
  | p + 1 => mwF m z p * (if z p = 1 then m - zsum 0 z p else (m - zsum 0 z p) * (m - zsum 0 z p - 1) / 2)
theorem mw_F (T : zT) : ∀ p, mw T p = mwF (T 2 0) (T 10) p
  | 0 => rfl
  | p + 1 => by unfold mw mwF; rw [mw_F T p]; rfl
theorem mwF_congr {m : Nat} {z z' : Nat → Nat} : ∀ p, (∀ i, i < p → z i = z' i) → mwF m z p = mwF m z' p
  | 0, _ => rfl
  | p + 1, h => by
    unfold mwF
    rw [mwF_congr p (fun i hi => h i (by omega)), h p (by omega), zsum_congr 0 p (fun i hi => h i (by omega))]
theorem mwF_dec : ∀ m, m < 9 → ∀ a, a < 2 → ∀ b, b < 2 → ∀ c, c < 2 → ∀ d, d < 2 → ∀ p, p < 5 → mwF m (fun i => [a + 1, b + 1, c + 1, d + 1].getD i 0) p ≤ 5040 := by decide +kernel
theorem mw_5040 (hk : tR T) : mw T (T 7 0) ≤ 5040 := by
  rw [mw_F]
  have h2 := hk.1
  have h7 := hk.2.1
  have hz : ∀ p, p < T 7 0 → 1 ≤ T 10 p ∧ T 10 p ≤ 2 := fun p hp => (hk.2.2.2.1 p hp).2.2
  have e : ∀ i, i < T 7 0 → T 10 i = ([(if 0 < T 7 0 then T 10 0 - 1 else 0) + 1, (if 1 < T 7 0 then T 10 1 - 1 else 0) + 1, (if 2 < T 7 0 then T 10 2 - 1 else 0) + 1, (if 3 < T 7 0 then T 10 3 - 1 else 0) + 1] : List Nat).getD i 0 := by
    intro i hi
    have := hz i hi
    rcases (show i = 0 ∨ i = 1 ∨ i = 2 ∨ i = 3 by omega) with rfl | rfl | rfl | rfl
    · show T 10 0 = (if 0 < T 7 0 then T 10 0 - 1 else 0) + 1
      rw [if_pos hi]; omega
    · show T 10 1 = (if 1 < T 7 0 then T 10 1 - 1 else 0) + 1
      rw [if_pos hi]; omega
    · show T 10 2 = (if 2 < T 7 0 then T 10 2 - 1 else 0) + 1
      rw [if_pos hi]; omega
    · show T 10 3 = (if 3 < T 7 0 then T 10 3 - 1 else 0) + 1
      rw [if_pos hi]; omega
  rw [mwF_congr (T 7 0) e]
  have hd : ∀ i, (if i < T 7 0 then T 10 i - 1 else 0) < 2 := by
    intro i
    split
    · have := hz i (by assumption); omega
    · omega
  exact mwF_dec _ (by omega) _ (hd 0) _ (hd 1) _ (hd 2) _ (hd 3) _ (by omega)
theorem sI_mod {p q : Nat} (hp : p ≤ 4) (hq : q < 4) : sI (w % 2 ^ (8 * p)) q = if q < p then sI w q else 0 := by
  apply Nat.eq_of_testBit_eq
  intro i
  by_cases h : q < p
  · rw [if_pos h]
    unfold sI
    rw [show (256 : Nat) = 2 ^ 8 from rfl, Nat.testBit_mod_two_pow, Nat.testBit_mod_two_pow, Nat.testBit_div_two_pow, Nat.testBit_div_two_pow, Nat.testBit_mod_two_pow]
    by_cases hi : i < 8
    · simp [hi]; intro _; omega
    · simp [hi]
  · rw [if_neg h]
    unfold sI
    rw [show (256 : Nat) = 2 ^ 8 from rfl, Nat.testBit_mod_two_pow, Nat.testBit_div_two_pow, Nat.testBit_mod_two_pow, Nat.zero_testBit]
    have hn : ¬ i + 8 * q < 8 * p := by omega
    simp [hn]
theorem used_au {p : Nat} (hp : p ≤ 3) : usedW (w % 2 ^ (8 * p)) = au w p := by
  unfold usedW
  rw [sI_mod (by omega) (by decide), sI_mod (by omega) (by decide), sI_mod (by omega) (by decide)]
  rcases (show p = 0 ∨ p = 1 ∨ p = 2 ∨ p = 3 by omega) with rfl | rfl | rfl | rfl
  · simp [au]
  · show (sI w 0 ||| 0) ||| 0 = 0 ||| sI w 0
    simp
  · show (sI w 0 ||| sI w 1) ||| 0 = (0 ||| sI w 0) ||| sI w 1
    simp
  · show (sI w 0 ||| sI w 1) ||| sI w 2 = ((0 ||| sI w 0) ||| sI w 1) ||| sI w 2
    simp
theorem pop_pos {s : Nat} (h : 1 ≤ pop s) : 1 ≤ s := by
  rcases Nat.eq_zero_or_pos s with z | z
  · subst z; exact absurd h (by decide)
  · exact z
theorem isW_lev (hk : tR T) (hs : ∀ p, p < 4 → sI w p < 2 ^ T 2 0) (h : wIs T w (T 7 0) = true) : ∀ p, p ≤ T 7 0 → w % 2 ^ (8 * p) ∈ lev T p
  | 0, _ => by simp [lev, Nat.mod_one]
  | p + 1, hp => by
    have h7 := hk.2.1
    have ih := isW_lev hk hs h p (by omega)
    have hw1 : wIs T w (p + 1) = true := wIs_le (d := T 7 0 - (p + 1)) (by rw [show p + 1 + (T 7 0 - (p + 1)) = T 7 0 by omega]; exact h)
    have h' : (wIs T w p && decide (pop (sI w p) = T 10 p) && decide (sI w p &&& au w p = 0)) = true := hw1
    rw [Bool.and_eq_true, Bool.and_eq_true, decide_eq_true_eq, decide_eq_true_eq] at h'
    have hz := (hk.2.2.2.1 p (by omega)).2.2
    have := lev_next (s := sI w p) hk.1 ih ⟨pop_pos (by omega), hs p (by omega)⟩ (by unfold okS; rw [used_au (by omega), h'.2, h'.1.2]; simp)
    rw [or_add _ (Nat.mod_lt _ (Nat.two_pow_pos _))] at this
    have e : w % 2 ^ (8 * (p + 1)) = w % 2 ^ (8 * p) + sI w p * 2 ^ (8 * p) := by
      rw [show 8 * (p + 1) = 8 * p + 8 from rfl, Nat.pow_add, Nat.mod_mul]
      unfold sI
      rw [Nat.mul_comm (2 ^ (8 * p)) _]
    rw [e]; exact this
theorem isW_wl (hk : tR T) (hw : w < 2 ^ 32) (hs : ∀ p, p < 4 → sI w p < 2 ^ T 2 0) (h0 : ∀ p, T 7 0 ≤ p → p < 4 → sI w p = 0) (h : isW T w = true) : w ∈ wl T := by
  unfold isW at h
  rw [Bool.and_eq_true] at h
  have h7 := hk.2.1
  have hl := isW_lev hk hs h.1 (T 7 0) (Nat.le_refl _)
  have e : w % 2 ^ (8 * T 7 0) = w := by
    apply Nat.mod_eq_of_lt
    have c := cdOf_sI hw
    rw [← c]
    rcases (show T 7 0 = 0 ∨ T 7 0 = 1 ∨ T 7 0 = 2 ∨ T 7 0 = 3 ∨ T 7 0 = 4 by omega) with q | q | q | q | q
    · rw [h0 0 (by omega) (by decide), h0 1 (by omega) (by decide), h0 2 (by omega) (by decide), h0 3 (by omega) (by decide), q]; decide
    · have b0 := sI_lt w 0
      rw [h0 1 (by omega) (by decide), h0 2 (by omega) (by decide), h0 3 (by omega) (by decide), q]
      unfold cdOf; simp; omega
    · have b0 := sI_lt w 0
      have b1 := sI_lt w 1
      rw [h0 2 (by omega) (by decide), h0 3 (by omega) (by decide), q]
      unfold cdOf
      rw [or_add (sI w 1) (show sI w 0 < 2 ^ 8 by omega)]
      simp; omega
    · have b0 := sI_lt w 0
      have b1 := sI_lt w 1
      have b2 := sI_lt w 2
      rw [h0 3 (by omega) (by decide), q]
      unfold cdOf
      rw [or_add (sI w 1) (show sI w 0 < 2 ^ 8 by omega), or_add (sI w 2) (show sI w 0 + sI w 1 * 2 ^ 8 < 2 ^ 16 by omega)]
      simp; omega
    · rw [q, c]; exact hw
  rw [e] at hl
  exact lev_wl hl h.2
end ZKA
theorem eqT_sym {T T' : zT} (h : eqT T T') : eqT T' T := ⟨⟨h.1.1.symm, h.1.2.1.symm, h.1.2.2.1.symm, h.1.2.2.2.symm⟩, fun t ht => ⟨(h.2.1 t ht).1.symm, (h.2.1 t ht).2.1.symm, (h.2.1 t ht).2.2.1.symm, (h.2.1 t ht).2.2.2.symm⟩, fun p hp => ⟨(h.2.2 p hp).1.symm, (h.2.2 p hp).2.1.symm, (h.2.2 p hp).2.2.1.symm, (h.2.2 p hp).2.2.2.1.symm, (h.2.2 p hp).2.2.2.2.symm⟩⟩
section ZKB
variable {L L' : zSh} {c n x : Nat} {P P' : Nat → Nat}
/-- the rows of the k-th worlds grow -/
def grL (L : zSh) (c n x k : Nat) : zSh := va_up (va_up L n (some (sA x))) (c + 32 + 2 * k) (some (sW n))
def grP (P : Nat → Nat) (n x k : Nat) : Nat → Nat := va_up (va_up P (2 + k) n) (5 + k) x
def kBd (c n : Nat) (P : Nat → Nat) : Prop := c + 93 ≤ n ∧ P 2 < n ∧ P 3 < n ∧ P 4 < n
theorem zSc.fr {q : Nat} (h : zSc L q) (e : ∀ b, q ≤ b → b < q + 4 → L' b = L b) : zSc L' q := ⟨(e _ (by omega) (by omega)).trans h.1, (e _ (by omega) (by omega)).trans h.2.1, (e _ (by omega) (by omega)).trans h.2.2.1, (e _ (by omega) (by omega)).trans h.2.2.2⟩
theorem zFi.fr {q : Nat} (h : zFi L q) (e : ∀ b, q ≤ b → b < q + 6 → L' b = L b) : zFi L' q := ⟨(e _ (by omega) (by omega)).trans h.1, (e _ (by omega) (by omega)).trans h.2.1, (e _ (by omega) (by omega)).trans h.2.2.1, (e _ (by omega) (by omega)).trans h.2.2.2.1, (e _ (by omega) (by omega)).trans h.2.2.2.2.1, (e _ (by omega) (by omega)).trans h.2.2.2.2.2⟩
theorem kL_grow {k : Nat} (hL : kL L c P) (hb : kBd c n P) (hk : k < 3) (hx : x < 1000000) : kL (grL L c n x k) c (grP P n x k) ∧ kBd c (n + 1) (grP P n x k) := by
  obtain ⟨b1, b2, b3, b4⟩ := hb
  have e : ∀ b, b ≠ n → b ≠ c + 32 + 2 * k → grL L c n x k b = L b := fun b h1 h2 => by unfold grL; rw [up_ne _ _ h2, up_ne _ _ h1]
  have en : grL L c n x k n = some (sA x) := by unfold grL; rw [up_ne _ _ (by omega), up_eq]
  have ew : grL L c n x k (c + 32 + 2 * k) = some (sW n) := by unfold grL; rw [up_eq]
  have p0 : grP P n x k 0 = P 0 := by unfold grP; rw [up_ne _ _ (by omega), up_ne _ _ (by omega)]
  have p1 : grP P n x k 1 = P 1 := by unfold grP; rw [up_ne _ _ (by omega), up_ne _ _ (by omega)]
  have pw : ∀ j, j < 3 → grP P n x k (2 + j) = if j = k then n else P (2 + j) := by
    intro j hj
    unfold grP
    rw [up_ne _ _ (by omega)]
    by_cases q : j = k
    · subst q; rw [up_eq, if_pos rfl]
    · rw [up_ne _ _ (by omega), if_neg q]
  have pl : ∀ j, j < 3 → grP P n x k (5 + j) = if j = k then x else P (5 + j) := by
    intro j hj
    unfold grP
    by_cases q : j = k
    · subst q; rw [up_eq, if_pos rfl]
    · rw [up_ne _ _ (by omega), up_ne _ _ (by omega), if_neg q]
  have q2 := pw 0 (by decide)
  have q3 := pw 1 (by decide)
  have q4 := pw 2 (by decide)
  have q5 := pl 0 (by decide)
  have q6 := pl 1 (by decide)
  have q7 := pl 2 (by decide)
  obtain ⟨l1, ⟨l2, l3, l4⟩, l5, l6, l7, l8, l9, ⟨u1, u2, u3⟩, ⟨v1, v2, v3⟩, l12, l13, l14, ⟨r1, r2, r3, r4, r5, r6⟩, ⟨s1, s2, s3⟩⟩ := hL
  unfold kL kBd
  rw [p0, p1, show grP P n x k 2 = (if 0 = k then n else P 2) from q2, show grP P n x k 3 = (if 1 = k then n else P 3) from q3, show grP P n x k 4 = (if 2 = k then n else P 4) from q4, show grP P n x k 5 = (if 0 = k then x else P 5) from q5, show grP P n x k 6 = (if 1 = k then x else P 6) from q6, show grP P n x k 7 = (if 2 = k then x else P 7) from q7]
  refine ⟨⟨(e _ (by omega) (by omega)).trans l1, ⟨(e _ (by omega) (by omega)).trans l2, (e _ (by omega) (by omega)).trans l3, (e _ (by omega) (by omega)).trans l4⟩, ?_, ?_, ?_, l8.fr (fun b h1 h2 => e b (by omega) (by omega)), l9.fr (fun b h1 h2 => e b (by omega) (by omega)), ⟨(e _ (by omega) (by omega)).trans u1, (e _ (by omega) (by omega)).trans u2, fun i hi => (u3 i hi).fr (fun b h1 h2 => e b (by omega) (by omega))⟩, ⟨(e _ (by omega) (by omega)).trans v1, (e _ (by omega) (by omega)).trans v2, fun i hi => (v3 i hi).fr (fun b h1 h2 => e b (by omega) (by omega))⟩, (e _ (by omega) (by omega)).trans l12, fun y h1 h2 => (e y (by omega) (by omega)).trans (l13 y h1 h2), l14, ?_, ?_⟩, ?_⟩
  · by_cases q : 0 = k
    · subst q; rw [if_pos rfl, if_pos rfl]; exact ⟨ew, en⟩
    · rw [if_neg q, if_neg q]; exact ⟨(e _ (by omega) (by omega)).trans l5.1, (e _ (by omega) (by omega)).trans l5.2⟩
  · by_cases q : 1 = k
    · subst q; rw [if_pos rfl, if_pos rfl]; exact ⟨ew, en⟩
    · rw [if_neg q, if_neg q]; exact ⟨(e _ (by omega) (by omega)).trans l6.1, (e _ (by omega) (by omega)).trans l6.2⟩
  · by_cases q : 2 = k
    · subst q; rw [if_pos rfl, if_pos rfl]; exact ⟨ew, en⟩
    · rw [if_neg q, if_neg q]; exact ⟨(e _ (by omega) (by omega)).trans l7.1, (e _ (by omega) (by omega)).trans l7.2⟩
  · rcases (show k = 0 ∨ k = 1 ∨ k = 2 by omega) with rfl | rfl | rfl
    · rw [if_pos rfl, if_neg (by decide), if_neg (by decide)]; omega
    · rw [if_neg (by decide), if_pos rfl, if_neg (by decide)]; omega
    · rw [if_neg (by decide), if_neg (by decide), if_pos rfl]; omega
  · rcases (show k = 0 ∨ k = 1 ∨ k = 2 by omega) with rfl | rfl | rfl
    · rw [if_pos rfl, if_neg (by decide), if_neg (by decide)]; omega
    · rw [if_neg (by decide), if_pos rfl, if_neg (by decide)]; omega
    · rw [if_neg (by decide), if_neg (by decide), if_pos rfl]; omega
  · rcases (show k = 0 ∨ k = 1 ∨ k = 2 by omega) with rfl | rfl | rfl
    · rw [if_pos rfl, if_neg (by decide), if_neg (by decide)]; omega
    · rw [if_neg (by decide), if_pos rfl, if_neg (by decide)]; omega
    · rw [if_neg (by decide), if_neg (by decide), if_pos rfl]; omega
end ZKB
