/-- up to a bound, by closed forms -/
theorem z_up {P : Nat → Prop} (N : Nat) (hs : ∀ t, t ≤ N → (t < N → P (t + 1)) → P t) : ∀ t, t ≤ N → P t := by
  have h : ∀ d t, t + d = N → P t := by
    intro d
    induction d with
    | zero => intro t ht; exact hs t (by omega) (fun q => absurd q (by omega))
    | succ d ih => intro t ht; exact hs t (by omega) (fun q => ih (t + 1) (by omega))
  exact fun t ht => h (N - t) t (by omega)
theorem ite_app {α β : Type} (c : Prop) [Decidable c] (f g : α → β) (x : α) : (if c then f else g) x = if c then f x else g x := by
  by_cases h : c <;> simp [h]
/-- sums from a start -/
def zsum (b : Nat) (f : Nat → Nat) : Nat → Nat
  | 0 => b
  | t + 1 => zsum b f t + f t
def zprod (b : Nat) (f : Nat → Nat) : Nat → Nat
  | 0 => b
  | t + 1 => zprod b f t * f t
def mLen : Nat → Nat
  | 1 => 200
  | 2 => 2
  | 3 => 16
  | 4 => 16
  | 5 => 16
  | 6 => 16
  | 7 => 2
  | 8 => 8
  | 9 => 8
  | 10 => 8
  | 11 => 2
  | 12 => 2
  | 13 => 8
  | 14 => 8
  | 15 => 4
  | 16 => 5040
  | 17 => 21
  | 18 => 168
  | 19 => 42
  | 20 => 4
  | 21 => 5040
  | 22 => 5040
  | 23 => 256
  | 24 => 60
  | 25 => 3600
  | 26 => 60
  | _ => 0
def mTy : Nat → FieldType
  | 22 => .boolean
  | 26 => .boolean
  | _ => .int
def mFs (a : Nat) (I : Nat → Nat) : List Value := [.int (nI (I 0)), .ref (a + 1), .ref (a + 2), .ref (a + 3), .ref (a + 4), .ref (a + 5), .ref (a + 6), .ref (a + 7), .ref (a + 8), .ref (a + 9), .ref (a + 10), .ref (a + 11), .ref (a + 12), .ref (a + 13), .ref (a + 14), .ref (a + 15), .ref (a + 16), .int (nI (I 17)), .ref (a + 17), .ref (a + 18), .int (nI (I 20)), .ref (a + 19), .int (nI (I 22)), .int (nI (I 23)), .ref (a + 20), .ref (a + 21), .ref (a + 22), .ref (a + 23), .ref (a + 24), .int (nI (I 29)), .ref (a + 25), .ref (a + 26), .int (nI (I 32))]
def mC (a : Nat) (I : Nat → Nat) (A : Nat → Nat → Nat) (B : Nat → Nat) (k : Nat) : zC := if k = 0 then .inr (8, mFs a I) else if k = 23 then .inl (.long, 256, .inr (.inl (fun j => lN (B j)))) else .inl (mTy k, mLen k, .inl (fun j => nI (A k j)))
/-- the heap: the reference's cells at a, a + 1 .. a + 26, all else as in h0 -/
def mH (h0 : zF) (a : Nat) (I : Nat → Nat) (A : Nat → Nat → Nat) (B : Nat → Nat) : zF := fun b => if a ≤ b ∧ b < a + 27 then some (mC a I A B (b - a)) else h0 b
section ZMO
variable {G : zG} {M : zM} {k mc ms pc n : Nat} {lv : List (Option Value)} {st : List Value} {u : Nat × Nat} {Q : zQ} {h0 : zF} {a : Nat} {I : Nat → Nat} {A : Nat → Nat → Nat} {B : Nat → Nat}
theorem mH_a : mH h0 a I A B a = some (.inr (8, mFs a I)) := by simp [mH, mC]
theorem mH_k {q : Nat} (h1 : 0 < q) (h2 : q < 27) (h3 : q ≠ 23) : mH h0 a I A B (a + q) = some (.inl (mTy q, mLen q, .inl (fun j => nI (A q j)))) := by
  unfold mH mC
  rw [if_pos ⟨by omega, by omega⟩, show a + q - a = q by omega, if_neg (by omega), if_neg h3]
theorem mH_23 : mH h0 a I A B (a + 23) = some (.inl (.long, 256, .inr (.inl (fun j => lN (B j))))) := by
  unfold mH mC
  rw [if_pos ⟨by omega, by omega⟩, show a + 23 - a = 23 by omega, if_neg (by omega), if_pos rfl]
theorem mH_out {b : Nat} (h : b < a ∨ a + 27 ≤ b) : mH h0 a I A B b = h0 b := by
  unfold mH
  rw [if_neg (by omega)]
theorem up_nI (f : Nat → Nat) (j x : Nat) : va_up (fun i => nI (f i)) j (nI x) = fun i => nI (va_up f j x i) := by
  funext i; unfold va_up; by_cases h : i = j <;> simp [h]
theorem up_lN (f : Nat → Nat) (j x : Nat) : va_up (fun i => lN (f i)) j (lN x) = fun i => lN (va_up f j x i) := by
  funext i; unfold va_up; by_cases h : i = j <;> simp [h]
theorem mH_upk {q : Nat} (h1 : 0 < q) (h2 : q < 27) (h3 : q ≠ 23) (f : Nat → Nat) : va_up (mH h0 a I A B) (a + q) (some (.inl (mTy q, mLen q, .inl (fun j => nI (f j))))) = mH h0 a I (va_up A q f) B := by
  funext b
  unfold va_up mH mC
  by_cases hb : b = a + q
  · subst hb
    rw [if_pos rfl, if_pos ⟨by omega, by omega⟩, show a + q - a = q by omega, if_neg (by omega), if_neg h3]
    simp
  · rw [if_neg hb]
    by_cases hr : a ≤ b ∧ b < a + 27
    · rw [if_pos hr, if_pos hr]
      have : b - a ≠ q := by omega
      simp [this]
    · rw [if_neg hr, if_neg hr]
theorem mH_up23 (f : Nat → Nat) : va_up (mH h0 a I A B) (a + 23) (some (.inl (.long, 256, .inr (.inl (fun j => lN (f j)))))) = mH h0 a I A f := by
  funext b
  unfold va_up mH mC
  by_cases hb : b = a + 23
  · subst hb
    rw [if_pos rfl, if_pos ⟨by omega, by omega⟩, show a + 23 - a = 23 by omega, if_neg (by omega), if_pos rfl]
  · rw [if_neg hb]
    by_cases hr : a ≤ b ∧ b < a + 27
    · rw [if_pos hr, if_pos hr]
      have : b - a ≠ 23 := by omega
      simp [this]
    · rw [if_neg hr, if_neg hr]
theorem mH_upI {s x : Nat} (hs : (mFs a I).set s (.int (nI x)) = mFs a (va_up I s x)) : va_up (mH h0 a I A B) a (some (.inr (8, (mFs a I).set s (.int (nI x))))) = mH h0 a (va_up I s x) A B := by
  rw [hs]
  funext b
  unfold va_up mH mC
  by_cases hb : b = a
  · subst hb
    rw [if_pos rfl, if_pos ⟨by omega, by omega⟩, show b - b = 0 by omega, if_pos rfl]
  · rw [if_neg hb]
    by_cases hr : a ≤ b ∧ b < a + 27
    · rw [if_pos hr, if_pos hr]
      have : b - a ≠ 0 := by omega
      simp [this]
    · rw [if_neg hr, if_neg hr]
theorem mH_over {I' : Nat → Nat} {A' : Nat → Nat → Nat} {B' : Nat → Nat} : mH (mH h0 a I A B) a I' A' B' = mH h0 a I' A' B' := by
  funext b
  unfold mH
  by_cases hr : a ≤ b ∧ b < a + 27
  · rw [if_pos hr, if_pos hr]
  · rw [if_neg hr, if_neg hr, if_neg hr]
def mInt (q : Nat) : Bool := decide (0 < q) && decide (q < 27) && !(q == 23) && !(q == 22) && !(q == 26)
def mBoo (q : Nat) : Bool := (q == 22) || (q == 26)
theorem mInt_ty {q : Nat} (h : mInt q = true) : 0 < q ∧ q < 27 ∧ q ≠ 23 ∧ mTy q = .int := by
  simp [mInt] at h
  obtain ⟨⟨⟨⟨h1, h2⟩, h3⟩, h4⟩, h5⟩ := h
  refine ⟨h1, h2, h3, ?_⟩
  unfold mTy
  split <;> first | rfl | (exfalso; omega)
theorem m_iald {q j : Nat} (hd : decode M.2.1 pc = .ok (.iaload, 1)) (hq : mInt q = true) (hj : j < mLen q) (hm : mLen q < 2 ^ 31) (K : zEx G M k mc ms (pc + 1) lv (.int (nI (A q j)) :: st) (mH h0 a I A B) n u Q) : zEx G M k mc ms pc lv (.int (nI j) :: .ref (a + q) :: st) (mH h0 a I A B) n u Q := by
  obtain ⟨h1, h2, h3, h4⟩ := mInt_ty hq
  refine x_iald hd (by rw [mH_k h1 h2 h3, h4]) (vp_in_nI hj hm) ?_
  rw [nI_clamp (by omega)]
  exact K
theorem m_iast {q j x : Nat} (hd : decode M.2.1 pc = .ok (.iastore, 1)) (hq : mInt q = true) (hj : j < mLen q) (hm : mLen q < 2 ^ 31) (K : zEx G M k mc ms (pc + 1) lv st (mH h0 a I (va_up A q (va_up (A q) j x)) B) n u Q) : zEx G M k mc ms pc lv (.int (nI x) :: .int (nI j) :: .ref (a + q) :: st) (mH h0 a I A B) n u Q := by
  obtain ⟨h1, h2, h3, h4⟩ := mInt_ty hq
  refine x_iast hd (by rw [mH_k h1 h2 h3, h4]) (vp_in_nI hj hm) ?_
  rw [nI_clamp (by omega), up_nI, ← h4, mH_upk h1 h2 h3]
  exact K
theorem mBoo_ty {q : Nat} (h : mBoo q = true) : 0 < q ∧ q < 27 ∧ q ≠ 23 ∧ mTy q = .boolean := by
  simp [mBoo] at h
  rcases h with rfl | rfl <;> exact ⟨by decide, by decide, by decide, rfl⟩
theorem m_zald {q j : Nat} (hd : decode M.2.1 pc = .ok (.baload, 1)) (hq : mBoo q = true) (hj : j < mLen q) (hm : mLen q < 2 ^ 31) (K : zEx G M k mc ms (pc + 1) lv (.int (nI (A q j)) :: st) (mH h0 a I A B) n u Q) : zEx G M k mc ms pc lv (.int (nI j) :: .ref (a + q) :: st) (mH h0 a I A B) n u Q := by
  obtain ⟨h1, h2, h3, h4⟩ := mBoo_ty hq
  refine x_zald hd (by rw [mH_k h1 h2 h3, h4]) (vp_in_nI hj hm) ?_
  rw [nI_clamp (by omega)]
  exact K
theorem nar_b : ∀ b : Bool, narrow .boolean (.int (nI b.toNat)) = .int (nI b.toNat) := by
  intro b; cases b <;> rfl
theorem m_zast {q j : Nat} {b : Bool} (hd : decode M.2.1 pc = .ok (.bastore, 1)) (hq : mBoo q = true) (hj : j < mLen q) (hm : mLen q < 2 ^ 31) (K : zEx G M k mc ms (pc + 1) lv st (mH h0 a I (va_up A q (va_up (A q) j b.toNat)) B) n u Q) : zEx G M k mc ms pc lv (.int (nI b.toNat) :: .int (nI j) :: .ref (a + q) :: st) (mH h0 a I A B) n u Q := by
  obtain ⟨h1, h2, h3, h4⟩ := mBoo_ty hq
  refine x_zast hd (by rw [mH_k h1 h2 h3, h4]) (vp_in_nI hj hm) (nar_b b) ?_
  rw [nI_clamp (by omega), up_nI, ← h4, mH_upk h1 h2 h3]
  exact K
theorem m_lald {j : Nat} (hd : decode M.2.1 pc = .ok (.laload, 1)) (hj : j < 256) (K : zEx G M k mc ms (pc + 1) lv (.long (lN (B j)) :: st) (mH h0 a I A B) n u Q) : zEx G M k mc ms pc lv (.int (nI j) :: .ref (a + 23) :: st) (mH h0 a I A B) n u Q := by
  refine x_lald hd mH_23 (vp_in_nI hj (by decide)) ?_
  rw [nI_clamp (by omega)]
  exact K
theorem m_last {j x : Nat} (hd : decode M.2.1 pc = .ok (.lastore, 1)) (hj : j < 256) (K : zEx G M k mc ms (pc + 1) lv st (mH h0 a I A (va_up B j x)) n u Q) : zEx G M k mc ms pc lv (.long (lN x) :: .int (nI j) :: .ref (a + 23) :: st) (mH h0 a I A B) n u Q := by
  refine x_last hd mH_23 (vp_in_nI hj (by decide)) ?_
  rw [nI_clamp (by omega), up_lN, mH_up23]
  exact K
theorem m_put {s x idx : Nat} (hd : decode M.2.1 pc = .ok (.putfield idx, 3)) (hk : zFld M.1.cls idx 8 s) (hty : zFty 8 s .int false) (hlen : s < (mFs a I).length) (hs : (mFs a I).set s (.int (nI x)) = mFs a (va_up I s x)) (K : zEx G M k mc ms (pc + 3) lv st (mH h0 a (va_up I s x) A B) n u Q) : zEx G M k mc ms pc lv (.int (nI x) :: .ref a :: st) (mH h0 a I A B) n u Q := by
  refine x_putf hd hk hty mH_a rfl rfl hlen ?_
  rw [mH_upI hs]
  exact K
theorem x_eqA {A' : Nat → Nat → Nat} (e : A = A') (K : zEx G M k mc ms pc lv st (mH h0 a I A' B) n u Q) : zEx G M k mc ms pc lv st (mH h0 a I A B) n u Q := e ▸ K
theorem x_eqI {I' : Nat → Nat} (e : I = I') (K : zEx G M k mc ms pc lv st (mH h0 a I' A B) n u Q) : zEx G M k mc ms pc lv st (mH h0 a I A B) n u Q := e ▸ K
end ZMO
