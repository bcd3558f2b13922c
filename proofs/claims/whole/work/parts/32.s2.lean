/-- lengths of a tree's arrays by their places behind it -/
def tLen : Nat → Nat
  | 2 => 8
  | 3 => 8
  | 4 => 8
  | 5 => 8
  | 6 => 256
  | 7 => 256
  | 8 => 256
  | _ => 4
def tF (t : Nat) (J : Nat → Nat) : List Value := [.ref (t + 1), .ref (t + 9), .ref (t + 10), .ref (t + 11), .int (nI (J 4)), .int (nI (J 5)), .int (nI (J 6)), .int (nI (J 7)), .ref (t + 12), .ref (t + 13)]
def tG (t : Nat) (J : Nat → Nat) : List Value := [.ref (t + 2), .ref (t + 3), .ref (t + 4), .ref (t + 5), .int (nI (J 24)), .ref (t + 6), .ref (t + 7), .ref (t + 8), .int (nI (J 28)), .int (nI (J 29)), .int (nI (J 30))]
def tC (t : Nat) (J : Nat → Nat) (X : Nat → Nat → Nat) (k : Nat) : zC := if k = 0 then .inr (5, tF t J) else if k = 1 then .inr (4, tG t J) else iA (tLen k) (X k)
/-- a tree with its things at t .. t + 13 -/
def tH (h0 : zF) (t : Nat) (J : Nat → Nat) (X : Nat → Nat → Nat) : zF := fun b => if t ≤ b ∧ b < t + 14 then some (tC t J X (b - t)) else h0 b
theorem tLen_lt (k : Nat) : tLen k < 1000 := by unfold tLen; split <;> decide
section ZS3
variable {G : zG} {M : zM} {k mc ms pc n : Nat} {lv : List (Option Value)} {st : List Value} {u : Nat × Nat} {Q : zQ} {h0 : zF} {t : Nat} {J : Nat → Nat} {X : Nat → Nat → Nat}
theorem tH_0 : tH h0 t J X t = some (.inr (5, tF t J)) := by simp [tH, tC]
theorem tH_1 : tH h0 t J X (t + 1) = some (.inr (4, tG t J)) := by
  unfold tH tC
  rw [if_pos ⟨by omega, by omega⟩, show t + 1 - t = 1 by omega, if_neg (by decide), if_pos rfl]
theorem tH_k {q : Nat} (h1 : 2 ≤ q) (h2 : q < 14) : tH h0 t J X (t + q) = some (iA (tLen q) (X q)) := by
  unfold tH tC
  rw [if_pos ⟨by omega, by omega⟩, show t + q - t = q by omega, if_neg (by omega), if_neg (by omega)]
theorem tH_out {b : Nat} (h : b < t ∨ t + 14 ≤ b) : tH h0 t J X b = h0 b := by
  unfold tH; rw [if_neg (by omega)]
theorem tH_up {q : Nat} (h1 : 2 ≤ q) (h2 : q < 14) (f : Nat → Nat) : va_up (tH h0 t J X) (t + q) (some (iA (tLen q) f)) = tH h0 t J (va_up X q f) := by
  funext b
  unfold va_up tH tC
  by_cases hb : b = t + q
  · subst hb
    rw [if_pos rfl, if_pos ⟨by omega, by omega⟩, show t + q - t = q by omega, if_neg (by omega), if_neg (by omega)]
    simp
  · rw [if_neg hb]
    by_cases hr : t ≤ b ∧ b < t + 14
    · rw [if_pos hr, if_pos hr]
      have : b - t ≠ q := by omega
      simp [this]
    · rw [if_neg hr, if_neg hr]
theorem tH_upT {s x : Nat} (hs : (tF t J).set s (.int (nI x)) = tF t (va_up J s x)) (hg : tG t (va_up J s x) = tG t J) : va_up (tH h0 t J X) t (some (.inr (5, (tF t J).set s (.int (nI x))))) = tH h0 t (va_up J s x) X := by
  rw [hs]
  funext b
  unfold va_up tH
  by_cases hb : b = t
  · subst hb
    rw [if_pos rfl, if_pos ⟨by omega, by omega⟩, Nat.sub_self]
    rfl
  · rw [if_neg hb]
    by_cases hr : t ≤ b ∧ b < t + 14
    · rw [if_pos hr, if_pos hr]
      have h0 : b - t ≠ 0 := by omega
      unfold tC
      rw [if_neg h0, if_neg h0]
      unfold va_up at hg
      rw [hg]
    · rw [if_neg hr, if_neg hr]
theorem tH_upG {s x : Nat} (hs : (tG t J).set s (.int (nI x)) = tG t (va_up J (20 + s) x)) (hg : tF t (va_up J (20 + s) x) = tF t J) : va_up (tH h0 t J X) (t + 1) (some (.inr (4, (tG t J).set s (.int (nI x))))) = tH h0 t (va_up J (20 + s) x) X := by
  rw [hs]
  funext b
  unfold va_up tH
  by_cases hb : b = t + 1
  · subst hb
    rw [if_pos rfl, if_pos ⟨by omega, by omega⟩, show t + 1 - t = 1 by omega]
    rfl
  · rw [if_neg hb]
    by_cases hr : t ≤ b ∧ b < t + 14
    · rw [if_pos hr, if_pos hr]
      have h0 : b - t ≠ 1 := by omega
      unfold tC
      rw [if_neg h0, if_neg h0]
      unfold va_up at hg
      rw [hg]
    · rw [if_neg hr, if_neg hr]
theorem t_putT {s x idx : Nat} (hd : decode M.2.1 pc = .ok (.putfield idx, 3)) (hk : zFld M.1.cls idx 5 s) (hty : zFty 5 s .int false) (hlen : s < (tF t J).length) (hs : (tF t J).set s (.int (nI x)) = tF t (va_up J s x)) (hg : tG t (va_up J s x) = tG t J) (K : zEx G M k mc ms (pc + 3) lv st (tH h0 t (va_up J s x) X) n u Q) : zEx G M k mc ms pc lv (.int (nI x) :: .ref t :: st) (tH h0 t J X) n u Q := by
  refine x_putf hd hk hty tH_0 rfl rfl hlen ?_
  rw [tH_upT hs hg]
  exact K
theorem t_putG {s x idx : Nat} (hd : decode M.2.1 pc = .ok (.putfield idx, 3)) (hk : zFld M.1.cls idx 4 s) (hty : zFty 4 s .int false) (hlen : s < (tG t J).length) (hs : (tG t J).set s (.int (nI x)) = tG t (va_up J (20 + s) x)) (hg : tF t (va_up J (20 + s) x) = tF t J) (K : zEx G M k mc ms (pc + 3) lv st (tH h0 t (va_up J (20 + s) x) X) n u Q) : zEx G M k mc ms pc lv (.int (nI x) :: .ref (t + 1) :: st) (tH h0 t J X) n u Q := by
  refine x_putf hd hk hty tH_1 rfl rfl hlen ?_
  rw [tH_upG hs hg]
  exact K
theorem x_eqJ {J' : Nat → Nat} (e : J = J') (K : zEx G M k mc ms pc lv st (tH h0 t J' X) n u Q) : zEx G M k mc ms pc lv st (tH h0 t J X) n u Q := e ▸ K
theorem x_eqX {X' : Nat → Nat → Nat} (e : X = X') (K : zEx G M k mc ms pc lv st (tH h0 t J X') n u Q) : zEx G M k mc ms pc lv st (tH h0 t J X) n u Q := e ▸ K
end ZS3
/-- what a tree's cells say of the tree T -/
def tI (J : Nat → Nat) (X : Nat → Nat → Nat) (T : zT) : Prop :=
  (J 24 = T 2 0 ∧ J 4 = T 7 0 ∧ J 6 = T 11 0 ∧ J 7 = T 12 0) ∧ (∀ t, t < T 2 0 → X 2 t = T 3 t ∧ X 3 t = T 4 t ∧ X 4 t = T 5 t ∧ X 5 t = T 6 t) ∧ (∀ p, p < T 7 0 → X 9 p = T 8 p ∧ X 10 p = T 9 p ∧ X 11 p = T 10 p) ∧ (∀ k, k < 4 → X 12 k = T 13 k ∧ X 13 k = T 14 k) ∧
  (∀ s, s < 2 ^ T 2 0 → X 6 s = zsum 0 (fun t => if s.testBit t then T 3 t else 0) (T 2 0) ∧ X 7 s = wr T s (T 2 0) ∧ X 8 s = zprod 1 (fun t => if s.testBit t then T 6 t else 1) (T 2 0)) ∧
  (J 28 < 2 ^ T 2 0 ∧ J 29 < 2 ^ T 2 0 ∧ J 30 < 2 ^ T 2 0) ∧ ∀ t, t < T 2 0 → ((J 28).testBit t = decide (T 4 t = 1)) ∧ ((J 29).testBit t = decide (T 4 t = 2)) ∧ ((J 30).testBit t = !decide (T 4 t = 0))
theorem zsum_base (f : Nat → Nat) (b : Nat) : ∀ N, zsum b f N = b + zsum 0 f N
  | 0 => rfl
  | N + 1 => by show zsum b f N + f N = b + (zsum 0 f N + f N); rw [zsum_base f b N, Nat.add_assoc]
theorem and_bits0 {s r : Nat} : ∀ m, s < 2 ^ m → (s &&& r = 0 ↔ ∀ t, t < m → s.testBit t = true → r.testBit t = false) := by
  intro m hs
  constructor
  · intro h t ht hb
    have := congrArg (fun z => z.testBit t) h
    simp only [Nat.testBit_and, Nat.zero_testBit, hb, Bool.true_and] at this
    exact this
  · intro h
    apply Nat.eq_of_testBit_eq
    intro i
    rw [Nat.testBit_and, Nat.zero_testBit]
    by_cases hi : i < m
    · cases hb : s.testBit i with
      | false => rfl
      | true => rw [h i hi hb]; rfl
    · rw [Nat.testBit_lt_two_pow (Nat.lt_of_lt_of_le hs (Nat.pow_le_pow_right (by decide) (by omega)))]; rfl
theorem zsum_pos {f : Nat → Nat} : ∀ N, (0 < zsum 0 f N ↔ ∃ t, t < N ∧ 0 < f t)
  | 0 => by simp [zsum]
  | N + 1 => by
    show 0 < zsum 0 f N + f N ↔ _
    have ih := zsum_pos (f := f) N
    constructor
    · intro h
      by_cases h1 : 0 < f N
      · exact ⟨N, by omega, h1⟩
      · obtain ⟨t, ht, hf⟩ := ih.mp (by omega)
        exact ⟨t, by omega, hf⟩
    · rintro ⟨t, ht, hf⟩
      by_cases h1 : t = N
      · subst h1; omega
      · have := ih.mpr ⟨t, by omega, hf⟩; omega
theorem pop_bitsm {s m : Nat} (hm : m ≤ 8) (hs : s < 2 ^ m) : pop s = zsum 0 (fun t => if s.testBit t then 1 else 0) m := by
  have h8 : s < 256 := Nat.lt_of_lt_of_le hs (Nat.pow_le_pow_right (by decide) hm : 2 ^ m ≤ 2 ^ 8)
  rw [pop_bits s h8]
  have key : ∀ d, zsum 0 (fun t => if s.testBit t then 1 else 0) (m + d) = zsum 0 (fun t => if s.testBit t then 1 else 0) m := by
    intro d
    induction d with
    | zero => rfl
    | succ d ih =>
      show zsum 0 _ (m + d) + (if s.testBit (m + d) then 1 else 0) = _
      rw [ih, Nat.testBit_lt_two_pow (Nat.lt_of_lt_of_le hs (Nat.pow_le_pow_right (by decide) (by omega)))]
      rfl
  have := key (8 - m)
  rw [show m + (8 - m) = 8 by omega] at this
  exact this
theorem zsum_add (f g : Nat → Nat) : ∀ N, zsum 0 (fun t => f t + g t) N = zsum 0 f N + zsum 0 g N
  | 0 => rfl
  | N + 1 => by show zsum 0 (fun t => f t + g t) N + (f N + g N) = (zsum 0 f N + f N) + (zsum 0 g N + g N); rw [zsum_add f g N]; omega
section ZS4
variable {J : Nat → Nat} {X : Nat → Nat → Nat} {T : zT}
theorem tI_tip (hI : tI J X T) {s kd r : Nat} (hs : s < 2 ^ T 2 0) (hr : ∀ t, t < T 2 0 → r.testBit t = decide (T 4 t = kd)) : s &&& r = 0 ↔ ¬ 0 < mnOf T s kd := by
  rw [and_bits0 (T 2 0) hs, mnOf, zsum_pos]
  constructor
  · rintro h ⟨t, ht, hf⟩
    by_cases hc : s.testBit t = true ∧ T 4 t = kd
    · have := h t ht hc.1
      rw [hr t ht, decide_eq_false_iff_not] at this
      exact this hc.2
    · rw [if_neg hc] at hf; omega
  · intro h t ht hb
    rw [hr t ht, decide_eq_false_iff_not]
    exact fun q => h ⟨t, ht, by rw [if_pos ⟨hb, q⟩]; decide⟩
theorem tI_firm (hI : tI J X T) (hm : T 2 0 ≤ 8) {s : Nat} (hs : s < 2 ^ T 2 0) : pop (s &&& J 30) = pop s - mnOf T s 0 ∧ (s &&& J 30 = 0 ↔ pop s = mnOf T s 0) := by
  obtain ⟨-, -, -, -, -, -, h30⟩ := hI
  have hs2 : s &&& J 30 < 2 ^ T 2 0 := Nat.lt_of_le_of_lt Nat.and_le_left hs
  have e : pop s = pop (s &&& J 30) + mnOf T s 0 := by
    rw [pop_bitsm hm hs, pop_bitsm hm hs2, mnOf, ← zsum_add]
    refine zsum_congr 0 _ (fun t ht => ?_)
    rw [Nat.testBit_and, (h30 t ht).2.2]
    by_cases h1 : s.testBit t = true <;> by_cases h2 : T 4 t = 0 <;> simp [h1, h2]
  refine ⟨by omega, ?_⟩
  constructor
  · intro h
    rw [h] at e
    have : pop 0 = 0 := rfl
    omega
  · intro h
    have h0 : pop (s &&& J 30) = 0 := by omega
    rw [and_bits0 (T 2 0) hs]
    intro t ht hb
    cases hr : (J 30).testBit t with
    | false => rfl
    | true =>
      exfalso
      rw [pop_bitsm hm hs2] at h0
      have : 0 < zsum 0 (fun t => if (s &&& J 30).testBit t then 1 else 0) (T 2 0) := (zsum_pos (T 2 0)).mpr ⟨t, ht, by rw [Nat.testBit_and, hb, hr]; decide⟩
      omega
end ZS4
section ZS5
variable {G : zG} {n : Nat} {h0 : zF} {t : Nat} {J : Nat → Nat} {X : Nat → Nat → Nat} {T : zT}
theorem c_tipped {s : Nat} (hs : s < 2 ^ 31) : zI G MX4_tipped 0 [.ref (t + 1), .int (nI s)] (tH h0 t J X) n (nI ((if s &&& J 29 = 0 then 0 else 2) + (if s &&& J 28 = 0 then 0 else 1))) := by
  refine zCt.of rfl (Nat.le_of_ble_eq_true rfl) rfl ?_
  have h1 : s &&& J 29 ≤ s := Nat.and_le_left
  have h2 : s &&& J 28 ≤ s := Nat.and_le_left
  have K14 : ∀ x, x = (if s &&& J 29 = 0 then 0 else 2) → zEx G MX4_tipped 0 0 0 14 [some (.ref (t + 1)), some (.int (nI s))] [.int (nI x)] (tH h0 t J X) n (0, 0) (fun r h' n' => r = some (.int (nI ((if s &&& J 29 = 0 then 0 else 2) + (if s &&& J 28 = 0 then 0 else 1)))) ∧ h' = tH h0 t J X ∧ n' = n) := by
    intro x hx
    rw [← hx]
    refine x_iload_n dX4_tipped_14 rfl ?_
    refine x_aload_n dX4_tipped_15 rfl ?_
    refine x_getf dX4_tipped_16 flX4_37 tH_1 rfl ?_
    refine n_iand dX4_tipped_19 ?_
    refine n_if_eq (tgt := 27) dX4_tipped_20 (by decide) (by omega) (fun c1 => ?_) (fun c1 => ?_)
    · refine x_iconst (v := nI 0) dX4_tipped_27 (by decide) ?_
      refine n_iadd dX4_tipped_28 ?_
      refine x_iret dX4_tipped_29 rfl rfl ⟨Nat.le_refl _, Nat.le_refl _⟩ ?_
      exact ⟨by rw [if_pos c1], rfl, rfl⟩
    · refine x_iconst (v := nI 1) dX4_tipped_23 (by decide) ?_
      refine x_goto (tgt := 28) dX4_tipped_24 (by decide) ?_
      refine n_iadd dX4_tipped_28 ?_
      refine x_iret dX4_tipped_29 rfl rfl ⟨Nat.le_refl _, Nat.le_refl _⟩ ?_
      exact ⟨by rw [if_neg c1], rfl, rfl⟩
  refine x_iload_n dX4_tipped_0 rfl ?_
  refine x_aload_n dX4_tipped_1 rfl ?_
  refine x_getf dX4_tipped_2 flX4_40 tH_1 rfl ?_
  refine n_iand dX4_tipped_5 ?_
  refine n_if_eq (tgt := 13) dX4_tipped_6 (by decide) (by omega) (fun c1 => ?_) (fun c1 => ?_)
  · refine x_iconst (v := nI 0) dX4_tipped_13 (by decide) ?_
    exact K14 0 (by rw [if_pos c1])
  · refine x_iconst (v := nI 2) dX4_tipped_9 (by decide) ?_
    refine x_goto (tgt := 14) dX4_tipped_10 (by decide) ?_
    exact K14 2 (by rw [if_neg c1])
theorem c_shaken {s : Nat} (hs : s < 256) : zI G MX4_shaken 1 [.ref (t + 1), .int (nI s)] (tH h0 t J X) n (nI (pop (s &&& J 30))) := by
  refine zCt.of rfl (Nat.le_of_ble_eq_true rfl) rfl ?_
  have h1 : s &&& J 30 ≤ s := Nat.and_le_left
  refine x_iload_n dX4_shaken_0 rfl ?_
  refine x_aload_n dX4_shaken_1 rfl ?_
  refine x_getf dX4_shaken_2 flX4_43 tH_1 rfl ?_
  refine n_iand dX4_shaken_5 ?_
  refine x_cSi1 dX4_shaken_6 lkX4_58 mdJ6_bitCount_0f7a4 stJ6_bitCount_0f7a4 (by decide) (c_bitCount (by omega)) (Nat.le_of_ble_eq_true rfl) ⟨Nat.le_refl _, Nat.le_refl _⟩ ?_
  refine x_iret dX4_shaken_9 rfl rfl ⟨Nat.le_refl _, Nat.le_refl _⟩ ?_
  exact ⟨rfl, rfl, rfl⟩
theorem c_pressed {s : Nat} (hs : s < 2 ^ 31) : zI G MX4_pressed 0 [.ref (t + 1), .int (nI s)] (tH h0 t J X) n (nI (if s &&& J 30 = 0 then 1 else 0)) := by
  refine zCt.of rfl (Nat.le_of_ble_eq_true rfl) rfl ?_
  have h1 : s &&& J 30 ≤ s := Nat.and_le_left
  refine x_iload_n dX4_pressed_0 rfl ?_
  refine x_aload_n dX4_pressed_1 rfl ?_
  refine x_getf dX4_pressed_2 flX4_43 tH_1 rfl ?_
  refine n_iand dX4_pressed_5 ?_
  refine n_if_ne (tgt := 13) dX4_pressed_6 (by decide) (by omega) (fun c1 => ?_) (fun c1 => ?_)
  · refine x_iconst (v := nI 0) dX4_pressed_13 (by decide) ?_
    refine x_iret dX4_pressed_14 rfl rfl ⟨Nat.le_refl _, Nat.le_refl _⟩ ?_
    exact ⟨by rw [if_neg c1], rfl, rfl⟩
  · refine x_iconst (v := nI 1) dX4_pressed_9 (by decide) ?_
    refine x_goto (tgt := 14) dX4_pressed_10 (by decide) ?_
    refine x_iret dX4_pressed_14 rfl rfl ⟨Nat.le_refl _, Nat.le_refl _⟩ ?_
    exact ⟨by rw [if_pos c1], rfl, rfl⟩
end ZS5
