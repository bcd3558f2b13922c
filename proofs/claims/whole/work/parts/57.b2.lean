section ZB2
variable {A : Nat → Nat → Nat} {l : List Nat} {g μ : Nat → Bool}
theorem twF_spec {p N : Nat} {one two : Option Nat} (hs : ∀ w, w < N → μ w = true → 1 ≤ sI (A 16 w) p) (j : Nat) : ∀ i, i ≤ N → (twF A μ p one two i j = 0 ∧ ∀ w, w < i → μ w = true → 60 * ansO A one w + ansO A two w ≠ j) ∨ (∃ s, (1 ≤ s ∧ s < 256) ∧ twF A μ p one two i j = s ∧ (∃ w, w < i ∧ μ w = true ∧ 60 * ansO A one w + ansO A two w = j ∧ sI (A 16 w) p = s) ∧ ∀ w, w < i → μ w = true → 60 * ansO A one w + ansO A two w = j → sI (A 16 w) p = s) ∨ (twF A μ p one two i j = MX ∧ ∃ w w', (w < i ∧ w' < i) ∧ (μ w = true ∧ μ w' = true) ∧ (60 * ansO A one w + ansO A two w = j ∧ 60 * ansO A one w' + ansO A two w' = j) ∧ sI (A 16 w) p ≠ sI (A 16 w') p)
  | 0, _ => Or.inl ⟨rfl, fun w h => absurd h (by omega)⟩
  | i + 1, hi => by
    have ih := twF_spec (one := one) (two := two) hs j i (by omega)
    have e : twF A μ p one two (i + 1) j = (if μ i then va_up (twF A μ p one two i) (60 * ansO A one i + ansO A two i) (meetF (twF A μ p one two i (60 * ansO A one i + ansO A two i)) (sI (A 16 i) p)) else twF A μ p one two i) j := rfl
    by_cases hm : μ i = true
    · rw [if_pos hm] at e
      have hsi := hs i (by omega) hm
      have hsl := sI_lt (A 16 i) p
      by_cases hj : 60 * ansO A one i + ansO A two i = j
      · rw [hj, up_eq] at e
        rcases ih with ⟨h1, h2⟩ | ⟨s, h1, h2, ⟨w, w1, w2, w3, w4⟩, h4⟩ | ⟨h1, w, w', h2, h3, h4, h5⟩
        · refine Or.inr (Or.inl ⟨sI (A 16 i) p, ⟨hsi, hsl⟩, ?_, ⟨i, by omega, hm, hj, rfl⟩, ?_⟩)
          · rw [e, h1]; unfold meetF; rw [if_pos (Or.inl rfl)]
          · intro w hw hmw hjw
            by_cases ew : w = i
            · rw [ew]
            · exact absurd hjw (h2 w (by omega) hmw)
        · by_cases hss : s = sI (A 16 i) p
          · refine Or.inr (Or.inl ⟨s, h1, ?_, ⟨w, by omega, w2, w3, w4⟩, ?_⟩)
            · rw [e, h2]; unfold meetF; rw [if_pos (Or.inr hss), hss]
            · intro w hw hmw hjw
              by_cases ew : w = i
              · rw [ew, hss]
              · exact h4 w (by omega) hmw hjw
          · refine Or.inr (Or.inr ⟨?_, w, i, ⟨by omega, by omega⟩, ⟨w2, hm⟩, ⟨w3, hj⟩, by rw [w4]; exact hss⟩)
            rw [e, h2]; unfold meetF; rw [if_neg (by omega)]
        · refine Or.inr (Or.inr ⟨?_, w, w', ⟨by omega, by omega⟩, h3, h4, h5⟩)
          rw [e, h1]; unfold meetF; rw [if_neg (by unfold MX; omega)]
      · rw [up_ne _ _ (Ne.symm hj)] at e
        rw [e]
        rcases ih with ⟨h1, h2⟩ | ⟨s, h1, h2, ⟨w, w1, w2⟩, h4⟩ | ⟨h1, w, w', h2, h3⟩
        · refine Or.inl ⟨h1, fun w hw hmw => ?_⟩
          by_cases ew : w = i
          · rw [ew]; exact hj
          · exact h2 w (by omega) hmw
        · refine Or.inr (Or.inl ⟨s, h1, h2, ⟨w, by omega, w2⟩, fun w hw hmw hjw => ?_⟩)
          by_cases ew : w = i
          · rw [ew] at hjw; exact absurd hjw hj
          · exact h4 w (by omega) hmw hjw
        · exact Or.inr (Or.inr ⟨h1, w, w', ⟨by omega, by omega⟩, h3⟩)
    · rw [if_neg hm] at e
      rw [e]
      rcases ih with ⟨h1, h2⟩ | ⟨s, h1, h2, ⟨w, w1, w2⟩, h4⟩ | ⟨h1, w, w', h2, h3⟩
      · refine Or.inl ⟨h1, fun w hw hmw => ?_⟩
        by_cases ew : w = i
        · rw [ew] at hmw; exact absurd hmw hm
        · exact h2 w (by omega) hmw
      · refine Or.inr (Or.inl ⟨s, h1, h2, ⟨w, by omega, w2⟩, fun w hw hmw hjw => ?_⟩)
        by_cases ew : w = i
        · rw [ew] at hmw; exact absurd hmw hm
        · exact h4 w (by omega) hmw hjw
      · exact Or.inr (Or.inr ⟨h1, w, w', ⟨by omega, by omega⟩, h3⟩)
theorem twF_MX {p N : Nat} {one two : Option Nat} (hs : ∀ w, w < N → μ w = true → 1 ≤ sI (A 16 w) p) (j : Nat) : twF A μ p one two N j = MX ↔ ∃ w w', (w < N ∧ w' < N) ∧ (μ w = true ∧ μ w' = true) ∧ (60 * ansO A one w + ansO A two w = j ∧ 60 * ansO A one w' + ansO A two w' = j) ∧ sI (A 16 w) p ≠ sI (A 16 w') p := by
  rcases twF_spec (one := one) (two := two) hs j N (Nat.le_refl _) with ⟨h1, h2⟩ | ⟨s, h1, h2, _, h4⟩ | ⟨h1, h2⟩
  · constructor
    · intro h; rw [h1] at h; cases h
    · rintro ⟨w, w', a1, a2, a3, _⟩; exact absurd a3.1 (h2 w a1.1 a2.1)
  · constructor
    · intro h; rw [h2] at h; unfold MX at h; omega
    · rintro ⟨w, w', a1, a2, a3, a4⟩
      exact absurd ((h4 w a1.1 a2.1 a3.1).trans (h4 w' a1.2 a2.2 a3.2).symm) a4
  · exact ⟨fun _ => h2, fun _ => h1⟩
theorem knF_iff {f : Nat → Nat} {x : Nat} : ∀ b, knF f x b = true ↔ ∀ i, i < b → f (60 * x + i) ≠ MX
  | 0 => ⟨fun _ i h => absurd h (by omega), fun _ => rfl⟩
  | b + 1 => by
    have ih := knF_iff (f := f) (x := x) b
    rw [knF, Bool.and_eq_true, ih]
    constructor
    · rintro ⟨h1, h2⟩ i hi
      by_cases e : i = b
      · subst e; simpa using h2
      · exact h1 i (by omega)
    · intro h
      exact ⟨fun i hi => h i (by omega), by simpa using h b (by omega)⟩
theorem kn_iff {p N x : Nat} {one two : Option Nat} (hs : ∀ w, w < N → μ w = true → 1 ≤ sI (A 16 w) p) (h1 : ∀ w, w < N → ansO A one w < 60) (h2 : ∀ w, w < N → ansO A two w < 60) : knF (twF A μ p one two N) x 60 = true ↔ ∀ w w', w < N → w' < N → μ w = true → μ w' = true → ansO A one w = x → ansO A one w' = x → ansO A two w = ansO A two w' → sI (A 16 w) p = sI (A 16 w') p := by
  rw [knF_iff]
  constructor
  · intro h w w' hw hw' m m' a a' b
    refine Classical.byContradiction fun hne => ?_
    refine h (ansO A two w) (h2 w hw) ((twF_MX hs _).mpr ⟨w, w', ⟨hw, hw'⟩, ⟨m, m'⟩, ⟨by rw [a], by rw [a', b]⟩, hne⟩)
  · intro h i hi hmx
    obtain ⟨w, w', ⟨hw, hw'⟩, ⟨m, m'⟩, ⟨a, a'⟩, hne⟩ := (twF_MX hs _).mp hmx
    have q1 := h2 w hw
    have q2 := h2 w' hw'
    exact hne (h w w' hw hw' m m' (by omega) (by omega) (by omega))
theorem enK_iff {p N x : Nat} {one : Option Nat} : ∀ t, enK A μ p one N x t = true ↔ ∃ k, k < t ∧ knF (twF A μ p one (some k) N) x 60 = true
  | 0 => ⟨fun h => (by cases h), fun ⟨k, h, _⟩ => absurd h (by omega)⟩
  | t + 1 => by
    rw [enK, Bool.or_eq_true, enK_iff t]
    constructor
    · rintro (⟨k, h1, h2⟩ | h)
      · exact ⟨k, by omega, h2⟩
      · exact ⟨t, by omega, h⟩
    · rintro ⟨k, h1, h2⟩
      by_cases e : k = t
      · subst e; exact Or.inr h2
      · exact Or.inl ⟨k, by omega, h2⟩
theorem alF_iff {f : Nat → Bool} : ∀ x, alF f x = true ↔ ∀ i, i < x → f i = true
  | 0 => ⟨fun _ i h => absurd h (by omega), fun _ => rfl⟩
  | x + 1 => by
    rw [alF, Bool.and_eq_true, alF_iff x]
    constructor
    · rintro ⟨h1, h2⟩ i hi
      by_cases e : i = x
      · subst e; exact h2
      · exact h1 i (by omega)
    · intro h
      exact ⟨fun i hi => h i (by omega), h x (by omega)⟩
theorem fil_all (hA : arrIs (A 16) l) (h : mR l g μ) {P : Nat → Nat → Prop} : (∀ w w', w < l.length → w' < l.length → μ w = true → μ w' = true → P (A 16 w) (A 16 w')) ↔ ∀ x, x ∈ l.filter g → ∀ z, z ∈ l.filter g → P x z := by
  constructor
  · intro q x hx z hz
    rw [List.mem_filter] at hx hz
    obtain ⟨j, hj, e⟩ := List.getElem_of_mem hx.1
    obtain ⟨j2, hj2, e2⟩ := List.getElem_of_mem hz.1
    have ee : l.getD j 0 = x := by rw [List.getD_eq_getElem?_getD, List.getElem?_eq_getElem hj, Option.getD_some, e]
    have ee2 : l.getD j2 0 = z := by rw [List.getD_eq_getElem?_getD, List.getElem?_eq_getElem hj2, Option.getD_some, e2]
    have := q j j2 hj hj2 (by rw [h j hj, ee]; exact hx.2) (by rw [h j2 hj2, ee2]; exact hz.2)
    rwa [hA j hj, hA j2 hj2, ee, ee2] at this
  · intro q w w' hw hw' m m'
    rw [hA w hw, hA w' hw']
    rw [h w hw] at m
    rw [h w' hw'] at m'
    exact q _ (List.mem_filter.mpr ⟨getD_mem hw, m⟩) _ (List.mem_filter.mpr ⟨getD_mem hw', m'⟩)
theorem kn0_iff (hA : arrIs (A 16) l) (h : mR l g μ) {p : Nat} (hs : ∀ w, w < l.length → μ w = true → 1 ≤ sI (A 16 w) p) : knF (twF A μ p none none l.length) 0 60 = true ↔ kn0 (l.filter g) p := by
  rw [kn_iff (one := none) (two := none) hs (fun _ _ => (by decide : 0 < 60)) (fun _ _ => (by decide : 0 < 60))]
  rw [kn0, ← fil_all hA h (P := fun x z => sI x p = sI z p)]
  exact ⟨fun q w w' a b c d => q w w' a b c d rfl rfl rfl, fun q w w' a b c d _ _ _ => q w w' a b c d⟩
theorem ansO_aO {k w : Nat} : ansO A (some k) w = aO A k (A 16 w) := rfl
theorem ansO_60 (h60 : a60 A l.length) {k : Nat} (hk : k < 4 * A 7 0) : ∀ w, w < l.length → ansO A (some k) w < 60 := fun w hw => h60 w hw (k / 4) (by omega) (k % 4) (by omega)
theorem en1_iff (hA : arrIs (A 16) l) (h : mR l g μ) (h60 : a60 A l.length) (h71 : 1 ≤ A 7 0) {p : Nat} (hs : ∀ w, w < l.length → μ w = true → 1 ≤ sI (A 16 w) p) : enF A μ p none l.length = true ↔ en1 A (l.filter g) p := by
  unfold enF en1
  rw [alF_iff]
  constructor
  · intro q
    obtain ⟨k, hk, hq⟩ := (enK_iff _).mp (q 0 (by decide))
    rw [kn_iff (one := none) hs (fun _ _ => (by decide : 0 < 60)) (ansO_60 h60 hk)] at hq
    refine ⟨k, hk, ?_⟩
    rw [telL, ← fil_all hA h (P := fun x z => aO A k x = aO A k z → sI x p = sI z p)]
    exact fun w w' a b c d e => hq w w' a b c d rfl rfl e
  · rintro ⟨k, hk, hq⟩ x _
    refine (enK_iff _).mpr ⟨k, hk, ?_⟩
    rw [kn_iff (one := none) hs (fun _ _ => (by decide : 0 < 60)) (ansO_60 h60 hk)]
    rw [telL, ← fil_all hA h (P := fun x z => aO A k x = aO A k z → sI x p = sI z p)] at hq
    exact fun w w' a b c d _ _ e => hq w w' a b c d e
theorem en2_iff (hA : arrIs (A 16) l) (h : mR l g μ) (h60 : a60 A l.length) {p o : Nat} (ho : o < 4 * A 7 0) (hs : ∀ w, w < l.length → μ w = true → 1 ≤ sI (A 16 w) p) : enF A μ p (some o) l.length = true ↔ en2 A (l.filter g) p o := by
  unfold enF en2
  rw [alF_iff]
  have key : ∀ q k, k < 4 * A 7 0 → (knF (twF A μ p (some o) (some k) l.length) q 60 = true ↔ telG A (l.filter g) o q k p) := by
    intro q k hk
    rw [kn_iff hs (ansO_60 h60 ho) (ansO_60 h60 hk), telG, ← fil_all hA h (P := fun x z => aO A o x = q → aO A o z = q → aO A k x = aO A k z → sI x p = sI z p)]
    rfl
  constructor
  · intro q x hx
    by_cases e : x < 60
    · obtain ⟨k, hk, hq⟩ := (enK_iff _).mp (q x e)
      exact ⟨k, hk, (key x k hk).mp hq⟩
    · refine ⟨0, by omega, ?_⟩
      rw [telG, ← fil_all hA h (P := fun x' z => aO A o x' = x → aO A o z = x → aO A 0 x' = aO A 0 z → sI x' p = sI z p)]
      intro w w' hw hw' _ _ h1
      have := ansO_60 h60 ho w hw
      rw [ansO_aO, h1] at this
      omega
  · intro q x hx
    obtain ⟨k, hk, hq⟩ := q x (by omega)
    exact (enK_iff _).mpr ⟨k, hk, (key x k hk).mpr hq⟩
theorem fewL_iff {p N : Nat} : ∀ r k, (fewL A μ p N r k = nI 2 ∧ ∃ o, (k ≤ o ∧ o < k + r) ∧ enF A μ p (some o) N = true) ∨ (fewL A μ p N r k = -4 ∧ ∀ o, k ≤ o → o < k + r → enF A μ p (some o) N = false)
  | 0, k => Or.inr ⟨rfl, fun o h1 h2 => absurd h2 (by omega)⟩
  | r + 1, k => by
    unfold fewL
    by_cases hc : enF A μ p (some k) N = true
    · rw [if_pos hc]; exact Or.inl ⟨rfl, k, by omega, hc⟩
    · rw [if_neg hc]
      rcases fewL_iff r (k + 1) with ⟨h1, o, h2, h3⟩ | ⟨h1, h2⟩
      · exact Or.inl ⟨h1, o, by omega, h3⟩
      · refine Or.inr ⟨h1, fun o h3 h4 => ?_⟩
        by_cases e : o = k
        · subst e; simpa using hc
        · exact h2 o (by omega) (by omega)
theorem sFew_list (hA : arrIs (A 16) l) (h : mR l g μ) (h60 : a60 A l.length) (h71 : 1 ≤ A 7 0) {p : Nat} (hs : ∀ w, w < l.length → μ w = true → 1 ≤ sI (A 16 w) p) {v : Int32} (hv : fwP A (l.filter g) p v) : v = if (l.filter g).length = 0 then -4 else sFew A μ p l.length := by
  rcases hv with ⟨h1, h2⟩ | ⟨h1, h2⟩
  · rw [h1, h2]; rfl
  · have hpos : 0 < (l.filter g).length := List.length_pos_iff.mpr h1
    rw [if_neg (by omega)]
    unfold sFew
    have e0 := kn0_iff hA h hs
    have e1 := en1_iff hA h h60 h71 hs
    rcases h2 with ⟨a, b⟩ | ⟨a, b, c⟩ | ⟨a, b, ⟨o, ho, c⟩, d⟩ | ⟨a, b, c, d⟩
    · rw [if_pos (e0.mpr a)]; exact b
    · rw [if_neg (fun z => a (e0.mp z)), if_pos (e1.mpr b)]; exact c
    · rw [if_neg (fun z => a (e0.mp z)), if_neg (fun z => b (e1.mp z))]
      rcases fewL_iff (A := A) (μ := μ) (p := p) (N := l.length) (4 * A 7 0) 0 with ⟨q1, _⟩ | ⟨q1, q2⟩
      · rw [q1]; exact d
      · have := q2 o (by omega) (by omega)
        rw [(en2_iff hA h h60 ho hs).mpr c] at this
        cases this
    · rw [if_neg (fun z => a (e0.mp z)), if_neg (fun z => b (e1.mp z))]
      rcases fewL_iff (A := A) (μ := μ) (p := p) (N := l.length) (4 * A 7 0) 0 with ⟨q1, o, q2, q3⟩ | ⟨q1, q2⟩
      · exact absurd ⟨o, by omega, (en2_iff hA h h60 (by omega) hs).mp q3⟩ c
      · rw [q1]; exact d
end ZB2
