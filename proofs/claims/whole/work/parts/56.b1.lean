theorem zsum_take (F : Nat → Nat) (l : List Nat) : ∀ i, i ≤ l.length → zsum 0 (fun w => F (l.getD w 0)) i = ((l.take i).map F).sum
  | 0, _ => by simp [zsum]
  | i + 1, h => by
    rw [take_succ' (by omega), List.map_append, List.sum_append]
    show zsum 0 (fun w => F (l.getD w 0)) i + F (l.getD i 0) = _
    rw [zsum_take F l i (by omega)]
    simp
theorem zsum_list (F : Nat → Nat) (l : List Nat) : zsum 0 (fun w => F (l.getD w 0)) l.length = (l.map F).sum := by
  rw [zsum_take F l _ (Nat.le_refl _), List.take_length]
theorem sum_fil (F : Nat → Nat) (g : Nat → Bool) : ∀ l : List Nat, ((l.filter g).map F).sum = (l.map (fun x => if g x then F x else 0)).sum
  | [] => rfl
  | x :: l => by
    have ih := sum_fil F g l
    by_cases h : g x = true
    · rw [List.filter_cons_of_pos h]; simp [ih, h]
    · rw [List.filter_cons_of_neg h]; simp [ih, h]
theorem zsum_fil (F : Nat → Nat) (g : Nat → Bool) (l : List Nat) : zsum 0 (fun i => F ((l.filter g).getD i 0)) (l.filter g).length = zsum 0 (fun w => if g (l.getD w 0) then F (l.getD w 0) else 0) l.length := by
  rw [zsum_list F (l.filter g), sum_fil, ← zsum_list (fun x => if g x then F x else 0)]
theorem sum_cnt (g : Nat → Bool) : ∀ l : List Nat, (l.map (fun x => if g x then 1 else 0)).sum = l.countP g
  | [] => rfl
  | x :: l => by
    have ih := sum_cnt g l
    rw [List.map_cons, List.sum_cons, ih, List.countP_cons]; omega
/-- the marks mu on the places of l are g -/
def mR (l : List Nat) (g μ : Nat → Bool) : Prop := ∀ w, w < l.length → μ w = g (l.getD w 0)
section ZB1
variable {A : Nat → Nat → Nat} {l : List Nat} {g μ : Nat → Bool}
theorem nMu_list (h : mR l g μ) : nMu μ l.length = (l.filter g).length := by
  have e : nMu μ l.length = zsum 0 (fun w => if g (l.getD w 0) then 1 else 0) l.length := zsum_congr 0 _ (fun w hw => by rw [h w hw]; cases g (l.getD w 0) <;> rfl)
  rw [e, zsum_list (fun x => if g x then 1 else 0), sum_cnt, List.countP_eq_length_filter]
theorem hasW_list (hA : arrIs (A 16) l) (h : mR l g μ) (c : Nat) : hasW A μ c l.length = decide (c ∈ l.filter g) := by
  have key : ∀ i, i ≤ l.length → (hasW A μ c i = true ↔ ∃ w, w < i ∧ μ w = true ∧ A 16 w = c) := by
    intro i
    induction i with
    | zero => intro _; simp [hasW]
    | succ i ih =>
      intro hi
      rw [hasW, Bool.or_eq_true, ih (by omega), Bool.and_eq_true, beq_iff_eq]
      constructor
      · rintro (⟨w, h1, h2⟩ | h2)
        · exact ⟨w, by omega, h2⟩
        · exact ⟨i, by omega, h2⟩
      · rintro ⟨w, h1, h2⟩
        by_cases e : w = i
        · subst e; exact Or.inr h2
        · exact Or.inl ⟨w, by omega, h2⟩
  rw [Bool.eq_iff_iff, key _ (Nat.le_refl _), decide_eq_true_eq, List.mem_filter]
  constructor
  · rintro ⟨w, h1, h2, h3⟩
    rw [h w h1] at h2
    rw [hA w h1] at h3
    rw [← h3]
    exact ⟨getD_mem h1, h2⟩
  · rintro ⟨h1, h2⟩
    obtain ⟨j, hj, e⟩ := List.getElem_of_mem h1
    have ee : l.getD j 0 = c := by rw [List.getD_eq_getElem?_getD, List.getElem?_eq_getElem hj, Option.getD_some, e]
    exact ⟨j, hj, by rw [h j hj, ee]; exact h2, by rw [hA j hj, ee]⟩
theorem cntV_list (hA : arrIs (A 16) l) (h : mR l g μ) (p so q : Nat) : cntV A μ p so q l.length = cnA A p so (l.filter g) q := by
  have e : cntV A μ p so q l.length = zsum 0 (fun w => if (fun x => g x && (ansF A p so (sI x p) 0 == q)) (l.getD w 0) then 1 else 0) l.length := zsum_congr 0 _ (fun w hw => by rw [h w hw, av, hA w hw])
  rw [e, zsum_list (fun x => if (fun x => g x && (ansF A p so (sI x p) 0 == q)) x then 1 else 0), sum_cnt, cnA, List.countP_filter]
  congr 1
  funext x
  rw [Bool.and_comm]
theorem wsT_mx {p so N : Nat} (h60 : ∀ w, w < N → av A p so w < 60) : wsT A μ p so N = mx (fun q => cntV A μ p so q N) 64 := by
  symm
  have key : ∀ i, i ≤ N → (∀ q, q < 64 → cntV A μ p so q i ≤ wsT A μ p so i) ∧ (wsT A μ p so i = 0 ∨ ∃ q, q < 64 ∧ wsT A μ p so i = cntV A μ p so q i) := by
    intro i
    induction i with
    | zero => intro _; exact ⟨fun q _ => Nat.le_refl _, Or.inl rfl⟩
    | succ i ih =>
      intro hi
      obtain ⟨h1, h2⟩ := ih (by omega)
      have ha := h60 i (by omega)
      have cs : ∀ q, cntV A μ p so q (i + 1) = cntV A μ p so q i + (if μ i && av A p so i == q then 1 else 0) := fun q => rfl
      have ws : wsT A μ p so (i + 1) = if μ i && decide (wsT A μ p so i < cntV A μ p so (av A p so i) (i + 1)) then cntV A μ p so (av A p so i) (i + 1) else wsT A μ p so i := rfl
      by_cases hm : μ i = true
      · have ca := cs (av A p so i)
        rw [hm, Bool.true_and, if_pos (by simp)] at ca
        have co : ∀ q, q ≠ av A p so i → cntV A μ p so q (i + 1) = cntV A μ p so q i := fun q hq => by rw [cs q, hm, Bool.true_and, if_neg (by simpa using Ne.symm hq)]; rfl
        have h1a := h1 (av A p so i) (by omega)
        rw [hm, Bool.true_and] at ws
        by_cases hlt : wsT A μ p so i < cntV A μ p so (av A p so i) (i + 1)
        · rw [if_pos (by simpa using hlt)] at ws
          rw [ws]
          refine ⟨fun q hq => ?_, Or.inr ⟨_, by omega, rfl⟩⟩
          by_cases e : q = av A p so i
          · rw [e]; exact Nat.le_refl _
          · rw [co q e]; have := h1 q hq; omega
        · rw [if_neg (by simpa using hlt)] at ws
          rw [ws]
          refine ⟨fun q hq => ?_, ?_⟩
          · by_cases e : q = av A p so i
            · rw [e]; omega
            · rw [co q e]; exact h1 q hq
          · rcases h2 with h2 | ⟨q, hq, h2⟩
            · omega
            · refine Or.inr ⟨q, hq, ?_⟩
              have : q ≠ av A p so i := by rintro rfl; omega
              rw [co q this]; exact h2
      · have hm : μ i = false := by simpa using hm
        have co : ∀ q, cntV A μ p so q (i + 1) = cntV A μ p so q i := fun q => by rw [cs q, hm]; rfl
        rw [hm] at ws
        have ws : wsT A μ p so (i + 1) = wsT A μ p so i := ws
        rw [ws]
        refine ⟨fun q hq => by rw [co q]; exact h1 q hq, ?_⟩
        rcases h2 with h2 | ⟨q, hq, h2⟩
        · exact Or.inl h2
        · exact Or.inr ⟨q, hq, by rw [co q]; exact h2⟩
  obtain ⟨h1, h2⟩ := key N (Nat.le_refl _)
  exact mx_uniq h1 h2
theorem wsT_list (hA : arrIs (A 16) l) (h : mR l g μ) (h60 : a60 A l.length) {p so : Nat} (hp : p < A 7 0) (hso : so < 4) : wsT A μ p so l.length = mxA A p so (l.filter g) := by
  rw [wsT_mx (fun w hw => h60 w hw p hp so hso), mxA]
  congr 1
  funext q
  exact cntV_list hA h p so q
theorem btF_list (hA : arrIs (A 16) l) (h : mR l g μ) (h60 : a60 A l.length) : ∀ k, k < 4 * A 7 0 → chO A (l.filter g) (k + 1) = btF A μ l.length k
  | 0, hk => by
    have hm := mxA_le (T := A) (p := 0) (sort := 0) (l := l.filter g)
    show (if mxA A (0 / 4) (0 % 4) (l.filter g) < (l.filter g).length + 1 then _ else _) = _
    rw [if_pos (by show mxA A 0 0 _ < _; omega)]
    show (0, mxA A 0 0 (l.filter g)) = (0, wsT A μ 0 0 l.length)
    rw [wsT_list hA h h60 (by omega) (by decide)]
  | k + 1, hk => by
    have ih := btF_list hA h h60 k (by omega)
    have e : chO A (l.filter g) (k + 1 + 1) = if mxA A ((k + 1) / 4) ((k + 1) % 4) (l.filter g) < (chO A (l.filter g) (k + 1)).2 then (k + 1, mxA A ((k + 1) / 4) ((k + 1) % 4) (l.filter g)) else chO A (l.filter g) (k + 1) := rfl
    rw [e, ih, ← wsT_list hA h h60 (show (k + 1) / 4 < A 7 0 by omega) (show (k + 1) % 4 < 4 by omega)]
    rfl
theorem bt_list (hA : arrIs (A 16) l) (h : mR l g μ) (h60 : a60 A l.length) (h1 : 1 ≤ A 7 0) : btF A μ l.length (4 * A 7 0 - 1) = chO A (l.filter g) (4 * A 7 0) := by
  rw [← btF_list hA h h60 (4 * A 7 0 - 1) (by omega), show 4 * A 7 0 - 1 + 1 = 4 * A 7 0 by omega]
theorem nar_list (hA : arrIs (A 16) l) (h : mR l g μ) (c k : Nat) : mR l (fun x => ansF A (k / 4) (k % 4) (sI x (k / 4)) 0 == ansF A (k / 4) (k % 4) (sI c (k / 4)) 0 && g x) (nar A μ c k) := by
  intro w hw
  show (μ w && (av A (k / 4) (k % 4) w == _)) = _
  rw [h w hw, av, hA w hw, Bool.and_comm]
theorem naL_fil (T : zT) (p so a : Nat) (g : Nat → Bool) (l : List Nat) : naL T p so a (l.filter g) = l.filter (fun x => ansF T p so (sI x p) 0 == a && g x) := by
  unfold naL
  rw [List.filter_filter]
theorem fil_congr {l : List Nat} {g g' : Nat → Bool} (h : ∀ w, w < l.length → g (l.getD w 0) = g' (l.getD w 0)) : l.filter g = l.filter g' := by
  refine List.filter_congr (fun x hx => ?_)
  obtain ⟨j, hj, e⟩ := List.getElem_of_mem hx
  have := h j hj
  rwa [List.getD_eq_getElem?_getD, List.getElem?_eq_getElem hj, Option.getD_some, e] at this
/-- where all trials leave as many, nothing is ever solved -/
theorem slF_stuck (hA : arrIs (A 16) l) (h60 : a60 A l.length) (h1 : 1 ≤ A 7 0) (c : Nat) : ∀ (r m : Nat) (g μ : Nat → Bool) (took : Nat), mR l g μ → c ∈ l.filter g → 1 < (l.filter g).length → (l.filter g).length ≤ (chO A (l.filter g) (4 * A 7 0)).2 → (slF A c l.length r m μ took).1 = none
  | 0, _, _, _, _, _, _, _, _ => rfl
  | r + 1, m, g, μ, took, h, hc, hl, hs => by
    have e : slF A c l.length (r + 1) m μ took = if hasW A μ c l.length = false ∨ nMu μ l.length = 1 then (if hasW A μ c l.length then (some m, took) else (none, took)) else slF A c l.length r (m + 1) (nar A μ c (btF A μ l.length (4 * A 7 0 - 1)).1) (took + A 14 ((btF A μ l.length (4 * A 7 0 - 1)).1 % 4)) := rfl
    rw [e, hasW_list hA h, decide_eq_true hc, nMu_list h, bt_list hA h h60 h1, if_neg (by intro z; rcases z with z | z; cases z; omega)]
    have hch := chO_lt (T := A) (l := l.filter g) (4 * A 7 0) (by omega)
    generalize hq : chO A (l.filter g) (4 * A 7 0) = q at hch hs
    have hn := nar_list hA h c q.1
    -- the list stays
    have hfix : l.filter (fun x => ansF A (q.1 / 4) (q.1 % 4) (sI x (q.1 / 4)) 0 == ansF A (q.1 / 4) (q.1 % 4) (sI c (q.1 / 4)) 0 && g x) = l.filter g := by
      rw [← naL_fil]
      -- all answers are alike
      have hval : ∀ k, 1 ≤ k → (chO A (l.filter g) k).2 = mxA A ((chO A (l.filter g) k).1 / 4) ((chO A (l.filter g) k).1 % 4) (l.filter g) := by
        intro k
        induction k with
        | zero => intro h; omega
        | succ k ih =>
          intro _
          unfold chO
          split
          · rfl
          · by_cases k0 : k = 0
            · subst k0
              exfalso
              rename_i hx
              apply hx
              have := mxA_le (T := A) (p := 0 / 4) (sort := 0 % 4) (l := l.filter g)
              show _ < (l.filter g).length + 1
              omega
            · exact ih (by omega)
      have hv := hval (4 * A 7 0) (by omega)
      rw [hq] at hv
      have hmx : mxA A (q.1 / 4) (q.1 % 4) (l.filter g) = (l.filter g).length := by
        have := mxA_le (T := A) (p := q.1 / 4) (sort := q.1 % 4) (l := l.filter g)
        omega
      unfold mxA at hmx
      rcases mx_mem (g := cnA A (q.1 / 4) (q.1 % 4) (l.filter g)) 64 with hz | ⟨v, _, hv2⟩
      · omega
      · rw [hmx] at hv2
        have hall := List.countP_eq_length.mp hv2.symm
        have hcv := hall c hc
        unfold naL
        rw [List.filter_eq_self]
        intro x hx
        have h1 := hall x hx
        simp only [beq_iff_eq] at h1 hcv ⊢
        rw [h1, hcv]
    exact slF_stuck hA h60 h1 c r (m + 1) _ _ _ hn (by rw [hfix]; exact hc) (by rw [hfix]; exact hl) (by rw [hfix, hq]; exact hs)
theorem slF_list (hA : arrIs (A 16) l) (h60 : a60 A l.length) (h1 : 1 ≤ A 7 0) (c : Nat) : ∀ (r m : Nat) (g μ : Nat → Bool) (took : Nat), mR l g μ → c ∈ l.filter g → ((slF A c l.length (r + 1) m μ took).1 = (slL A c r (l.filter g) m took).1 ∧ ∀ x, (slL A c r (l.filter g) m took).1 = some x → (slF A c l.length (r + 1) m μ took).2 = (slL A c r (l.filter g) m took).2)
  | r, m, g, μ, took, h, hc => by
    have e : slF A c l.length (r + 1) m μ took = if hasW A μ c l.length = false ∨ nMu μ l.length = 1 then (if hasW A μ c l.length then (some m, took) else (none, took)) else slF A c l.length r (m + 1) (nar A μ c (btF A μ l.length (4 * A 7 0 - 1)).1) (took + A 14 ((btF A μ l.length (4 * A 7 0 - 1)).1 % 4)) := rfl
    have hb := bt_list hA h h60 h1
    rw [hasW_list hA h, decide_eq_true hc, nMu_list h, hb] at e
    have hpos : 0 < (l.filter g).length := List.length_pos_of_mem hc
    by_cases h1l : (l.filter g).length = 1
    · rw [if_pos (Or.inr h1l)] at e
      have e2 : slL A c r (l.filter g) m took = (some m, took) := by
        cases r with
        | zero => unfold slL; rw [if_pos h1l]
        | succ r => unfold slL; rw [if_pos (by omega), if_pos h1l]
      rw [e, e2]
      exact ⟨rfl, fun _ _ => rfl⟩
    · rw [if_neg (by intro z; rcases z with z | z; cases z; omega)] at e
      cases r with
      | zero =>
        have e2 : slL A c 0 (l.filter g) m took = (none, took) := by unfold slL; rw [if_neg h1l]
        rw [e, e2]
        exact ⟨rfl, fun x hx => by cases hx⟩
      | succ r =>
        by_cases hs : (l.filter g).length ≤ (chO A (l.filter g) (4 * A 7 0)).2
        · have e2 : slL A c (r + 1) (l.filter g) m took = (none, took) := by unfold slL; rw [if_neg (by omega), if_pos hs]
          have hst := slF_stuck hA h60 h1 c (r + 1 + 1) m g μ took h hc (by omega) hs
          rw [hst, e2]
          exact ⟨rfl, fun x hx => by cases hx⟩
        · have e2 : slL A c (r + 1) (l.filter g) m took = slL A c r (naL A ((chO A (l.filter g) (4 * A 7 0)).1 / 4) ((chO A (l.filter g) (4 * A 7 0)).1 % 4) (ansF A ((chO A (l.filter g) (4 * A 7 0)).1 / 4) ((chO A (l.filter g) (4 * A 7 0)).1 % 4) (sI c ((chO A (l.filter g) (4 * A 7 0)).1 / 4)) 0) (l.filter g)) (m + 1) (took + A 14 ((chO A (l.filter g) (4 * A 7 0)).1 % 4)) := by
            show (if (l.filter g).length ≤ 1 then _ else _) = _
            rw [if_neg (by omega), if_neg hs]
          rw [e, e2, naL_fil]
          have hn := nar_list hA h c (chO A (l.filter g) (4 * A 7 0)).1
          refine slF_list hA h60 h1 c r (m + 1) _ _ _ hn ?_
          rw [List.mem_filter] at hc ⊢
          refine ⟨hc.1, ?_⟩
          rw [hc.2]; simp
end ZB1
