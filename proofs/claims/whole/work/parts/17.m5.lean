def tOK (T : zT) : Prop := T 2 0 ≤ 8 ∧ T 7 0 ≤ 4 ∧ (∀ t, t < T 2 0 → (1 ≤ T 3 t ∧ T 3 t ≤ 20) ∧ T 4 t < 4 ∧ T 5 t ≤ 9 ∧ (1 ≤ T 6 t ∧ T 6 t ≤ 9)) ∧ (∀ p, p < T 7 0 → T 8 p ≤ 9 ∧ T 9 p ≤ 1 ∧ (1 ≤ T 10 p ∧ T 10 p ≤ 2)) ∧ (1 ≤ T 11 0 ∧ T 11 0 ≤ 9) ∧ T 12 0 ≤ 40 ∧ (∀ k, k < 4 → T 13 k ≤ 9 ∧ (1 ≤ T 14 k ∧ T 14 k ≤ 60)) ∧ (∀ p, p < 4 → T 15 p < 2 ^ T 2 0) ∧ (∀ p, T 7 0 ≤ p → p < 4 → T 15 p = 0)
theorem takeT_ok {c : Nat} {l : List Nat} {T T' : zT} (h : takeT c l T = some T') (hT : tOK T) : tOK T' := by
  obtain ⟨h1, h2, h3, h4, h5, h6, h7, h8, h9⟩ := hT
  unfold takeT at h
  generalize l.getD 0 0 = x0 at h
  generalize l.getD 1 0 = x1 at h
  generalize l.getD 2 0 = x2 at h
  generalize l.getD 3 0 = x3 at h
  by_cases k1 : c = 116
  · rw [if_pos k1] at h
    by_cases k : T 2 0 < 8 ∧ (1 ≤ x0 ∧ x0 ≤ 20) ∧ x1 < 4 ∧ x2 < 10 ∧ 1 ≤ x3 ∧ x3 ≤ 9
    · rw [if_pos k] at h
      cases h
      refine ⟨by simp only [adT]; grind, by simp only [adT]; grind, by simp only [adT]; grind, by simp only [adT]; grind, by simp only [adT]; grind, by simp only [adT]; grind, by simp only [adT]; grind, fun p hp => ?_, by simp only [adT]; grind⟩
      have e1 : adT T 0 x0 x1 x2 x3 15 p = T 15 p := by simp only [adT]; grind
      have e2 : adT T 0 x0 x1 x2 x3 2 0 = T 2 0 + 1 := by simp only [adT]; grind
      rw [e1, e2, Nat.pow_succ]
      have := h8 p hp
      omega
    · rw [if_neg k] at h; cases h
  · rw [if_neg k1] at h
    by_cases k2 : c = 112
    · rw [if_pos k2] at h
      by_cases k : T 7 0 ≠ 4 ∧ x0 ≤ 9 ∧ x1 ≤ 1 ∧ 1 ≤ x2 ∧ x2 ≤ 2
      · rw [if_pos k] at h
        cases h
        refine ⟨by simp only [adP]; grind, by simp only [adP]; grind, by simp only [adP]; grind, by simp only [adP]; grind, by simp only [adP]; grind, by simp only [adP]; grind, by simp only [adP]; grind, fun p hp => ?_, by simp only [adP]; grind⟩
        have e1 : adP T 0 x0 x1 x2 15 p = T 15 p := by simp only [adP]; grind
        have e2 : adP T 0 x0 x1 x2 2 0 = T 2 0 := by simp only [adP]; grind
        rw [e1, e2]
        exact h8 p hp
      · rw [if_neg k] at h; cases h
    · rw [if_neg k2] at h
      by_cases k3 : c = 105
      · rw [if_pos k3] at h
        by_cases k : x0 < T 7 0 ∧ x1 < T 2 0
        · rw [if_pos k] at h
          cases h
          refine ⟨h1, h2, h3, h4, h5, h6, h7, fun p hp => ?_, fun p hp hp4 => ?_⟩
          · show va_up (T 15) x0 (T 15 x0 ||| 2 ^ x1) p < 2 ^ T 2 0
            unfold va_up
            split
            · exact Nat.or_lt_two_pow (h8 x0 (by omega)) (Nat.pow_lt_pow_right (by decide) k.2)
            · exact h8 p hp
          · have hp : T 7 0 ≤ p := hp
            show va_up (T 15) x0 (T 15 x0 ||| 2 ^ x1) p = 0
            rw [up_ne _ _ (by omega)]
            exact h9 p hp hp4
        · rw [if_neg k] at h; cases h
      · rw [if_neg k3] at h
        by_cases k4 : c = 103
        · rw [if_pos k4] at h
          by_cases k : 1 ≤ x0 ∧ x0 ≤ 9
          · rw [if_pos k] at h
            cases h
            exact ⟨h1, h2, h3, h4, k, h6, h7, h8, h9⟩
          · rw [if_neg k] at h; cases h
        · rw [if_neg k4] at h
          by_cases k5 : c = 100
          · rw [if_pos k5] at h
            by_cases k : x0 ≤ 40
            · rw [if_pos k] at h
              cases h
              exact ⟨h1, h2, h3, h4, h5, k, h7, h8, h9⟩
            · rw [if_neg k] at h; cases h
          · rw [if_neg k5] at h
            by_cases k6 : c = 110
            · rw [if_pos k6] at h
              by_cases k : x0 ≤ 3 ∧ x1 ≤ 9 ∧ 1 ≤ x2 ∧ x2 ≤ 60
              · rw [if_pos k] at h
                cases h
                refine ⟨h1, h2, h3, h4, h5, h6, fun q hq => ?_, h8, h9⟩
                show va_up (T 13) x0 x1 q ≤ 9 ∧ 1 ≤ va_up (T 14) x0 x2 q ∧ va_up (T 14) x0 x2 q ≤ 60
                unfold va_up
                have := h7 q hq
                split <;> omega
              · rw [if_neg k] at h; cases h
            · rw [if_neg k6] at h; cases h
theorem figL_le {L : Nat → Nat} : ∀ {r s : Nat} {q : Nat × List Nat}, figL L r s = some q → s ≤ q.1 ∧ q.1 ≤ s + 3 * r
  | 0, s, q, h => by simp [figL] at h; rw [← h]; exact ⟨Nat.le_refl _, Nat.le_refl _⟩
  | r + 1, s, q, h => by
    rw [figL] at h
    by_cases hc : (1 ≤ dgs L s ∧ dgs L s ≤ 2) ∧ L (s + dgs L s) = (if r = 0 then 59 else 44)
    · rw [if_pos hc] at h
      cases hq : figL L r (s + dgs L s + 1) with
      | none => rw [hq] at h; simp at h
      | some q1 =>
        rw [hq] at h
        simp only [Option.map_some, Option.some.injEq] at h
        have := figL_le hq
        rw [← h]
        show s ≤ q1.1 ∧ q1.1 ≤ s + 3 * (r + 1)
        omega
    · rw [if_neg hc] at h; cases h
theorem cntT_le (c : Nat) : cntT c ≤ 4 := by
  unfold cntT; repeat' split
  all_goals decide
theorem itemT_spec {L : Nat → Nat} {s : Nat} {T : zT} {q : Nat × zT} (h : itemT L s T = some q) : (s < q.1 ∧ q.1 ≤ s + 13) ∧ (tOK T → tOK q.2) := by
  unfold itemT at h
  split at h
  · cases h
  · split at h
    · cases h
    · rename_i q1 hq1
      cases ht : takeT (L s) q1.2 T with
      | none => rw [ht] at h; simp at h
      | some T' =>
        rw [ht] at h
        simp at h
        have := figL_le hq1
        subst h
        have := cntT_le (L s)
        exact ⟨by show s < q1.1 ∧ q1.1 ≤ s + 13; omega, fun hT => takeT_ok ht hT⟩
/-- all items of a text: the first fault, and what it told -/
def rdT (L : Nat → Nat) (len : Nat) : Nat → Nat → zT → Option Nat × zT
  | 0, _, T => (none, T)
  | f + 1, s, T => if s < len then (match itemT L s T with
    | none => (some s, T)
    | some q => rdT L len f q.1 q.2) else (none, T)
theorem rdT_ok {L : Nat → Nat} {len : Nat} : ∀ (f s : Nat) (T : zT), tOK T → tOK (rdT L len f s T).2
  | 0, s, T, h => h
  | f + 1, s, T, h => by
    rw [rdT]
    split
    · split
      · exact h
      · rename_i q hq
        exact rdT_ok f q.1 q.2 ((itemT_spec hq).2 h)
    · exact h
def T0m (A : Nat → Nat → Nat) : zT := va_up (noT (vw A 1) 0 4) 15 (fun j => if j < 4 then 0 else A 15 j)
theorem T0m_ok (A : Nat → Nat → Nat) : tOK (T0m A) := by
  refine ⟨by simp [T0m, va_up, noT], by simp [T0m, va_up, noT], fun t ht => absurd ht (by simp [T0m, va_up, noT]), fun t ht => absurd ht (by simp [T0m, va_up, noT]), by simp [T0m, va_up, noT], by simp [T0m, va_up, noT], fun q hq => ?_, fun p hp => ?_, fun p _ hp => ?_⟩
  · have e1 : T0m A 13 q = 0 := by show noT (vw A 1) 0 4 13 q = 0; simp only [noT]; grind
    have e2 : T0m A 14 q = 10 := by show noT (vw A 1) 0 4 14 q = 10; simp only [noT]; grind
    rw [e1, e2]; omega
  · have e1 : T0m A 15 p = 0 := by show (if p < 4 then 0 else A 15 p) = 0; rw [if_pos hp]
    rw [e1]; exact Nat.two_pow_pos _
  · show (if p < 4 then 0 else A 15 p) = 0; rw [if_pos hp]
section ZM6
variable {G : zG} {n : Nat} {h0 : zF} {a : Nat} {I : Nat → Nat} {A : Nat → Nat → Nat} {B : Nat → Nat}
theorem c_readAll (hl : I 0 ≤ 200) (hL : ∀ j, ltr I A j < 128) (ht : ∀ j, A 20 j < 1000) : zPi G MX8_readAll 3 [.ref a] (mH h0 a I A B) n (fun v h' => ∃ s' A', h' = mH h0 a (va_up I 23 s') A' B ∧ (∀ j, A' 20 j < 1000) ∧ kpA A A' ∧ match (rdT (ltr I A) (I 0) 201 0 (T0m A)).1 with | some f => v = nI f | none => v = -4 ∧ vw A' 1 = (rdT (ltr I A) (I 0) 201 0 (T0m A)).2) := by
  refine zCt.of rfl (Nat.le_of_ble_eq_true rfl) rfl ?_
  refine x_aload_n dX8_readAll_0 rfl ?_
  refine x_iconst (v := nI 1) dX8_readAll_1 (by decide) ?_
  refine x_cVV1 dX8_readAll_2 lkX8_90 mdX8_noTree isX8_noTree rfl rfl mH_a (by decide) (c_noTree (by decide)) (Nat.le_of_ble_eq_true rfl) ⟨Nat.le_refl _, Nat.le_refl _⟩ ?_
  rintro _ rfl
  refine x_iconst (v := nI 0) dX8_readAll_5 (by decide) ?_
  refine x_is1 dX8_readAll_6 (by decide) rfl ?_
  refine x_eqA (A' := va_up (noT A 1 4) 15 (fun j => if j < 0 then 0 else A 15 j)) (by funext k j; simp only [va_up, ite_app, noT]; grind) ?_
  refine z_up 4 (P := fun i => zEx G MX8_readAll 3 0 0 7 [some (.ref a), some (.int (nI i))] [] (mH h0 a I (va_up (noT A 1 4) 15 (fun j => if j < i then 0 else A 15 j)) B) n (0, 0) _) ?_ 0 (by decide)
  intro i hi ih
  refine x_iload_n dX8_readAll_7 rfl ?_
  refine x_iconst (v := nI 4) dX8_readAll_8 (by decide) ?_
  refine n_icmp_ge (tgt := 25) dX8_readAll_9 (by decide) (by omega) (by omega) (fun hc => ?_) (fun hc => ?_)
  · have hi4 : i = 4 := by omega
    subst hi4
    refine x_aload_n dX8_readAll_25 rfl ?_
    refine x_iconst (v := nI 0) dX8_readAll_26 (by decide) ?_
    refine m_put dX8_readAll_27 flX8_117 ftX8_23 (by simp [mFs]) rfl ?_
    generalize hA1 : va_up (noT A 1 4) 15 (fun j => if j < 4 then 0 else A 15 j) = A1
    have hk1 : kpA A A1 := by
      intro k j hk; rw [← hA1]; simp only [kp] at hk; simp only [va_up, ite_app, noT]; grind
    have h20 : ∀ j, A1 20 j < 1000 := by
      intro j; rw [← hA1]; have := ht j; simp only [va_up, ite_app, noT]; grind
    have hv1 : vw A1 1 = T0m A := by
      funext k j; rw [← hA1]; simp only [T0m, vw, va_up, ite_app, noT]; grind
    have hltr : ∀ A2 : Nat → Nat → Nat, kpA A A2 → ltr I A2 = ltr I A := by
      intro A2 h2
      funext j
      unfold ltr
      rw [h2 1 j ⟨by decide, by decide, by omega, by omega, by omega⟩]
    have loop : ∀ (f s : Nat) (A2 : Nat → Nat → Nat) (T : zT) (o1 : Option Value), I 0 < f + s → s < 100000 → kpA A A2 → (∀ j, A2 20 j < 1000) → vw A2 1 = T → tOK T → zEx G MX8_readAll 3 0 0 30 [some (.ref a), o1] [] (mH h0 a (va_up I 23 s) A2 B) n (0, 0) (fun r h' n' => ∃ v, r = some (.int v) ∧ (∃ s' A', h' = mH h0 a (va_up I 23 s') A' B ∧ (∀ j, A' 20 j < 1000) ∧ kpA A A' ∧ match (rdT (ltr I A) (I 0) f s T).1 with | some f => v = nI f | none => v = -4 ∧ vw A' 1 = (rdT (ltr I A) (I 0) f s T).2) ∧ n' = n) := by
      intro f
      induction f with
      | zero =>
        intro s A2 T o1 hf hs hk h20 hT hok
        refine x_aload_n dX8_readAll_30 rfl ?_
        refine x_getf (v := .int (nI s)) dX8_readAll_31 flX8_117 mH_a rfl ?_
        refine x_aload_n dX8_readAll_34 rfl ?_
        refine x_getf (v := .int (nI (I 0))) dX8_readAll_35 flX8_113 mH_a rfl ?_
        refine n_icmp_ge (tgt := 58) dX8_readAll_38 (by decide) (by omega) (by omega) (fun hc => ?_) (fun hc => ?_)
        · refine x_bipush (v := -4) dX8_readAll_58 (by decide) ?_
          refine x_iret dX8_readAll_60 rfl rfl ⟨Nat.le_refl _, Nat.le_refl _⟩ ?_
          exact ⟨_, rfl, ⟨s, A2, rfl, h20, hk, rfl, hT⟩, rfl⟩
        · exact absurd hf (by omega)
      | succ f ih =>
        intro s A2 T o1 hf hs hk h20 hT hok
        refine x_aload_n dX8_readAll_30 rfl ?_
        refine x_getf (v := .int (nI s)) dX8_readAll_31 flX8_117 mH_a rfl ?_
        refine x_aload_n dX8_readAll_34 rfl ?_
        refine x_getf (v := .int (nI (I 0))) dX8_readAll_35 flX8_113 mH_a rfl ?_
        refine n_icmp_ge (tgt := 58) dX8_readAll_38 (by decide) (by omega) (by omega) (fun hc => ?_) (fun hc => ?_)
        · refine x_bipush (v := -4) dX8_readAll_58 (by decide) ?_
          refine x_iret dX8_readAll_60 rfl rfl ⟨Nat.le_refl _, Nat.le_refl _⟩ ?_
          refine ⟨_, rfl, ⟨s, A2, rfl, h20, hk, ?_⟩, rfl⟩
          rw [rdT, if_neg (by omega)]
          exact ⟨rfl, hT⟩
        · have hlt : s < I 0 := by omega
          have e2 : A2 2 1 = T 2 0 := by rw [← hT]; rfl
          have e7 : A2 7 1 = T 7 0 := by rw [← hT]; rfl
          refine x_aload_n dX8_readAll_41 rfl ?_
          refine x_getf (v := .int (nI s)) dX8_readAll_42 flX8_117 mH_a rfl ?_
          refine x_is1 dX8_readAll_45 (by decide) rfl ?_
          refine x_aload_n dX8_readAll_46 rfl ?_
          refine x_cVI0 dX8_readAll_47 lkX8_144 mdX8_item isX8_item rfl rfl mH_a (by decide) (c_item (A := A2) (s := s) hl hlt (by rw [hltr A2 hk]; exact hL) h20 (by rw [e2]; exact hok.1) (by rw [e7]; exact hok.2.1)) (Nat.le_of_ble_eq_true rfl) ⟨Nat.le_refl _, Nat.le_refl _⟩ ?_
          rintro v h' ⟨s', A3, rfl, h20', hk', hm⟩
          rw [hltr A2 hk, hT] at hm
          cases hq : itemT (ltr I A) s T with
          | none =>
            rw [hq] at hm
            subst hm
            refine n_if_ne (tgt := 55) dX8_readAll_50 (by decide) (by decide) (fun c1 => ?_) (fun c1 => ?_)
            · exact absurd rfl c1
            · refine x_iload_n dX8_readAll_53 rfl ?_
              refine x_iret dX8_readAll_54 rfl rfl ⟨Nat.le_refl _, Nat.le_refl _⟩ ?_
              refine ⟨_, rfl, ⟨s', A3, rfl, h20', hk.tr hk', ?_⟩, rfl⟩
              rw [rdT, if_pos hlt, hq]
          | some q =>
            rw [hq] at hm
            obtain ⟨rfl, rfl, hq2⟩ := hm
            have hsp := itemT_spec hq
            refine n_if_ne (tgt := 55) dX8_readAll_50 (by decide) (by decide) (fun c1 => ?_) (fun c1 => ?_)
            · refine x_goto (tgt := 30) dX8_readAll_55 (by decide) ?_
              have hsq : q.1 < 100000 := by omega
              refine zEx.post (ih q.1 A3 q.2 _ (by omega) hsq (hk.tr hk') h20' hq2 (hsp.2 hok)) ?_
              rw [rdT, if_pos hlt, hq]
              exact fun _ _ _ h => h
            · exact absurd c1 (by decide)
    exact loop 201 0 A1 (T0m A) _ (by omega) (by decide) hk1 h20 hv1 (T0m_ok A)
  · refine x_aload_n dX8_readAll_12 rfl ?_
    refine x_getf dX8_readAll_13 flX8_52 mH_a rfl ?_
    refine x_iload_n dX8_readAll_16 rfl ?_
    refine x_iconst (v := nI 0) dX8_readAll_17 (by decide) ?_
    refine m_iast dX8_readAll_18 rfl (by simp only [mLen]; omega) (by decide) ?_
    refine n_ii1 (w := 1) dX8_readAll_19 (by decide) (by decide) rfl ?_
    refine x_goto (tgt := 7) dX8_readAll_22 (by decide) ?_
    exact x_eqA (by funext k j; simp only [va_up, ite_app, noT]; grind) (ih (by omega))
theorem c_faultM (hl : I 0 ≤ 200) (hL : ∀ j, ltr I A j < 128) (ht : ∀ j, A 20 j < 1000) : zPi G MX8_fault 4 [.ref a] (mH h0 a I A B) n (fun v h' => ∃ s' A', h' = mH h0 a (va_up I 23 s') A' B ∧ (∀ j, A' 20 j < 1000) ∧ kpA A A' ∧ match (rdT (ltr I A) (I 0) 201 0 (T0m A)).1 with | some f => v = nI f | none => v = -4 ∧ vw A' 1 = (rdT (ltr I A) (I 0) 201 0 (T0m A)).2) := by
  refine zCt.of rfl (Nat.le_of_ble_eq_true rfl) rfl ?_
  refine x_aload_n dX8_fault_0 rfl ?_
  refine x_cVI0 dX8_fault_1 lkX8_147 mdX8_readAll isX8_readAll rfl rfl mH_a (by decide) (c_readAll hl hL ht) (Nat.le_of_ble_eq_true rfl) ⟨Nat.le_refl _, Nat.le_refl _⟩ ?_
  intro v h' hp
  refine x_iret dX8_fault_4 rfl rfl ⟨Nat.le_refl _, Nat.le_refl _⟩ ?_
  exact ⟨v, rfl, hp, rfl⟩
end ZM6
