def eqT (T T' : zT) : Prop := (T 2 0 = T' 2 0 ∧ T 7 0 = T' 7 0 ∧ T 11 0 = T' 11 0 ∧ T 12 0 = T' 12 0) ∧ (∀ t, t < 8 → T 3 t = T' 3 t ∧ T 4 t = T' 4 t ∧ T 5 t = T' 5 t ∧ T 6 t = T' 6 t) ∧ ∀ p, p < 4 → T 8 p = T' 8 p ∧ T 9 p = T' 9 p ∧ T 10 p = T' 10 p ∧ T 13 p = T' 13 p ∧ T 14 p = T' 14 p
def cpA (A : Nat → Nat → Nat) (i j : Nat) : Nat → Nat → Nat := fun k x => if k = 2 ∨ k = 7 ∨ k = 11 ∨ k = 12 then (if x = 0 then A k 1 else A k x) else if 3 ≤ k ∧ k ≤ 6 then (if x < i then A k (8 + x) else A k x) else if (8 ≤ k ∧ k ≤ 10) ∨ k = 13 ∨ k = 14 then (if x < j then A k (4 + x) else A k x) else A k x
theorem rdT_lt {L : Nat → Nat} {len x : Nat} : ∀ {f s : Nat} {T : zT}, (rdT L len f s T).1 = some x → x < len
  | 0, s, T, h => by cases h
  | f + 1, s, T, h => by
    rw [rdT] at h
    by_cases hc : s < len
    · rw [if_pos hc] at h
      cases hq : itemT L s T with
      | none => rw [hq] at h; cases h; exact hc
      | some q => rw [hq] at h; exact rdT_lt h
    · rw [if_neg hc] at h; cases h
section ZM9
variable {G : zG} {n : Nat} {h0 : zF} {a : Nat} {I : Nat → Nat} {A : Nat → Nat → Nat} {B : Nat → Nat}
def nwA (A : Nat → Nat → Nat) (i : Nat) : Nat → Nat := fun j => if j < i then (if j < 4 then A 15 j else 0) else A 17 j
theorem c_begin (hk : tOK (vw A 0)) : zPv G MX8_begin 4 [.ref a] (mH h0 a I A B) n (fun h' => ∃ f g, h' = mH h0 a (va_up (va_up (va_up I 20 0) 22 0) 17 (wl (vw A 0)).length) (va_up (va_up (va_up A 17 (nwA A 21)) 16 g) 21 f) B ∧ arrIs g (wl (vw A 0))) := by
  refine zCt.of rfl (Nat.le_of_ble_eq_true rfl) rfl ?_
  refine x_iconst (v := nI 0) dX8_begin_0 (by decide) ?_
  refine x_is1 dX8_begin_1 (by decide) rfl ?_
  refine x_eqA (A' := va_up A 17 (nwA A 0)) (by funext k j; simp only [va_up, ite_app, nwA]; grind) ?_
  refine z_up 21 (P := fun i => zEx G MX8_begin 4 0 0 2 [some (.ref a), some (.int (nI i))] [] (mH h0 a I (va_up A 17 (nwA A i)) B) n (0, 0) _) ?_ 0 (by decide)
  intro i hi ih
  refine x_iload_n dX8_begin_2 rfl ?_
  refine x_bipush (v := nI 21) dX8_begin_3 (by decide) ?_
  refine n_icmp_ge (tgt := 35) dX8_begin_5 (by decide) (by omega) (by omega) (fun hc => ?_) (fun hc => ?_)
  · have hi21 : i = 21 := by omega
    subst hi21
    have hv : vw (va_up A 17 (nwA A 21)) 0 = vw A 0 := vw_up 0 (by decide)
    refine x_aload_n dX8_begin_35 rfl ?_
    refine x_iconst (v := nI 0) dX8_begin_36 (by decide) ?_
    refine m_put dX8_begin_37 flX8_175 ftX8_20 (by simp [mFs]) rfl ?_
    refine x_aload_n dX8_begin_40 rfl ?_
    refine x_iconst (v := nI 0) dX8_begin_41 (by decide) ?_
    refine m_put dX8_begin_42 flX8_178 ftX8_22 (by simp [mFs]) rfl ?_
    refine x_aload_n dX8_begin_45 rfl ?_
    refine x_cVV0 dX8_begin_46 lkX8_181 mdX8_layWorlds isX8_layWorlds rfl rfl mH_a (by decide) (c_layWorlds (A := va_up A 17 (nwA A 21)) (by rw [hv]; exact hk) (by rw [hv]; exact lev_len hk.1 hk.2.1 (fun p hp => (hk.2.2.2.1 p hp).2.2))) (Nat.le_of_ble_eq_true rfl) ⟨Nat.le_refl _, Nat.le_refl _⟩ ?_
    rintro h' ⟨f, g, rfl, hg⟩
    rw [hv] at hg ⊢
    refine x_vret dX8_begin_49 rfl ⟨Nat.le_refl _, Nat.le_refl _⟩ ?_
    exact ⟨rfl, ⟨f, g, rfl, hg⟩, rfl⟩
  · refine x_aload_n dX8_begin_8 rfl ?_
    refine x_getf dX8_begin_9 flX8_58 mH_a rfl ?_
    refine x_iload_n dX8_begin_12 rfl ?_
    refine x_iload_n dX8_begin_13 rfl ?_
    refine x_iconst (v := nI 4) dX8_begin_14 (by decide) ?_
    refine n_icmp_ge (tgt := 27) dX8_begin_15 (by decide) (by omega) (by omega) (fun c2 => ?_) (fun c2 => ?_)
    · refine x_iconst (v := nI 0) dX8_begin_27 (by decide) ?_
      refine m_iast dX8_begin_28 rfl (by simp only [mLen]; omega) (by decide) ?_
      refine n_ii1 (w := 1) dX8_begin_29 (by decide) (by decide) rfl ?_
      refine x_goto (tgt := 2) dX8_begin_32 (by decide) ?_
      exact x_eqA (by funext k j; simp only [va_up, ite_app, nwA]; grind) (ih (by omega))
    · refine x_aload_n dX8_begin_18 rfl ?_
      refine x_getf dX8_begin_19 flX8_52 mH_a rfl ?_
      refine x_iload_n dX8_begin_22 rfl ?_
      refine m_iald dX8_begin_23 rfl (by simp only [mLen]; omega) (by decide) ?_
      refine x_goto (tgt := 28) dX8_begin_24 (by decide) ?_
      refine m_iast dX8_begin_28 rfl (by simp only [mLen]; omega) (by decide) ?_
      refine n_ii1 (w := 1) dX8_begin_29 (by decide) (by decide) rfl ?_
      refine x_goto (tgt := 2) dX8_begin_32 (by decide) ?_
      exact x_eqA (by funext k j; simp only [va_up, ite_app, nwA]; grind) (ih (by omega))
/-- whether a text that was read can be laid -/
def layOK (q : Option Nat × zT) : Prop := q.1 = none ∧ q.2 7 0 ≠ 0 ∧ truthT q.2 = true
set_option maxHeartbeats 4000000 in
set_option maxRecDepth 100000 in
theorem c_layM (hl : I 0 ≤ 200) (hL : ∀ j, ltr I A j < 128) (ht : ∀ j, A 20 j < 1000) : zPi G MX8_lay 5 [.ref a] (mH h0 a I A B) n (fun v h' => ∃ I' A', h' = mH h0 a I' A' B ∧ (∀ j, A' 20 j < 1000) ∧ ((layOK (rdT (ltr I A) (I 0) 201 0 (T0m A)) ∧ v = nI (wl (vw A' 0)).length ∧ eqT (vw A' 0) (rdT (ltr I A) (I 0) 201 0 (T0m A)).2 ∧ I' 17 = (wl (vw A' 0)).length ∧ arrIs (A' 16) (wl (vw A' 0)) ∧ I' 20 = 0 ∧ I' 22 = 0 ∧ I' 0 = I 0 ∧ A' 1 = A 1 ∧ (∀ j, j < 21 → A' 17 j = if j < 4 then (rdT (ltr I A) (I 0) 201 0 (T0m A)).2 15 j else 0)) ∨ (¬ layOK (rdT (ltr I A) (I 0) 201 0 (T0m A)) ∧ v = -2 ∧ kpA A A' ∧ ∃ s', I' = va_up I 23 s'))) := by
  refine zCt.of rfl (Nat.le_of_ble_eq_true rfl) rfl ?_
  refine x_aload_n dX8_lay_0 rfl ?_
  refine x_cVI0 dX8_lay_1 lkX8_147 mdX8_readAll isX8_readAll rfl rfl mH_a (by decide) (c_readAll hl hL ht) (Nat.le_of_ble_eq_true rfl) ⟨Nat.le_refl _, Nat.le_refl _⟩ ?_
  rintro v h' ⟨s', A1, rfl, h20, hk, hm⟩
  have hok := rdT_ok (L := ltr I A) (len := I 0) 201 0 (T0m A) (T0m_ok A)
  generalize hq : rdT (ltr I A) (I 0) 201 0 (T0m A) = q at hm hok ⊢
  obtain ⟨q1, T⟩ := q
  have bad : ∀ (o : List (Option Value)), ¬ layOK (q1, T) → zEx G MX8_lay 5 0 0 25 o [] (mH h0 a (va_up I 23 s') A1 B) n (0, 0) (fun r h' n' => ∃ v, r = some (.int v) ∧ (∃ I' A', h' = mH h0 a I' A' B ∧ (∀ j, A' 20 j < 1000) ∧ ((layOK (q1, T) ∧ v = nI (wl (vw A' 0)).length ∧ eqT (vw A' 0) (q1, T).2 ∧ I' 17 = (wl (vw A' 0)).length ∧ arrIs (A' 16) (wl (vw A' 0)) ∧ I' 20 = 0 ∧ I' 22 = 0 ∧ I' 0 = I 0 ∧ A' 1 = A 1 ∧ (∀ j, j < 21 → A' 17 j = if j < 4 then (q1, T).2 15 j else 0)) ∨ (¬ layOK (q1, T) ∧ v = -2 ∧ kpA A A' ∧ ∃ s', I' = va_up I 23 s'))) ∧ n' = n) := by
    intro o hno
    refine x_bipush (v := -2) dX8_lay_25 (by decide) ?_
    refine x_iret dX8_lay_27 rfl rfl ⟨Nat.le_refl _, Nat.le_refl _⟩ ?_
    exact ⟨_, rfl, ⟨_, _, rfl, h20, Or.inr ⟨hno, rfl, hk, s', rfl⟩⟩, rfl⟩
  refine x_bipush (v := -4) dX8_lay_4 (by decide) ?_
  cases q1 with
  | some f =>
    have hm : v = nI f := hm
    refine x_icmp_ne (tgt := 25) dX8_lay_6 (by decide) (fun c1 => ?_) (fun c1 => ?_)
    · exact bad _ (fun z => by cases z.1)
    · exfalso
      have hf : f < 2 ^ 31 := by
        have := rdT_lt (L := ltr I A) (len := I 0) (f := 201) (s := 0) (T := T0m A) (x := f) (by rw [hq])
        omega
      rw [hm] at c1
      exact absurd (congrArg Int32.toInt c1) (by rw [nI_toInt hf]; show (f : Int) ≠ -4; omega)
  | none =>
    obtain ⟨rfl, hv⟩ := hm
    have hv : vw A1 1 = T := hv
    have hok : tOK T := hok
    refine x_icmp_ne (tgt := 25) dX8_lay_6 (by decide) (fun c1 => absurd rfl c1) (fun c1 => ?_)
    have e7 : A1 7 1 = T 7 0 := by rw [← hv]; rfl
    refine x_aload_n dX8_lay_9 rfl ?_
    refine x_getf dX8_lay_10 flX8_28 mH_a rfl ?_
    refine x_iconst (v := nI 1) dX8_lay_13 (by decide) ?_
    refine m_iald dX8_lay_14 rfl (by simp only [mLen]; omega) (by decide) ?_
    rw [e7]
    have h74 := hok.2.1
    refine n_if_eq (tgt := 25) dX8_lay_15 (by decide) (by omega) (fun c2 => ?_) (fun c2 => ?_)
    · exact bad _ (fun z => z.2.1 c2)
    · have ctr := c_isTruth (G := G) (n := n) (h0 := h0) (a := a) (I := va_up I 23 s') (B := B) (A := A1) (by rw [hv]; exact hok)
      rw [hv] at ctr
      refine x_aload_n dX8_lay_18 rfl ?_
      refine x_cVi0 dX8_lay_19 lkX8_169 mdX8_isTruth isX8_isTruth rfl rfl mH_a (by decide) (ctr) (Nat.le_of_ble_eq_true rfl) ⟨Nat.le_refl _, Nat.le_refl _⟩ ?_
      refine b_if_ne (tgt := 28) dX8_lay_22 (by decide) (fun c3 => ?_) (fun c3 => ?_)
      · have hlay : layOK (none, T) := ⟨rfl, c2, c3⟩
        refine x_aload_n dX8_lay_28 rfl ?_
        refine x_getf dX8_lay_29 flX8_13 mH_a rfl ?_
        refine x_iconst (v := nI 0) dX8_lay_32 (by decide) ?_
        refine x_aload_n dX8_lay_33 rfl ?_
        refine x_getf dX8_lay_34 flX8_13 mH_a rfl ?_
        refine x_iconst (v := nI 1) dX8_lay_37 (by decide) ?_
        refine m_iald dX8_lay_38 rfl (by simp only [mLen]; omega) (by decide) ?_
        refine m_iast dX8_lay_39 rfl (by simp only [mLen]; omega) (by decide) ?_
        refine x_aload_n dX8_lay_40 rfl ?_
        refine x_getf dX8_lay_41 flX8_28 mH_a rfl ?_
        refine x_iconst (v := nI 0) dX8_lay_44 (by decide) ?_
        refine x_aload_n dX8_lay_45 rfl ?_
        refine x_getf dX8_lay_46 flX8_28 mH_a rfl ?_
        refine x_iconst (v := nI 1) dX8_lay_49 (by decide) ?_
        refine m_iald dX8_lay_50 rfl (by simp only [mLen]; omega) (by decide) ?_
        refine m_iast dX8_lay_51 rfl (by simp only [mLen]; omega) (by decide) ?_
        refine x_aload_n dX8_lay_52 rfl ?_
        refine x_getf dX8_lay_53 flX8_40 mH_a rfl ?_
        refine x_iconst (v := nI 0) dX8_lay_56 (by decide) ?_
        refine x_aload_n dX8_lay_57 rfl ?_
        refine x_getf dX8_lay_58 flX8_40 mH_a rfl ?_
        refine x_iconst (v := nI 1) dX8_lay_61 (by decide) ?_
        refine m_iald dX8_lay_62 rfl (by simp only [mLen]; omega) (by decide) ?_
        refine m_iast dX8_lay_63 rfl (by simp only [mLen]; omega) (by decide) ?_
        refine x_aload_n dX8_lay_64 rfl ?_
        refine x_getf dX8_lay_65 flX8_43 mH_a rfl ?_
        refine x_iconst (v := nI 0) dX8_lay_68 (by decide) ?_
        refine x_aload_n dX8_lay_69 rfl ?_
        refine x_getf dX8_lay_70 flX8_43 mH_a rfl ?_
        refine x_iconst (v := nI 1) dX8_lay_73 (by decide) ?_
        refine m_iald dX8_lay_74 rfl (by simp only [mLen]; omega) (by decide) ?_
        refine m_iast dX8_lay_75 rfl (by simp only [mLen]; omega) (by decide) ?_
        refine x_iconst (v := nI 0) dX8_lay_76 (by decide) ?_
        refine x_is1 dX8_lay_77 (by decide) rfl ?_
        refine x_eqA (A' := cpA A1 0 0) (by funext k j; simp only [va_up, ite_app, cpA]; grind) ?_
        have lp1 : ∀ i, i ≤ 8 → zEx G MX8_lay 5 0 0 78 [some (.ref a), some (.int (nI i))] [] (mH h0 a (va_up I 23 s') (cpA A1 i 0) B) n (0, 0) (fun r h' n' => ∃ v, r = some (.int v) ∧ (∃ I' A', h' = mH h0 a I' A' B ∧ (∀ j, A' 20 j < 1000) ∧ ((layOK (none, T) ∧ v = nI (wl (vw A' 0)).length ∧ eqT (vw A' 0) T ∧ I' 17 = (wl (vw A' 0)).length ∧ arrIs (A' 16) (wl (vw A' 0)) ∧ I' 20 = 0 ∧ I' 22 = 0 ∧ I' 0 = I 0 ∧ A' 1 = A 1 ∧ (∀ j, j < 21 → A' 17 j = if j < 4 then T 15 j else 0)) ∨ (¬ layOK (none, T) ∧ v = -2 ∧ kpA A A' ∧ ∃ s', I' = va_up I 23 s'))) ∧ n' = n) := by
          refine z_up 8 ?_
          intro i hi ih
          refine x_iload_n dX8_lay_78 rfl ?_
          refine x_bipush (v := nI 8) dX8_lay_79 (by decide) ?_
          refine n_icmp_ge (tgt := 150) dX8_lay_81 (by decide) (by omega) (by omega) (fun hc => ?_) (fun hc => ?_)
          · have hi8 : i = 8 := by omega
            subst hi8
            refine x_iconst (v := nI 0) dX8_lay_150 (by decide) ?_
            refine x_is1 dX8_lay_151 (by decide) rfl ?_
            refine z_up 4 (P := fun i => zEx G MX8_lay 5 0 0 152 [some (.ref a), some (.int (nI i))] [] (mH h0 a (va_up I 23 s') (cpA A1 8 i) B) n (0, 0) _) ?_ 0 (by decide)
            intro i hi ih
            refine x_iload_n dX8_lay_152 rfl ?_
            refine x_iconst (v := nI 4) dX8_lay_153 (by decide) ?_
            refine n_icmp_ge (tgt := 233) dX8_lay_154 (by decide) (by omega) (by omega) (fun hc => ?_) (fun hc => ?_)
            · have hi4 : i = 4 := by omega
              subst hi4
              generalize hA2 : cpA A1 8 4 = A2
              have hvw : ∀ k j, vw A2 0 k j = if k = 2 ∨ k = 7 ∨ k = 11 ∨ k = 12 then (if j = 0 then T k 0 else A1 k j) else if 3 ≤ k ∧ k ≤ 6 then (if j < 8 then T k j else A1 k j) else if (8 ≤ k ∧ k ≤ 10) ∨ k = 13 ∨ k = 14 then (if j < 4 then T k j else A1 k j) else T k j := by
                intro k j; rw [← hA2, ← hv]; simp only [vw, cpA]; grind
              have heq : eqT (vw A2 0) T := by
                refine ⟨⟨?_, ?_, ?_, ?_⟩, fun t ht => ⟨?_, ?_, ?_, ?_⟩, fun p hp => ⟨?_, ?_, ?_, ?_, ?_⟩⟩ <;> rw [hvw] <;> simp <;> omega
              have hok2 : tOK (vw A2 0) := by
                obtain ⟨g1, g2, g3, g4, g5, g6, g7, g8, g9⟩ := hok
                obtain ⟨⟨e2, e7, e11, e12⟩, et, ep⟩ := heq
                have e15 : ∀ p, vw A2 0 15 p = T 15 p := by intro p; rw [hvw]; simp
                refine ⟨by rw [e2]; exact g1, by rw [e7]; exact g2, fun t ht => ?_, fun p hp => ?_, by rw [e11]; exact g5, by rw [e12]; exact g6, fun q hq => ?_, fun p hp => ?_, fun p hp hp4 => ?_⟩
                · rw [e2] at ht
                  obtain ⟨q1, q2, q3, q4⟩ := et t (by omega)
                  rw [q1, q2, q3, q4]; exact g3 t ht
                · rw [e7] at hp
                  obtain ⟨q1, q2, q3, q4, q5⟩ := ep p (by omega)
                  rw [q1, q2, q3]; exact g4 p hp
                · obtain ⟨q1, q2, q3, q4, q5⟩ := ep q hq
                  rw [q4, q5]; exact g7 q hq
                · rw [e15, e2]; exact g8 p hp
                · rw [e7] at hp; rw [e15]; exact g9 p hp hp4
              have e15 : ∀ j, A2 15 j = T 15 j := by intro j; rw [← hA2, ← hv]; rfl
              have e20 : ∀ j, A2 20 j < 1000 := by intro j; rw [← hA2]; exact h20 j
              have e1 : A2 1 = A 1 := by
                funext j
                have : A2 1 j = A1 1 j := by rw [← hA2]; rfl
                rw [this]
                exact hk 1 j ⟨by decide, by decide, by omega, by omega, by omega⟩
              refine x_aload_n dX8_lay_233 rfl ?_
              refine x_cVV0 dX8_lay_234 lkX8_102 mdX8_begin isX8_begin rfl rfl mH_a (by decide) (c_begin (A := A2) hok2) (Nat.le_of_ble_eq_true rfl) ⟨Nat.le_refl _, Nat.le_refl _⟩ ?_
              rintro h' ⟨f, g, rfl, hg⟩
              refine x_aload_n dX8_lay_237 rfl ?_
              refine x_getf dX8_lay_238 flX8_172 mH_a rfl ?_
              refine x_iret dX8_lay_241 rfl rfl ⟨Nat.le_refl _, Nat.le_refl _⟩ ?_
              have hv2 : vw (va_up (va_up (va_up A2 17 (nwA A2 21)) 16 g) 21 f) 0 = vw A2 0 := by rw [vw_up 0 (by decide), vw_up 0 (by decide), vw_up 0 (by decide)]
              refine ⟨_, rfl, ⟨_, _, rfl, fun j => e20 j, Or.inl ⟨hlay, ?_, ?_, ?_, ?_, rfl, rfl, rfl, e1, fun j hj => ?_⟩⟩, rfl⟩
              · rw [hv2]; rfl
              · rw [hv2]; exact heq
              · rw [hv2]; rfl
              · rw [hv2]; exact hg
              · show nwA A2 21 j = _
                unfold nwA
                rw [if_pos hj]
                split
                · exact e15 j
                · rfl
            · refine x_aload_n dX8_lay_157 rfl ?_
              refine x_getf dX8_lay_158 flX8_31 mH_a rfl ?_
              refine x_iload_n dX8_lay_161 rfl ?_
              refine x_aload_n dX8_lay_162 rfl ?_
              refine x_getf dX8_lay_163 flX8_31 mH_a rfl ?_
              refine x_iconst (v := nI 4) dX8_lay_166 (by decide) ?_
              refine x_iload_n dX8_lay_167 rfl ?_
              refine n_iadd dX8_lay_168 ?_
              refine m_iald dX8_lay_169 rfl (by simp only [mLen]; omega) (by decide) ?_
              refine m_iast dX8_lay_170 rfl (by simp only [mLen]; omega) (by decide) ?_
              refine x_aload_n dX8_lay_171 rfl ?_
              refine x_getf dX8_lay_172 flX8_34 mH_a rfl ?_
              refine x_iload_n dX8_lay_175 rfl ?_
              refine x_aload_n dX8_lay_176 rfl ?_
              refine x_getf dX8_lay_177 flX8_34 mH_a rfl ?_
              refine x_iconst (v := nI 4) dX8_lay_180 (by decide) ?_
              refine x_iload_n dX8_lay_181 rfl ?_
              refine n_iadd dX8_lay_182 ?_
              refine m_iald dX8_lay_183 rfl (by simp only [mLen]; omega) (by decide) ?_
              refine m_iast dX8_lay_184 rfl (by simp only [mLen]; omega) (by decide) ?_
              refine x_aload_n dX8_lay_185 rfl ?_
              refine x_getf dX8_lay_186 flX8_37 mH_a rfl ?_
              refine x_iload_n dX8_lay_189 rfl ?_
              refine x_aload_n dX8_lay_190 rfl ?_
              refine x_getf dX8_lay_191 flX8_37 mH_a rfl ?_
              refine x_iconst (v := nI 4) dX8_lay_194 (by decide) ?_
              refine x_iload_n dX8_lay_195 rfl ?_
              refine n_iadd dX8_lay_196 ?_
              refine m_iald dX8_lay_197 rfl (by simp only [mLen]; omega) (by decide) ?_
              refine m_iast dX8_lay_198 rfl (by simp only [mLen]; omega) (by decide) ?_
              refine x_aload_n dX8_lay_199 rfl ?_
              refine x_getf dX8_lay_200 flX8_46 mH_a rfl ?_
              refine x_iload_n dX8_lay_203 rfl ?_
              refine x_aload_n dX8_lay_204 rfl ?_
              refine x_getf dX8_lay_205 flX8_46 mH_a rfl ?_
              refine x_iconst (v := nI 4) dX8_lay_208 (by decide) ?_
              refine x_iload_n dX8_lay_209 rfl ?_
              refine n_iadd dX8_lay_210 ?_
              refine m_iald dX8_lay_211 rfl (by simp only [mLen]; omega) (by decide) ?_
              refine m_iast dX8_lay_212 rfl (by simp only [mLen]; omega) (by decide) ?_
              refine x_aload_n dX8_lay_213 rfl ?_
              refine x_getf dX8_lay_214 flX8_49 mH_a rfl ?_
              refine x_iload_n dX8_lay_217 rfl ?_
              refine x_aload_n dX8_lay_218 rfl ?_
              refine x_getf dX8_lay_219 flX8_49 mH_a rfl ?_
              refine x_iconst (v := nI 4) dX8_lay_222 (by decide) ?_
              refine x_iload_n dX8_lay_223 rfl ?_
              refine n_iadd dX8_lay_224 ?_
              refine m_iald dX8_lay_225 rfl (by simp only [mLen]; omega) (by decide) ?_
              refine m_iast dX8_lay_226 rfl (by simp only [mLen]; omega) (by decide) ?_
              refine n_ii1 (w := 1) dX8_lay_227 (by decide) (by decide) rfl ?_
              refine x_goto (tgt := 152) dX8_lay_230 (by decide) ?_
              exact x_eqA (by funext k j; simp only [va_up, ite_app, cpA]; grind) (ih (by omega))
          · refine x_aload_n dX8_lay_84 rfl ?_
            refine x_getf dX8_lay_85 flX8_16 mH_a rfl ?_
            refine x_iload_n dX8_lay_88 rfl ?_
            refine x_aload_n dX8_lay_89 rfl ?_
            refine x_getf dX8_lay_90 flX8_16 mH_a rfl ?_
            refine x_bipush (v := nI 8) dX8_lay_93 (by decide) ?_
            refine x_iload_n dX8_lay_95 rfl ?_
            refine n_iadd dX8_lay_96 ?_
            refine m_iald dX8_lay_97 rfl (by simp only [mLen]; omega) (by decide) ?_
            refine m_iast dX8_lay_98 rfl (by simp only [mLen]; omega) (by decide) ?_
            refine x_aload_n dX8_lay_99 rfl ?_
            refine x_getf dX8_lay_100 flX8_19 mH_a rfl ?_
            refine x_iload_n dX8_lay_103 rfl ?_
            refine x_aload_n dX8_lay_104 rfl ?_
            refine x_getf dX8_lay_105 flX8_19 mH_a rfl ?_
            refine x_bipush (v := nI 8) dX8_lay_108 (by decide) ?_
            refine x_iload_n dX8_lay_110 rfl ?_
            refine n_iadd dX8_lay_111 ?_
            refine m_iald dX8_lay_112 rfl (by simp only [mLen]; omega) (by decide) ?_
            refine m_iast dX8_lay_113 rfl (by simp only [mLen]; omega) (by decide) ?_
            refine x_aload_n dX8_lay_114 rfl ?_
            refine x_getf dX8_lay_115 flX8_22 mH_a rfl ?_
            refine x_iload_n dX8_lay_118 rfl ?_
            refine x_aload_n dX8_lay_119 rfl ?_
            refine x_getf dX8_lay_120 flX8_22 mH_a rfl ?_
            refine x_bipush (v := nI 8) dX8_lay_123 (by decide) ?_
            refine x_iload_n dX8_lay_125 rfl ?_
            refine n_iadd dX8_lay_126 ?_
            refine m_iald dX8_lay_127 rfl (by simp only [mLen]; omega) (by decide) ?_
            refine m_iast dX8_lay_128 rfl (by simp only [mLen]; omega) (by decide) ?_
            refine x_aload_n dX8_lay_129 rfl ?_
            refine x_getf dX8_lay_130 flX8_25 mH_a rfl ?_
            refine x_iload_n dX8_lay_133 rfl ?_
            refine x_aload_n dX8_lay_134 rfl ?_
            refine x_getf dX8_lay_135 flX8_25 mH_a rfl ?_
            refine x_bipush (v := nI 8) dX8_lay_138 (by decide) ?_
            refine x_iload_n dX8_lay_140 rfl ?_
            refine n_iadd dX8_lay_141 ?_
            refine m_iald dX8_lay_142 rfl (by simp only [mLen]; omega) (by decide) ?_
            refine m_iast dX8_lay_143 rfl (by simp only [mLen]; omega) (by decide) ?_
            refine n_ii1 (w := 1) dX8_lay_144 (by decide) (by decide) rfl ?_
            refine x_goto (tgt := 78) dX8_lay_147 (by decide) ?_
            exact x_eqA (by funext k j; simp only [va_up, ite_app, cpA]; grind) (ih (by omega))
        exact lp1 0 (by decide)
      · exact bad _ (fun z => by rw [show truthT T = true from z.2.2] at c3; cases c3)
end ZM9
