section ZS22
variable {G : zG} {n : Nat} {h0 : zF} {L : zSh} {V : Nat → Nat → Nat} {x a b t : Nat} {J : Nat → Nat} {X : Nat → Nat → Nat}
theorem tH_gH (hd : ∀ y, t ≤ y → y < t + 14 → L y = none) : tH (gH h0 L V) t J X = gH (tH h0 t J X) L V := by
  funext y
  by_cases hb : t ≤ y ∧ y < t + 14
  · have := hd y hb.1 hb.2
    unfold tH gH
    rw [if_pos hb, this]
    exact (if_pos hb).symm
  · rw [tH_out (by omega)]
    unfold gH
    rw [tH_out (by omega)]
theorem tH_over {J' : Nat → Nat} {X' : Nat → Nat → Nat} : tH (tH h0 t J X) t J' X' = tH h0 t J' X' := by
  funext y
  by_cases hb : t ≤ y ∧ y < t + 14
  · unfold tH; rw [if_pos hb, if_pos hb]
  · rw [tH_out (by omega), tH_out (by omega), tH_out (by omega)]
theorem gH_tr (hd : ∀ y, t ≤ y → y < t + 14 → L y = none) : zTr (gH (tH h0 t J X) L V) t J X := by
  rw [← tH_gH hd]; exact zTr_tH
set_option maxRecDepth 100000 in
theorem c_readInto {T0 : zT} (hx : L x = some (sX a b)) (ha : L a = some (sC 200)) (hb : L b = some (sA 4)) (hd : ∀ y, t ≤ y → y < t + 14 → L y = none) (hl : V x 1 ≤ 200) (hL : ∀ j, lt3 V x a j < 128) (hn : ∀ j, j < 4 → V b j < 1000) (h6 : X 6 0 = 0 ∧ X 7 0 = 0) (hT0 : tOK T0) (z2 : T0 2 0 = 0) (z7 : T0 7 0 = 0) (z11 : T0 11 0 = 1) (z12 : T0 12 0 = 40) (zs : ∀ k, k < 4 → T0 13 k = 0 ∧ T0 14 k = 10 ∧ T0 15 k = 0) : zPi G MX3_readInto 4 [.ref x, .ref t] (gH (tH h0 t J X) L V) n (fun v h' => ∃ V' J' X', h' = gH (tH h0 t J' X') L V' ∧ (∀ y, y ≠ x → y ≠ b → V' y = V y) ∧ V' x 1 = V x 1 ∧ (∀ j, j < 4 → V' b j < 1000) ∧ (X' 6 0 = 0 ∧ X' 7 0 = 0) ∧ match (rdT (lt3 V x a) (V x 1) 201 0 T0).1 with | some f => v = nI f | none => v = -4 ∧ tJ J' X' (rdT (lt3 V x a) (V x 1) 201 0 T0).2) := by
  refine zCt.of rfl (Nat.le_of_ble_eq_true rfl) rfl ?_
  have hab : a ≠ b := by
    rintro rfl
    rw [ha] at hb
    have := congrFun (Option.some.inj hb) (fun _ => 0)
    cases this
  have hax : a ≠ x := by
    rintro rfl
    rw [ha] at hx
    have := congrFun (Option.some.inj hx) (fun _ => 0)
    cases this
  have hbt : b < t ∨ t + 14 ≤ b := by
    rcases Nat.lt_or_ge b t with q | q
    · exact Or.inl q
    · rcases Nat.lt_or_ge b (t + 14) with q2 | q2
      · rw [hd b q q2] at hb; cases hb
      · exact Or.inr q2
  have cc := c_trClear (G := G) (n := n) (h0 := gH h0 L V) (t := t) (J := J) (X := X)
  simp only [tH_gH hd] at cc
  have hj0 := tJ_clear (J := J) h6 z2 z7 z11 z12 zs
  generalize hLt : lt3 V x a = Lt at hL ⊢
  generalize hRES : rdT Lt (V x 1) 201 0 T0 = RES
  refine x_aload_n dX3_readInto_0 rfl ?_
  refine x_cVV0 dX3_readInto_1 lkX3_23 mdX5_clear isX5_clear rfl rfl (And.left (gH_tr hd)) (by decide) (cc) (Nat.le_of_ble_eq_true rfl) ⟨Nat.le_refl _, Nat.le_refl _⟩ ?_
  rintro h' rfl
  refine x_iconst (v := nI 0) dX3_readInto_4 (by decide) ?_
  refine x_is2 dX3_readInto_5 (by decide) rfl ?_
  refine x_iconst (v := nI 0) dX3_readInto_6 (by decide) ?_
  refine x_is3 dX3_readInto_7 (by decide) rfl ?_
  have key : ∀ r i, i + r = 200 → ∀ (s : Nat) (T : zT) (J : Nat → Nat) (X V' : Nat → Nat → Nat) (o4 : Option Value), i ≤ s → s < 900 → tJ J X T → tOK T → (∀ y, y ≠ x → y ≠ b → V' y = V y) → V' x 1 = V x 1 → (∀ j, j < 4 → V' b j < 1000) → RES = rdT Lt (V x 1) (r + 1) s T → zEx G MX3_readInto 4 0 0 8 [some (.ref x), some (.ref t), some (.int (nI s)), some (.int (nI i)), o4] [] (gH (tH h0 t J X) L V') n (0, 0) (fun r1 h' n' => ∃ v, r1 = some (.int v) ∧ (∃ V' J' X', h' = gH (tH h0 t J' X') L V' ∧ (∀ y, y ≠ x → y ≠ b → V' y = V y) ∧ V' x 1 = V x 1 ∧ (∀ j, j < 4 → V' b j < 1000) ∧ (X' 6 0 = 0 ∧ X' 7 0 = 0) ∧ match RES.1 with | some f => v = nI f | none => v = -4 ∧ tJ J' X' RES.2) ∧ n' = n) := by
    intro r
    induction r with
    | zero =>
      intro i hi s T J X V' o4 hs hs9 hJ hT g1 g2 g3 g6
      refine x_iload_n dX3_readInto_8 rfl ?_
      refine x_sipush (v := nI 200) dX3_readInto_9 (by decide) ?_
      refine n_icmp_ge (tgt := 70) dX3_readInto_12 (by decide) (by omega) (by omega) (fun c1 => ?_) (fun c1 => ?_)
      · refine x_bipush (v := -4) dX3_readInto_70 (by decide) ?_
        refine x_iret dX3_readInto_72 rfl rfl ⟨Nat.le_refl _, Nat.le_refl _⟩ ?_
        refine ⟨_, rfl, ⟨V', J, X, rfl, g1, g2, g3, tI_zero hJ.1, ?_⟩, rfl⟩
        have e : RES = (none, T) := by rw [g6, rdT, if_neg (by omega)]
        rw [e]
        exact ⟨rfl, hJ⟩
      · omega
    | succ r ih =>
      intro i hi s T J X V' o4 hs hs9 hJ hT g1 g2 g3 g6
      have eL : lt3 V' x a = Lt := by rw [lt3_up g2 (g1 a hax hab), hLt]
      have hl' : V' x 1 ≤ 200 := by rw [g2]; exact hl
      have hL' : ∀ j, lt3 V' x a j < 128 := by rw [eL]; exact hL
      have cr := c_readNumbers (G := G) (n := n) (h0 := tH h0 t J X) (s := s + 1) hx ha hb (by omega) hl' hL' g3
      rw [eL] at cr
      refine x_iload_n dX3_readInto_8 rfl ?_
      refine x_sipush (v := nI 200) dX3_readInto_9 (by decide) ?_
      refine n_icmp_ge (tgt := 70) dX3_readInto_12 (by decide) (by omega) (by omega) (fun c1 => ?_) (fun c1 => ?_)
      · omega
      · refine x_iload_n dX3_readInto_15 rfl ?_
        refine x_aload_n dX3_readInto_16 rfl ?_
        refine x_getf dX3_readInto_17 flX3_19 (g_c hx) rfl ?_
        rw [g2]
        refine n_icmp_ge (tgt := 70) dX3_readInto_20 (by decide) (by omega) (by omega) (fun c2 => ?_) (fun c2 => ?_)
        · refine x_bipush (v := -4) dX3_readInto_70 (by decide) ?_
          refine x_iret dX3_readInto_72 rfl rfl ⟨Nat.le_refl _, Nat.le_refl _⟩ ?_
          refine ⟨_, rfl, ⟨V', J, X, rfl, g1, g2, g3, tI_zero hJ.1, ?_⟩, rfl⟩
          have e : RES = (none, T) := by rw [g6, rdT, if_neg (by omega)]
          rw [e]
          exact ⟨rfl, hJ⟩
        · have eR : RES = match itemT Lt s T with | none => (some s, T) | some q => rdT Lt (V x 1) (r + 1) q.1 q.2 := by rw [g6, rdT, if_pos (by omega)]; cases itemT Lt s T <;> rfl
          have K59 : ∀ (V2 : Nat → Nat → Nat) (o4 : Option Value), (∀ y, y ≠ x → y ≠ b → V2 y = V y) → V2 x 1 = V x 1 → (∀ j, j < 4 → V2 b j < 1000) → itemT Lt s T = none → zEx G MX3_readInto 4 0 0 59 [some (.ref x), some (.ref t), some (.int (nI s)), some (.int (nI i)), o4] [] (gH (tH h0 t J X) L V2) n (0, 0) (fun r1 h' n' => ∃ v, r1 = some (.int v) ∧ (∃ V' J' X', h' = gH (tH h0 t J' X') L V' ∧ (∀ y, y ≠ x → y ≠ b → V' y = V y) ∧ V' x 1 = V x 1 ∧ (∀ j, j < 4 → V' b j < 1000) ∧ (X' 6 0 = 0 ∧ X' 7 0 = 0) ∧ match RES.1 with | some f => v = nI f | none => v = -4 ∧ tJ J' X' RES.2) ∧ n' = n) := by
            intro V2 o4 k1 k2 k3 hi
            refine x_iload_n dX3_readInto_59 rfl ?_
            refine x_iret dX3_readInto_60 rfl rfl ⟨Nat.le_refl _, Nat.le_refl _⟩ ?_
            refine ⟨_, rfl, ⟨V2, J, X, rfl, k1, k2, k3, tI_zero hJ.1, ?_⟩, rfl⟩
            rw [hi] at eR
            rw [eR]
          refine x_aload_n dX3_readInto_23 rfl ?_
          refine x_iload_n dX3_readInto_24 rfl ?_
          refine x_iconst (v := nI 1) dX3_readInto_25 (by decide) ?_
          refine n_iadd dX3_readInto_26 ?_
          refine x_cVI1 dX3_readInto_27 lkX3_28 mdX3_readNumbers isX3_readNumbers rfl rfl (g_c hx) (by decide) (cr) (Nat.le_of_ble_eq_true rfl) ⟨Nat.le_refl _, Nat.le_refl _⟩ ?_
          rintro v h' ⟨V2, rfl, k1', k2', k3, km⟩
          have k1 : ∀ y, y ≠ x → y ≠ b → V2 y = V y := fun y h1 h2 => (k1' y h1 h2).trans (g1 y h1 h2)
          have k2 : V2 x 1 = V x 1 := k2'.trans g2
          cases hq : rnF Lt 4 (s + 1) with
          | none =>
            rw [hq] at km
            simp only at km
            subst km
            refine x_is4 dX3_readInto_30 (by decide) rfl ?_
            refine x_iload dX3_readInto_32 rfl ?_
            refine x_bipush (v := -4) dX3_readInto_34 (by decide) ?_
            refine x_icmp_eq (tgt := 59) dX3_readInto_36 (by decide) (fun c3 => ?_) (fun c3 => ?_)
            · exact K59 V2 _ k1 k2 k3 (by rw [itemT_rn, hq]; rfl)
            · exact absurd rfl c3
          | some q =>
            rw [hq] at km
            simp only at km
            obtain ⟨rfl, km2, km3⟩ := km
            have hqn := rnF_ne hq
            have hql := rnF_le hq
            have hqs : ∀ T', itemT Lt s T = some (q.1, T') → s < q.1 ∧ q.1 ≤ s + 13 := fun T' h => (itemT_spec h).1
            have ei : itemT Lt s T = if q.2.length = cntT (Lt s) then (takeT (Lt s) q.2 T).map (fun T' => (q.1, T')) else none := by rw [itemT_rn, hq]; rfl
            have hq31 : q.1 < 2 ^ 31 := by
              have h1 := (show figL Lt q.2.length (s + 1) = some q by rw [rnF_fig hqn hql, hq]; show (if q.2.length = q.2.length then some q else none) = some q; rw [if_pos rfl])
              have := (figL_le h1).2
              omega
            have cl := c_letterS (G := G) (n := n) (h0 := tH h0 t J X) (L := L) (V := V2) (j := s) hx ha (by omega) (by rw [k2]; exact hl)
            rw [lt3_up k2 (k1 a hax hab), hLt] at cl
            have ct := c_takes (G := G) (n := n) (h0 := gH h0 L V2) (t := t) (q := b) (J := J) (X := X) (T := T) (c := Lt s) (l := q.2) (g_c hb) hbt (fun j hj => by have := k3 j hj; omega) hJ hT.1 hT.2.1 (hL s) hql hqn km3
            rw [tH_gH hd] at ct
            refine x_is4 dX3_readInto_30 (by decide) rfl ?_
            refine x_iload dX3_readInto_32 rfl ?_
            refine x_bipush (v := -4) dX3_readInto_34 (by decide) ?_
            refine x_icmp_eq (tgt := 59) dX3_readInto_36 (by decide) (fun c3 => ?_) (fun c3 => ?_)
            · exact absurd c3 (nI_ne_m4 hq31)
            · refine x_aload_n dX3_readInto_39 rfl ?_
              refine x_aload_n dX3_readInto_40 rfl ?_
              refine x_iload_n dX3_readInto_41 rfl ?_
              refine x_cVi1 dX3_readInto_42 lkX3_32 mdX3_letterAt isX3_letterAt rfl rfl (g_c hx) (by decide) (cl) (Nat.le_of_ble_eq_true rfl) ⟨Nat.le_refl _, Nat.le_refl _⟩ ?_
              refine x_aload_n dX3_readInto_45 rfl ?_
              refine x_getf dX3_readInto_46 flX3_15 (g_c hx) rfl ?_
              refine x_aload_n dX3_readInto_49 rfl ?_
              refine x_getf dX3_readInto_50 flX3_35 (g_c hx) rfl ?_
              rw [km2]
              refine x_cVI3 dX3_readInto_53 lkX3_38 mdX5_takes isX5_takes rfl rfl (And.left (gH_tr hd)) (by decide) (ct) (Nat.le_of_ble_eq_true rfl) ⟨Nat.le_refl _, Nat.le_refl _⟩ ?_
              rintro v h' (⟨rfl, hcd, T', J', X', ht, hj', rfl⟩ | ⟨rfl, hcd, rfl⟩)
              · refine x_eqH (tH_gH hd) ?_
                have ei2 : itemT Lt s T = some (q.1, T') := by rw [ei, if_pos hcd, ht]; rfl
                refine b_if_ne (b := true) (tgt := 61) dX3_readInto_56 (by decide) (fun _ => ?_) (fun z => by cases z)
                refine x_iload dX3_readInto_61 rfl ?_
                refine x_is2 dX3_readInto_63 (by decide) rfl ?_
                refine n_ii3 (w := 1) dX3_readInto_64 (by decide) (by decide) rfl ?_
                refine x_goto (tgt := 8) dX3_readInto_67 (by decide) ?_
                have hb2 := hqs T' ei2
                refine ih (i + 1) (by omega) q.1 T' J' X' V2 _ (by omega) (by omega) hj' (takeT_ok ht hT) k1 k2 k3 ?_
                rw [eR, ei2]
              · refine x_eqH (tH_gH hd) ?_
                refine b_if_ne (b := false) (tgt := 61) dX3_readInto_56 (by decide) (fun z => by cases z) (fun _ => ?_)
                refine K59 V2 _ k1 k2 k3 ?_
                rw [ei]
                by_cases e : q.2.length = cntT (Lt s)
                · rw [if_pos e, hcd e]; rfl
                · rw [if_neg e]
  exact key 200 0 (by omega) 0 T0 _ _ V _ (by omega) (by omega) hj0 hT0 (fun _ _ _ => rfl) rfl hn hRES.symm
theorem c_txClear (hx : L x = some (sX a b)) : zPv G MX3_clear 0 [.ref x] (gH h0 L V) n (fun h' => h' = gH h0 L (va_up V x (va_up (V x) 1 0))) := by
  refine zCt.of rfl (Nat.le_of_ble_eq_true rfl) rfl ?_
  refine x_aload_n dX3_clear_0 rfl ?_
  refine x_iconst (v := nI 0) dX3_clear_1 (by decide) ?_
  refine g_put dX3_clear_2 flX3_19 ftX3_1 hx (Nat.le_of_ble_eq_true rfl) rfl ?_
  refine x_vret dX3_clear_5 rfl ⟨Nat.le_refl _, Nat.le_refl _⟩ ?_
  exact ⟨rfl, rfl, rfl⟩
theorem nI_i2c {c : Nat} (hc : c < 128) : ((nI c).toUInt32 % 65536).toInt32 = nI c := by
  have : ∀ c, c < 128 → ((nI c).toUInt32 % 65536).toInt32 = nI c := by decide +kernel
  exact this c hc
theorem nar_c : ∀ c, c < 128 → narrow .char (.int (nI c)) = .int (nI c) := by decide +kernel
theorem c_txAdd {c : Nat} (hx : L x = some (sX a b)) (ha : L a = some (sC 200)) (hl : V x 1 ≤ 200) (hc : c < 128) : zPi G MX3_add 0 [.ref x, .int (nI c)] (gH h0 L V) n (fun v h' => (V x 1 = 200 ∧ v = nI 0 ∧ h' = gH h0 L V) ∨ (V x 1 < 200 ∧ v = nI 1 ∧ h' = gH h0 L (va_up (va_up V a (va_up (V a) (V x 1) c)) x (va_up (V x) 1 (V x 1 + 1))))) := by
  refine zCt.of rfl (Nat.le_of_ble_eq_true rfl) rfl ?_
  have hax : a ≠ x := by
    rintro rfl
    rw [ha] at hx
    have := congrFun (Option.some.inj hx) (fun _ => 0)
    cases this
  refine x_aload_n dX3_add_0 rfl ?_
  refine x_getf dX3_add_1 flX3_19 (g_c hx) rfl ?_
  refine x_aload_n dX3_add_4 rfl ?_
  refine x_getf dX3_add_5 flX3_9 (g_c hx) rfl ?_
  refine x_alen dX3_add_8 (g_c ha) rfl ?_
  refine n_icmp_lt (y := 200) (tgt := 14) dX3_add_9 (by decide) (by omega) (by decide) (fun c1 => ?_) (fun c1 => ?_)
  · refine x_aload_n dX3_add_14 rfl ?_
    refine x_getf dX3_add_15 flX3_9 (g_c hx) rfl ?_
    refine x_aload_n dX3_add_18 rfl ?_
    refine x_getf dX3_add_19 flX3_19 (g_c hx) rfl ?_
    refine x_iload_n dX3_add_22 rfl ?_
    refine x_i2c (v := nI c) dX3_add_23 (nI_i2c hc) ?_
    refine x_cast dX3_add_24 (g_c ha) (vp_in_nI (by omega) (by decide)) (nar_c c hc) ?_
    rw [nI_clamp (by omega), up_nI]
    refine x_eqH (g_up ha _) ?_
    have e1 : (va_up V a (va_up (V a) (V x 1) c)) x = V x := by unfold va_up; rw [if_neg (Ne.symm hax)]
    refine x_aload_n dX3_add_25 rfl ?_
    refine x_dup dX3_add_26 rfl ?_
    refine x_getf dX3_add_27 flX3_19 (g_c hx) rfl ?_
    refine x_iconst (v := nI 1) dX3_add_30 (by decide) ?_
    refine n_iadd dX3_add_31 ?_
    rw [e1]
    refine g_put dX3_add_32 flX3_19 ftX3_1 hx (Nat.le_of_ble_eq_true rfl) rfl ?_
    refine x_iconst (v := nI 1) dX3_add_35 (by decide) ?_
    refine x_iret dX3_add_36 rfl (nar_b true) ⟨Nat.le_refl _, Nat.le_refl _⟩ ?_
    refine ⟨_, rfl, Or.inr ⟨c1, rfl, ?_⟩, rfl⟩
    rw [e1]
  · refine x_iconst (v := nI 0) dX3_add_12 (by decide) ?_
    refine x_iret dX3_add_13 rfl (nar_b false) ⟨Nat.le_refl _, Nat.le_refl _⟩ ?_
    exact ⟨_, rfl, Or.inl ⟨by omega, rfl, rfl⟩, rfl⟩
end ZS22
