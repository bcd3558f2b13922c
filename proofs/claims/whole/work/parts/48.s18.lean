theorem nI_ne_m4 {j : Nat} (hj : j < 2 ^ 31) : ¬ nI j = (-4 : Int32) := fun c1 => absurd (congrArg Int32.toInt c1) (by rw [nI_toInt hj]; show (j : Int) ≠ -4; omega)
theorem rnF_ne {L : Nat → Nat} : ∀ {r s : Nat} {q : Nat × List Nat}, rnF L r s = some q → 1 ≤ q.2.length
  | 0, s, q, h => by simp [rnF] at h
  | r + 1, s, q, h => by
    unfold rnF at h
    generalize (if fig (L (s + 1)) then 2 else 1) = F at h
    split at h
    · split at h
      · cases h; simp
      · split at h
        · rw [Option.map_eq_some_iff] at h
          obtain ⟨q0, _, rfl⟩ := h
          simp
        · cases h
    · cases h
theorem rnF_le {L : Nat → Nat} : ∀ {r s : Nat} {q : Nat × List Nat}, rnF L r s = some q → q.2.length ≤ r
  | 0, s, q, h => by simp [rnF] at h
  | r + 1, s, q, h => by
    unfold rnF at h
    generalize (if fig (L (s + 1)) then 2 else 1) = F at h
    split at h
    · split at h
      · cases h; simp
      · split at h
        · rw [Option.map_eq_some_iff] at h
          obtain ⟨q0, h0, rfl⟩ := h
          have := rnF_le h0
          simp; omega
        · cases h
    · cases h
theorem rnF_fig {L : Nat → Nat} : ∀ {m R s : Nat}, 1 ≤ m → m ≤ R → figL L m s = (rnF L R s).bind (fun q => if q.2.length = m then some q else none)
  | 0, _, _, h, _ => absurd h (by decide)
  | r + 1, 0, _, _, h => absurd h (by omega)
  | r + 1, R + 1, s, _, h => by
    have ih := fun s' (hr : 1 ≤ r) => rnF_fig (L := L) (m := r) (R := R) (s := s') hr (by omega)
    unfold figL rnF
    by_cases f1 : fig (L s) = true
    · rw [if_pos f1]
      by_cases f3 : fig (L (s + 1)) = true ∧ fig (L (s + 2)) = true
      · have hd : dgs L s = 3 := by simp [dgs, f1, f3.1, f3.2]
        have h2 := of_decide_eq_true f3.2
        rw [if_neg (by omega), if_pos f3.1, if_neg (by omega), if_neg (by omega)]
        rfl
      · have hd : dgs L s = (if fig (L (s + 1)) then 2 else 1) := by
          unfold dgs
          rw [if_pos f1]
          by_cases q : fig (L (s + 1)) = true
          · rw [if_pos q, if_pos q, if_neg (fun z => f3 ⟨q, z⟩)]
          · rw [if_neg q, if_neg q]
        rw [← hd]
        have hb : 1 ≤ dgs L s ∧ dgs L s ≤ 2 := by rw [hd]; split <;> omega
        by_cases m9 : L (s + dgs L s) = 59
        · rw [if_pos m9]
          by_cases r0 : r = 0
          · subst r0
            rw [if_pos ⟨hb, by rw [if_pos rfl]; exact m9⟩]
            rfl
          · rw [if_neg (by rw [if_neg r0]; omega)]
            show none = if ([dval L s (dgs L s)] : List Nat).length = r + 1 then _ else _
            rw [if_neg (by simp; omega)]
        · rw [if_neg m9]
          by_cases m4 : L (s + dgs L s) = 44
          · rw [if_pos m4]
            by_cases r0 : r = 0
            · subst r0
              rw [if_neg (by rw [if_pos rfl]; omega)]
              cases hq : rnF L R (s + dgs L s + 1) with
              | none => rfl
              | some q =>
                have := rnF_ne hq
                show none = if (dval L s (dgs L s) :: q.2).length = 0 + 1 then _ else _
                rw [if_neg (by simp; intro z; rw [z] at this; simp at this)]
            · rw [if_pos ⟨hb, by rw [if_neg r0]; exact m4⟩, ih _ (by omega)]
              cases hq : rnF L R (s + dgs L s + 1) with
              | none => rfl
              | some q =>
                show Option.map _ (if q.2.length = r then some q else none) = if (dval L s (dgs L s) :: q.2).length = r + 1 then _ else _
                by_cases e : q.2.length = r
                · rw [if_pos e, if_pos (by simp [e])]; rfl
                · rw [if_neg e, if_neg (by simp [e])]; rfl
          · rw [if_neg m4, if_neg (by split <;> omega)]
            rfl
    · have hd : dgs L s = 0 := by unfold dgs; rw [if_neg f1]
      rw [if_neg f1, if_neg (by omega)]
      rfl
theorem itemT_rn {L : Nat → Nat} {s : Nat} {T : zT} : itemT L s T = (rnF L 4 (s + 1)).bind (fun q => if q.2.length = cntT (L s) then (takeT (L s) q.2 T).map (fun T' => (q.1, T')) else none) := by
  by_cases h0 : cntT (L s) = 0
  · unfold itemT
    rw [if_pos h0]
    cases hq : rnF L 4 (s + 1) with
    | none => rfl
    | some q =>
      have := rnF_ne hq
      show none = if q.2.length = cntT (L s) then _ else _
      rw [if_neg (by omega)]
  · unfold itemT
    rw [if_neg h0, rnF_fig (L := L) (R := 4) (Nat.pos_of_ne_zero h0) (cntT_le _)]
    cases hq : rnF L 4 (s + 1) with
    | none => rfl
    | some q =>
      show (match (if q.2.length = cntT (L s) then some q else none) with | none => none | some q => (takeT (L s) q.2 T).map (fun T' => (q.1, T'))) = if q.2.length = cntT (L s) then _ else _
      by_cases e : q.2.length = cntT (L s)
      · rw [if_pos e, if_pos e]
      · rw [if_neg e, if_neg e]
theorem dval_lt {L : Nat → Nat} {s f : Nat} (h : ∀ j, L j < 128) (hf : f = 1 ∨ f = 2) : dval L s f < 1000 := by
  have h0 := h (s + 0)
  have h1 := h (s + 1)
  rcases hf with rfl | rfl
  · simp only [dval]; omega
  · simp only [dval]; omega
section ZS21
variable {G : zG} {n : Nat} {h0 : zF} {L : zSh} {V : Nat → Nat → Nat} {x a b : Nat}
theorem lt3_up {V' : Nat → Nat → Nat} (h1 : V' x 1 = V x 1) (ha : V' a = V a) : lt3 V' x a = lt3 V x a := by
  funext j; unfold lt3; rw [h1, ha]
set_option maxRecDepth 100000 in
theorem c_readNumbers {s : Nat} (hx : L x = some (sX a b)) (ha : L a = some (sC 200)) (hb : L b = some (sA 4)) (hs : s < 1000) (hl : V x 1 ≤ 200) (hL : ∀ j, lt3 V x a j < 128) (hn : ∀ j, j < 4 → V b j < 1000) : zPi G MX3_readNumbers 3 [.ref x, .int (nI s)] (gH h0 L V) n (fun v h' => ∃ V', h' = gH h0 L V' ∧ (∀ y, y ≠ x → y ≠ b → V' y = V y) ∧ V' x 1 = V x 1 ∧ (∀ j, j < 4 → V' b j < 1000) ∧ match rnF (lt3 V x a) 4 s with | some q => v = nI q.1 ∧ V' x 3 = q.2.length ∧ ∀ j, j < q.2.length → q.2.getD j 0 = V' b j | none => v = -4) := by
  refine zCt.of rfl (Nat.le_of_ble_eq_true rfl) rfl ?_
  have hxb : x ≠ b := by
    rintro rfl
    rw [hx] at hb
    have := congrFun (Option.some.inj hb) (fun _ => 0)
    cases this
  have hab : a ≠ b := by
    rintro rfl
    rw [ha] at hb
    have := congrFun (Option.some.inj hb) (fun _ => 0)
    cases this
  have hax : a ≠ x := by
    rintro rfl
    rw [ha] at hx
    have := congrFun (Option.some.inj hx) (fun _ => 0)
    cases this
  generalize hLt : lt3 V x a = Lt at hL ⊢
  refine x_iload_n dX3_readNumbers_0 rfl ?_
  refine x_is2 dX3_readNumbers_1 (by decide) rfl ?_
  refine x_iconst (v := nI 0) dX3_readNumbers_2 (by decide) ?_
  refine x_is3 dX3_readNumbers_3 (by decide) rfl ?_
  have key : ∀ r i, i + r = 4 → ∀ (s' : Nat) (V' : Nat → Nat → Nat) (pre : List Nat) (o4 o5 : Option Value), s' ≤ 1000 + 10 * i → (∀ y, y ≠ x → y ≠ b → V' y = V y) → V' x 1 = V x 1 → (∀ j, j < 4 → V' b j < 1000) → pre.length = i → (∀ j, j < i → pre.getD j 0 = V' b j) → rnF Lt 4 s = (rnF Lt r s').map (fun q => (q.1, pre ++ q.2)) → zEx G MX3_readNumbers 3 0 0 4 [some (.ref x), some (.int (nI s)), some (.int (nI s')), some (.int (nI i)), o4, o5] [] (gH h0 L V') n (0, 0) (fun r1 h' n' => ∃ v, r1 = some (.int v) ∧ (∃ V', h' = gH h0 L V' ∧ (∀ y, y ≠ x → y ≠ b → V' y = V y) ∧ V' x 1 = V x 1 ∧ (∀ j, j < 4 → V' b j < 1000) ∧ match rnF Lt 4 s with | some q => v = nI q.1 ∧ V' x 3 = q.2.length ∧ ∀ j, j < q.2.length → q.2.getD j 0 = V' b j | none => v = -4) ∧ n' = n) := by
    intro r
    induction r with
    | zero =>
      intro i hi s' V' pre o4 o5 hs' g1 g2 g3 g4 g5 g6
      refine x_iload_n dX3_readNumbers_4 rfl ?_
      refine x_iconst (v := nI 4) dX3_readNumbers_5 (by decide) ?_
      refine n_icmp_ge (tgt := 88) dX3_readNumbers_6 (by decide) (by omega) (by omega) (fun c1 => ?_) (fun c1 => ?_)
      · refine x_bipush (v := -4) dX3_readNumbers_88 (by decide) ?_
        refine x_iret dX3_readNumbers_90 rfl rfl ⟨Nat.le_refl _, Nat.le_refl _⟩ ?_
        refine ⟨_, rfl, ⟨V', rfl, g1, g2, g3, ?_⟩, rfl⟩
        rw [g6]
        rfl
      · omega
    | succ r ih =>
      intro i hi s' V' pre o4 o5 hs' g1 g2 g3 g4 g5 g6
      have eL : lt3 V' x a = Lt := by rw [lt3_up g2 (g1 a hax hab), hLt]
      have hl' : V' x 1 ≤ 200 := by rw [g2]; exact hl
      have hL' : ∀ j, lt3 V' x a j < 128 := by rw [eL]; exact hL
      have cf := c_figuresAt (G := G) (n := n) (h0 := h0) (j := s') hx ha (by omega) hl' hL'
      rw [eL] at cf
      refine x_iload_n dX3_readNumbers_4 rfl ?_
      refine x_iconst (v := nI 4) dX3_readNumbers_5 (by decide) ?_
      refine n_icmp_ge (tgt := 88) dX3_readNumbers_6 (by decide) (by omega) (by omega) (fun c1 => ?_) (fun c1 => ?_)
      · omega
      · have eR : rnF Lt (r + 1) s' = if fig (Lt s') then (if Lt (s' + (if fig (Lt (s' + 1)) then 2 else 1)) = 59 then some (s' + (if fig (Lt (s' + 1)) then 2 else 1) + 1, [dval Lt s' (if fig (Lt (s' + 1)) then 2 else 1)]) else if Lt (s' + (if fig (Lt (s' + 1)) then 2 else 1)) = 44 then (rnF Lt r (s' + (if fig (Lt (s' + 1)) then 2 else 1) + 1)).map (fun q => (q.1, dval Lt s' (if fig (Lt (s' + 1)) then 2 else 1) :: q.2)) else none) else none := rfl
        by_cases f1 : fig (Lt s') = true
        · rw [if_pos f1] at cf eR
          have cn := c_numberAt (G := G) (n := n) (h0 := h0) (j := s') hx ha (by omega) hl' hL' (by rw [eL]; exact f1)
          rw [eL] at cn
          have hF : (if fig (Lt (s' + 1)) then 2 else 1) = 1 ∨ (if fig (Lt (s' + 1)) then 2 else 1) = 2 := by split <;> simp
          generalize (if fig (Lt (s' + 1)) then 2 else 1) = F at cf cn eR hF
          have hdv := dval_lt (L := Lt) (s := s') hL hF
          refine x_aload_n dX3_readNumbers_9 rfl ?_
          refine x_iload_n dX3_readNumbers_10 rfl ?_
          refine x_cVi1 dX3_readNumbers_11 lkX3_42 mdX3_figuresAt isX3_figuresAt rfl rfl (g_c hx) (by decide) (cf) (Nat.le_of_ble_eq_true rfl) ⟨Nat.le_refl _, Nat.le_refl _⟩ ?_
          refine x_is4 dX3_readNumbers_14 (by decide) rfl ?_
          refine x_iload dX3_readNumbers_16 rfl ?_
          refine n_if_ne (tgt := 24) dX3_readNumbers_18 (by decide) (by omega) (fun c2 => ?_) (fun c2 => ?_)
          · refine x_aload_n dX3_readNumbers_24 rfl ?_
            refine x_getf dX3_readNumbers_25 flX3_15 (g_c hx) rfl ?_
            refine x_iload_n dX3_readNumbers_28 rfl ?_
            refine x_aload_n dX3_readNumbers_29 rfl ?_
            refine x_iload_n dX3_readNumbers_30 rfl ?_
            refine x_iload dX3_readNumbers_31 rfl ?_
            refine x_cVi2 dX3_readNumbers_33 lkX3_45 mdX3_numberAt isX3_numberAt rfl rfl (g_c hx) (by decide) (cn) (Nat.le_of_ble_eq_true rfl) ⟨Nat.le_refl _, Nat.le_refl _⟩ ?_
            refine x_cSV3 dX3_readNumbers_36 lkX3_49 mdX7_put stX7_put (by decide) (c_putN (g_c hb) (by decide) (by omega)) (Nat.le_of_ble_eq_true rfl) ⟨Nat.le_refl _, Nat.le_refl _⟩ ?_
            rintro h' rfl
            rw [g_up hb]
            refine x_aload_n dX3_readNumbers_39 rfl ?_
            refine x_iload_n dX3_readNumbers_40 rfl ?_
            refine x_iconst (v := nI 1) dX3_readNumbers_41 (by decide) ?_
            refine n_iadd dX3_readNumbers_42 ?_
            refine g_put dX3_readNumbers_43 flX3_35 ftX3_3 hx (Nat.le_of_ble_eq_true rfl) rfl ?_
            generalize hV2 : va_up (va_up V' b (va_up (V' b) i (dval Lt s' F))) x (va_up ((va_up V' b (va_up (V' b) i (dval Lt s' F))) x) 3 (i + 1)) = V2
            have k1 : ∀ y, y ≠ x → y ≠ b → V2 y = V y := by
              intro y h1 h2
              rw [← g1 y h1 h2, ← hV2]
              simp [va_up, h1, h2]
            have kb : V2 b = va_up (V' b) i (dval Lt s' F) := by
              rw [← hV2]
              simp [va_up, Ne.symm hxb]
            have kx : V2 x = va_up (V' x) 3 (i + 1) := by
              rw [← hV2]
              simp [va_up, hxb]
            have k2 : V2 x 1 = V x 1 := by rw [kx, ← g2]; rfl
            have k3 : ∀ j, j < 4 → V2 b j < 1000 := by
              intro j hj
              rw [kb]
              unfold va_up
              split
              · exact hdv
              · exact g3 j hj
            have k4 : ∀ j, j < i + 1 → (pre ++ [dval Lt s' F]).getD j 0 = V2 b j := by
              intro j hj
              rw [kb]
              unfold va_up
              by_cases q : j = i
              · subst q; rw [if_pos rfl, ← g4]; simp
              · rw [if_neg q, ← g5 j (by omega)]; simp only [List.getD_eq_getElem?_getD]; rw [List.getElem?_append_left (by omega)]
            have cl := c_letterS (G := G) (n := n) (h0 := h0) (L := L) (V := V2) (j := s' + F) hx ha (by omega) (by rw [k2]; exact hl)
            rw [lt3_up k2 (k1 a hax hab), hLt] at cl
            have hlt := hL (s' + F)
            refine x_aload_n dX3_readNumbers_46 rfl ?_
            refine x_iload_n dX3_readNumbers_47 rfl ?_
            refine x_iload dX3_readNumbers_48 rfl ?_
            refine n_iadd dX3_readNumbers_50 ?_
            refine x_cVi1 dX3_readNumbers_51 lkX3_32 mdX3_letterAt isX3_letterAt rfl rfl (g_c hx) (by decide) (cl) (Nat.le_of_ble_eq_true rfl) ⟨Nat.le_refl _, Nat.le_refl _⟩ ?_
            refine x_is5 dX3_readNumbers_54 (by decide) rfl ?_
            refine x_iload_n dX3_readNumbers_56 rfl ?_
            refine x_iload dX3_readNumbers_57 rfl ?_
            refine x_iconst (v := nI 1) dX3_readNumbers_59 (by decide) ?_
            refine n_iadd dX3_readNumbers_60 ?_
            refine n_iadd dX3_readNumbers_61 ?_
            refine x_is2 dX3_readNumbers_62 (by decide) rfl ?_
            refine x_iload dX3_readNumbers_63 rfl ?_
            refine x_bipush (v := nI 59) dX3_readNumbers_65 (by decide) ?_
            rw [show s' + (F + 1) = s' + F + 1 by omega]
            refine n_icmp_ne (tgt := 72) dX3_readNumbers_67 (by decide) (by omega) (by omega) (fun c3 => ?_) (fun c3 => ?_)
            · rw [if_neg c3] at eR
              refine x_iload dX3_readNumbers_72 rfl ?_
              refine x_bipush (v := nI 44) dX3_readNumbers_74 (by decide) ?_
              refine n_icmp_eq (tgt := 82) dX3_readNumbers_76 (by decide) (by omega) (by omega) (fun c4 => ?_) (fun c4 => ?_)
              · rw [if_pos c4] at eR
                refine n_ii3 (w := 1) dX3_readNumbers_82 (by decide) (by decide) rfl ?_
                refine x_goto (tgt := 4) dX3_readNumbers_85 (by decide) ?_
                refine ih (i + 1) (by omega) (s' + F + 1) V2 (pre ++ [dval Lt s' F]) _ _ (by omega) k1 k2 k3 (by simp [g4]) k4 ?_
                rw [g6, eR, Option.map_map]
                congr 1
                funext q
                simp
              · rw [if_neg c4] at eR
                refine x_bipush (v := -4) dX3_readNumbers_79 (by decide) ?_
                refine x_iret dX3_readNumbers_81 rfl rfl ⟨Nat.le_refl _, Nat.le_refl _⟩ ?_
                refine ⟨_, rfl, ⟨V2, rfl, k1, k2, k3, ?_⟩, rfl⟩
                rw [g6, eR]
                rfl
            · rw [if_pos c3] at eR
              refine x_iload_n dX3_readNumbers_70 rfl ?_
              refine x_iret dX3_readNumbers_71 rfl rfl ⟨Nat.le_refl _, Nat.le_refl _⟩ ?_
              refine ⟨_, rfl, ⟨V2, rfl, k1, k2, k3, ?_⟩, rfl⟩
              rw [g6, eR]
              refine ⟨rfl, ?_, ?_⟩
              · rw [kx]; simp [va_up, g4]
              · intro j hj
                refine k4 j ?_
                simp at hj
                omega
          · omega
        · rw [if_neg f1] at cf eR
          refine x_aload_n dX3_readNumbers_9 rfl ?_
          refine x_iload_n dX3_readNumbers_10 rfl ?_
          refine x_cVi1 dX3_readNumbers_11 lkX3_42 mdX3_figuresAt isX3_figuresAt rfl rfl (g_c hx) (by decide) (cf) (Nat.le_of_ble_eq_true rfl) ⟨Nat.le_refl _, Nat.le_refl _⟩ ?_
          refine x_is4 dX3_readNumbers_14 (by decide) rfl ?_
          refine x_iload dX3_readNumbers_16 rfl ?_
          refine n_if_ne (tgt := 24) dX3_readNumbers_18 (by decide) (by omega) (fun c2 => ?_) (fun c2 => ?_)
          · omega
          · refine x_bipush (v := -4) dX3_readNumbers_21 (by decide) ?_
            refine x_iret dX3_readNumbers_23 rfl rfl ⟨Nat.le_refl _, Nat.le_refl _⟩ ?_
            refine ⟨_, rfl, ⟨V', rfl, g1, g2, g3, ?_⟩, rfl⟩
            rw [g6, eR]
            rfl
  exact key 4 0 (by omega) s V [] _ _ (by omega) (fun _ _ _ => rfl) rfl hn rfl (fun j hj => absurd hj (by omega)) (by simp)
end ZS21
