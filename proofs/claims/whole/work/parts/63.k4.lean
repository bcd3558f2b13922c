section ZK5
variable {G : zG} {n : Nat} {h0 : zF} {L : zSh} {V : Nat → Nat → Nat} {c : Nat} {P J I : Nat → Nat} {X A : Nat → Nat → Nat}
theorem k_next {x : Int32} (hL : kL L c P) (hT : ∀ V, zTr (gH h0 L V) (P 0) J X) (hV : kV V c P J X I A) : zPi G MX7_next 5 [.ref c, .int x] (gH h0 L V) n (fun v h' => v = fNext I A x ∧ kPo h0 L c P J X I A h') := by
  refine zCt.of rfl (Nat.le_of_ble_eq_true rfl) rfl ?_
  have hR := hV.2.1
  have hW := hV.2.2.1
  have hWb := hL.2.2.2.1
  have hb5 := hL.2.2.2.2.2.2.2.2.2.2.2.2.2
  have hP := hL.2.2.2.2.2.2.2.2.2.2.2.2.1
  have hF : zFi L (c + 38) := hL.2.2.2.2.2.1
  refine x_iload_n dX7_next_0 rfl ?_
  refine x_iconst (v := nI 2) dX7_next_1 (by decide) ?_
  refine x_cSi2 dX7_next_2 lkX7_170 mdX7_isBelow stX7_isBelow (by decide) (c_isBelow x (by decide)) (Nat.le_of_ble_eq_true rfl) ⟨Nat.le_refl _, Nat.le_refl _⟩ ?_
  refine b_if_ne (tgt := 10) dX7_next_5 (by decide) (fun c1 => ?_) (fun c1 => ?_)
  · obtain ⟨w, hw, rfl⟩ := inR_of (bR_true.mp c1) (by decide)
    refine x_aload_n dX7_next_10 rfl ?_
    refine x_cVa0 dX7_next_11 lkX7_208 mdX7_findRemaining isX7_findRemaining rfl rfl (g_c (And.left hL)) (by decide) (k_find hL hT hV) (Nat.le_of_ble_eq_true rfl) ⟨Nat.le_refl _, Nat.le_refl _⟩ ?_
    rintro v h' ⟨rfl, V', rfl, kv, km, kf⟩
    have e1 := km.2.1.1
    have hnl : nLeft A (A 17 8) (I 17) = (remL A (A 17 8)).length := by rw [hW.2.1]; exact nLeft_rem hW.2.2.1 _
    have hbt : btF A (lf A (A 17 8)) (I 17) (4 * A 7 0 - 1) = chO A (remL A (A 17 8)) (4 * A 7 0) := by rw [hW.2.1]; exact bt_list hW.2.2.1 (mR_rem hW.2.2.1 _) (wl_a60 hR.2.1 hW.2.2.1) hR.2.2.1
    have ef : fNext I A (nI w) = if (remL A (A 17 8)).length = 0 then -4 else sNext (chO A (remL A (A 17 8)) (4 * A 7 0)) (nI w) := by
      unfold fNext; rw [c1, hnl, hbt]; rfl
    rw [ef]
    have hrl := remL_le (A := A) (A 17 8)
    have w6 := hW.2.2.2.2.2.1
    have hok := remL_ok hR.2.1 (A 17 8)
    have h29 := hok.2.2
    refine x_as2 dX7_next_14 (by decide) rfl ?_
    refine x_aload_n dX7_next_15 rfl ?_
    refine x_getf dX7_next_16 flX7_106 (g_c hWb.1) rfl ?_
    rw [e1]
    refine n_if_ne (tgt := 25) dX7_next_19 (by decide) (by omega) (fun c4 => ?_) (fun c4 => ?_)
    · rw [if_neg c4]
      refine x_aload_n dX7_next_25 rfl ?_
      refine x_getf dX7_next_26 flX7_42 (g_c (And.left hL)) rfl ?_
      refine x_aload_n dX7_next_29 rfl ?_
      refine x_getf dX7_next_30 flX7_19 (g_c (And.left hL)) rfl ?_
      refine x_aload_n dX7_next_33 rfl ?_
      refine x_cVV2 dX7_next_34 lkX7_227 mdX0_choose isX0_choose rfl rfl (g_c hF.1) (by decide) (c_choose hF hWb.1 hWb.2 (by omega) km.2.1 (by omega) hT hR.1 hR.2.1 hok.1 hok.2.2 (by omega)) (Nat.le_of_ble_eq_true rfl) ⟨Nat.le_refl _, Nat.le_refl _⟩ ?_
      rintro h' ⟨V2, rfl, f1, f2, f3, f4⟩
      have kv2 : kV V2 c P J X I A := kv.fr hL (fun b hb => f1 b (fun e => hb (by unfold scr; omega)) (fun e => hb (by unfold scr; omega)) (fun e => hb (by unfold scr; omega)))
      refine x_iload_n dX7_next_37 rfl ?_
      refine n_if_ne (tgt := 51) dX7_next_38 (by decide) (by omega) (fun c5 => ?_) (fun c5 => ?_)
      · refine x_aload_n dX7_next_51 rfl ?_
        refine x_getf dX7_next_52 flX7_42 (g_c (And.left hL)) rfl ?_
        refine x_getf dX7_next_55 flX7_234 (g_c hF.1) rfl ?_
        refine x_iret dX7_next_58 rfl rfl ⟨Nat.le_refl _, Nat.le_refl _⟩ ?_
        refine ⟨_, rfl, ⟨?_, V2, rfl, kv2⟩, rfl⟩
        rw [f4]; unfold sNext; rw [if_neg (fun z => c5 ((nI_inj32 (by omega) (by decide)).mp (z.trans (show (0 : Int32) = nI 0 from rfl))))]
      · subst c5
        refine x_aload_n dX7_next_41 rfl ?_
        refine x_getf dX7_next_42 flX7_42 (g_c (And.left hL)) rfl ?_
        refine x_getf dX7_next_45 flX7_231 (g_c hF.1) rfl ?_
        refine x_goto (tgt := 58) dX7_next_48 (by decide) ?_
        refine x_iret dX7_next_58 rfl rfl ⟨Nat.le_refl _, Nat.le_refl _⟩ ?_
        refine ⟨_, rfl, ⟨?_, V2, rfl, kv2⟩, rfl⟩
        rw [f3]; unfold sNext; rw [if_pos (by decide)]
    · rw [if_pos c4]
      refine x_bipush (v := -4) dX7_next_22 (by decide) ?_
      refine x_iret dX7_next_24 rfl rfl ⟨Nat.le_refl _, Nat.le_refl _⟩ ?_
      exact ⟨_, rfl, ⟨rfl, V', rfl, kv⟩, rfl⟩
  · refine x_iconst (v := -1) dX7_next_8 (by decide) ?_
    refine x_iret dX7_next_9 rfl rfl ⟨Nat.le_refl _, Nat.le_refl _⟩ ?_
    exact ⟨_, rfl, ⟨by unfold fNext; rw [c1]; rfl, V, rfl, hV⟩, rfl⟩
theorem k_few {x : Int32} (hL : kL L c P) (hT : ∀ V, zTr (gH h0 L V) (P 0) J X) (hV : kV V c P J X I A) : zPi G MX7_few 7 [.ref c, .int x] (gH h0 L V) n (fun v h' => v = fFew I A x ∧ kPo h0 L c P J X I A h') := by
  refine zCt.of rfl (Nat.le_of_ble_eq_true rfl) rfl ?_
  have hR := hV.2.1
  have k7 := hR.2.1.2.1
  have hW := hV.2.2.1
  have hWb := hL.2.2.2.1
  have hWs := hL.2.2.2.2.1
  have hb5 := hL.2.2.2.2.2.2.2.2.2.2.2.2.2
  have hP := hL.2.2.2.2.2.2.2.2.2.2.2.2.1
  have hF : zFi L (c + 38) := hL.2.2.2.2.2.1
  refine x_aload_n dX7_few_0 rfl ?_
  refine x_iload_n dX7_few_1 rfl ?_
  refine x_cVi1 dX7_few_2 lkX7_139 mdX7_isParcel isX7_isParcel rfl rfl (g_c (And.left hL)) (by decide) (k_isParcel hL hT hR) (Nat.le_of_ble_eq_true rfl) ⟨Nat.le_refl _, Nat.le_refl _⟩ ?_
  refine b_if_ne (tgt := 10) dX7_few_5 (by decide) (fun c1 => ?_) (fun c1 => ?_)
  · obtain ⟨p, hp, rfl⟩ := inR_of (bR_true.mp c1) (by omega)
    have hnl : nLeft A (A 17 8) (I 17) = (remL A (A 17 8)).length := by rw [hW.2.1]; exact nLeft_rem hW.2.2.1 _
    have ef : fFew I A (nI p) = if (remL A (A 17 8)).length = 0 then -4 else sFew A (lf A (A 17 8)) p (I 17) := by
      unfold fFew; rw [c1, hnl, nI_clamp (by omega)]; rfl
    rw [ef]
    refine x_aload_n dX7_few_10 rfl ?_
    refine x_getf dX7_few_11 flX7_42 (g_c (And.left hL)) rfl ?_
    refine x_aload_n dX7_few_14 rfl ?_
    refine x_getf dX7_few_15 flX7_19 (g_c (And.left hL)) rfl ?_
    refine x_aload_n dX7_few_18 rfl ?_
    refine x_cVa0 dX7_few_19 lkX7_208 mdX7_findRemaining isX7_findRemaining rfl rfl (g_c (And.left hL)) (by decide) (k_find hL hT hV) (Nat.le_of_ble_eq_true rfl) ⟨Nat.le_refl _, Nat.le_refl _⟩ ?_
    rintro v h' ⟨rfl, V', rfl, kv, km, kf⟩
    have hrl := remL_le (A := A) (A 17 8)
    have w6 := hW.2.2.2.2.2.1
    have w7 := hW.2.2.2.2.2.2
    have hok := remL_ok hR.2.1 (A 17 8)
    refine x_aload_n dX7_few_22 rfl ?_
    refine x_getf dX7_few_23 flX7_36 (g_c (And.left hL)) rfl ?_
    refine x_iload_n dX7_few_26 rfl ?_
    refine x_cVI4 dX7_few_27 lkX7_237 mdX0_fewest isX0_fewest rfl rfl (g_c hF.1) (by decide) (c_fewest hF hWb.1 hWb.2 (by omega) hWs.1 hWs.2 (by omega) km.2.1 (by omega) (by omega) hT hR.1 hR.2.1 hp hok (by omega) (by omega) (by omega) (by omega)) (Nat.le_of_ble_eq_true rfl) ⟨Nat.le_refl _, Nat.le_refl _⟩ ?_
    rintro v h' ⟨V2, rfl, f1, f2⟩
    have kv2 : kV V2 c P J X I A := kv.fr hL (fun b hb => f1 b (fun e => hb (by unfold scr; omega)) (fun e => hb (by unfold scr; omega)) (fun e => hb (by unfold scr; omega)) (fun e => hb (by unfold scr; omega)) (fun e => hb (by unfold scr; omega)))
    refine x_iret dX7_few_30 rfl rfl ⟨Nat.le_refl _, Nat.le_refl _⟩ ?_
    refine ⟨_, rfl, ⟨?_, V2, rfl, kv2⟩, rfl⟩
    rw [hW.2.1]
    exact sFew_list hW.2.2.1 (mR_rem hW.2.2.1 (A 17 8)) (wl_a60 hR.2.1 hW.2.2.1) hR.2.2.1 (fun w hw _ => by rw [hW.2.2.1 w hw]; exact ((wl_ok hR.2.1).1.1 _ (getD_mem hw) p hp 0 (by decide)).1.1) f2
  · refine x_iconst (v := -1) dX7_few_8 (by decide) ?_
    refine x_iret dX7_few_9 rfl rfl ⟨Nat.le_refl _, Nat.le_refl _⟩ ?_
    exact ⟨_, rfl, ⟨by unfold fFew; rw [c1]; rfl, V, rfl, hV⟩, rfl⟩
theorem k_solve {w r len tr q : Nat} {l : List Nat} (hL : kL L c P) (hT : ∀ V, zTr (gH h0 L V) (P 0) J X) (hR : kTr J X A) (hw : L w = some (sW r)) (hr : L r = some (sA len)) (hm : len < 2 ^ 31) (hl : isWs V w r l) (hln : l.length ≤ len) (hln2 : l.length ≤ P 7) (hww : w ≠ c + 36) (hok : lOK A l) (htr : tr < 2 ^ 32) (hq : q < 2) : zPi G MX7_solve 6 [.ref c, .ref w, .int (nI tr), .int (nI q)] (gH h0 L V) n (fun v h' => v = sSol (if tr ∈ l then slL A tr 20 l 0 0 else (none, 0)) (nI q) ∧ ∃ V', h' = gH h0 L V' ∧ ∀ b, ¬ scr c P b → V' b = V b) := by
  refine zCt.of rfl (Nat.le_of_ble_eq_true rfl) rfl ?_
  have hWs := hL.2.2.2.2.1
  have hb5 := hL.2.2.2.2.2.2.2.2.2.2.2.2.2
  have hP := hL.2.2.2.2.2.2.2.2.2.2.2.2.1
  have hF : zFi L (c + 38) := hL.2.2.2.2.2.1
  have e1 : V w 1 = l.length := hl.1
  refine x_aload_n dX7_solve_0 rfl ?_
  refine x_getf dX7_solve_1 flX7_36 (g_c (And.left hL)) rfl ?_
  refine x_aload_n dX7_solve_4 rfl ?_
  refine x_cVV1 dX7_solve_5 lkX7_312 mdX6_copy isX6_copy rfl rfl (g_c hWs.1) (by decide) (c_wCopy hWs.1 hWs.2 (by omega) hw hr hm (by rw [e1]; exact hln2) (by rw [e1]; exact hln) hww) (Nat.le_of_ble_eq_true rfl) ⟨Nat.le_refl _, Nat.le_refl _⟩ ?_
  rintro h' rfl
  generalize hV1 : va_up (va_up V (c + 36) (va_up (V (c + 36)) 1 (V w 1))) (P 4) (fun j => if j < V w 1 then V r j else V (P 4) j) = V1
  have f1 : ∀ b, b ≠ c + 36 → b ≠ P 4 → V1 b = V b := fun b h1 h2 => by rw [← hV1, up_ne _ _ h2, up_ne _ _ h1]
  have f2 : isWs V1 (c + 36) (P 4) l := by
    rw [← hV1]
    refine ⟨?_, ?_⟩
    · rw [up_ne _ _ (by omega), up_eq, up_eq]; exact e1
    · intro j hj
      rw [up_eq, if_pos (by rw [e1]; exact hj)]
      exact hl.2 j hj
  refine x_aload_n dX7_solve_8 rfl ?_
  refine x_getf dX7_solve_9 flX7_42 (g_c (And.left hL)) rfl ?_
  refine x_aload_n dX7_solve_12 rfl ?_
  refine x_getf dX7_solve_13 flX7_19 (g_c (And.left hL)) rfl ?_
  refine x_aload_n dX7_solve_16 rfl ?_
  refine x_getf dX7_solve_17 flX7_36 (g_c (And.left hL)) rfl ?_
  refine x_iload_n dX7_solve_20 rfl ?_
  refine x_cVI3 dX7_solve_21 lkX7_331 mdX0_solves isX0_solves rfl rfl (g_c hF.1) (by decide) (c_solves hF hWs.1 hWs.2 (by omega) f2 hln2 hT hR.1 hR.2.1 hR.2.2.1 hok htr (by omega)) (Nat.le_of_ble_eq_true rfl) ⟨Nat.le_refl _, Nat.le_refl _⟩ ?_
  generalize (if tr ∈ l then slL A tr 20 l 0 0 else (none, 0)) = RES
  rintro v h' ⟨V2, rfl, g1, g2⟩
  have gfr : ∀ b, ¬ scr c P b → V2 b = V b := by
    intro b hb
    unfold scr at hb
    rw [g1 b (by omega) (by omega) (by omega) (by omega) (by omega), f1 b (by omega) (by omega)]
  obtain ⟨m, took⟩ := RES
  cases m with
  | none =>
    have g2 : v = nI 0 := g2
    subst g2
    refine b_if_ne (b := false) (tgt := 30) dX7_solve_24 (by decide) (fun z => by cases z) (fun _ => ?_)
    refine x_bipush (v := -4) dX7_solve_27 (by decide) ?_
    refine x_iret dX7_solve_29 rfl rfl ⟨Nat.le_refl _, Nat.le_refl _⟩ ?_
    exact ⟨_, rfl, ⟨rfl, V2, rfl, gfr⟩, rfl⟩
  | some m =>
    obtain ⟨g2, g3, g4⟩ := (g2 : v = nI 1 ∧ V2 (c + 38) 2 = m ∧ V2 (c + 38) 3 = took)
    subst g2
    refine b_if_ne (b := true) (tgt := 30) dX7_solve_24 (by decide) (fun _ => ?_) (fun z => by cases z)
    refine x_iload_n dX7_solve_30 rfl ?_
    refine n_if_ne (tgt := 44) dX7_solve_31 (by decide) (by omega) (fun c5 => ?_) (fun c5 => ?_)
    · refine x_aload_n dX7_solve_44 rfl ?_
      refine x_getf dX7_solve_45 flX7_42 (g_c (And.left hL)) rfl ?_
      refine x_getf dX7_solve_48 flX7_337 (g_c hF.1) rfl ?_
      refine x_iret dX7_solve_51 rfl rfl ⟨Nat.le_refl _, Nat.le_refl _⟩ ?_
      refine ⟨_, rfl, ⟨?_, V2, rfl, gfr⟩, rfl⟩
      rw [g4]
      show _ = if nI q = 0 then nI m else nI took
      rw [if_neg (fun z => c5 ((nI_inj32 (by omega) (by decide)).mp (z.trans (show (0 : Int32) = nI 0 from rfl))))]
    · subst c5
      refine x_aload_n dX7_solve_34 rfl ?_
      refine x_getf dX7_solve_35 flX7_42 (g_c (And.left hL)) rfl ?_
      refine x_getf dX7_solve_38 flX7_335 (g_c hF.1) rfl ?_
      refine x_goto (tgt := 51) dX7_solve_41 (by decide) ?_
      refine x_iret dX7_solve_51 rfl rfl ⟨Nat.le_refl _, Nat.le_refl _⟩ ?_
      refine ⟨_, rfl, ⟨?_, V2, rfl, gfr⟩, rfl⟩
      rw [g3]
      show _ = if nI 0 = 0 then nI m else nI took
      rw [if_pos (by decide)]
theorem sSol_list {l : List Nat} {g μ : Nat → Bool} (hA : arrIs (A 16) l) (h : mR l g μ) (h60 : a60 A l.length) (h1 : 1 ≤ A 7 0) (tr : Nat) (q : Int32) : sSol (if tr ∈ l.filter g then slL A tr 20 (l.filter g) 0 0 else (none, 0)) q = sSol (slF A tr l.length 21 0 μ 0) q := by
  by_cases hc : tr ∈ l.filter g
  · rw [if_pos hc]
    obtain ⟨e1, e2⟩ := slF_list hA h60 h1 tr 20 0 g μ 0 h hc
    unfold sSol
    rw [e1]
    cases hs : (slL A tr 20 (l.filter g) 0 0).1 with
    | none => rfl
    | some m => rw [e2 m hs]
  · rw [if_neg hc]
    have e : slF A tr l.length 21 0 μ 0 = if hasW A μ tr l.length = false ∨ nMu μ l.length = 1 then (if hasW A μ tr l.length then (some 0, 0) else (none, 0)) else slF A tr l.length 20 (0 + 1) (nar A μ tr (btF A μ l.length (4 * A 7 0 - 1)).1) (0 + A 14 ((btF A μ l.length (4 * A 7 0 - 1)).1 % 4)) := rfl
    rw [e, hasW_list hA h, decide_eq_false hc, if_pos (Or.inl rfl)]
    rfl
theorem k_solved {x : Int32} (hL : kL L c P) (hT : ∀ V, zTr (gH h0 L V) (P 0) J X) (hV : kV V c P J X I A) : zPi G MX7_solved 7 [.ref c, .int x] (gH h0 L V) n (fun v h' => v = fSolved I A x ∧ kPo h0 L c P J X I A h') := by
  refine zCt.of rfl (Nat.le_of_ble_eq_true rfl) rfl ?_
  have hR := hV.2.1
  have hW := hV.2.2.1
  have hWb := hL.2.2.2.1
  have hb5 := hL.2.2.2.2.2.2.2.2.2.2.2.2.2
  have hS : zSc L (c + 44) := hL.2.2.2.2.2.2.1
  refine x_iload_n dX7_solved_0 rfl ?_
  refine x_iconst (v := nI 2) dX7_solved_1 (by decide) ?_
  refine x_cSi2 dX7_solved_2 lkX7_170 mdX7_isBelow stX7_isBelow (by decide) (c_isBelow x (by decide)) (Nat.le_of_ble_eq_true rfl) ⟨Nat.le_refl _, Nat.le_refl _⟩ ?_
  refine b_if_ne (tgt := 10) dX7_solved_5 (by decide) (fun c1 => ?_) (fun c1 => ?_)
  · obtain ⟨w, hw, rfl⟩ := inR_of (bR_true.mp c1) (by decide)
    have ef : fSolved I A (nI w) = sSol (slF A (trC (A 17)) (I 17) 21 0 (lf A (A 17 8)) 0) (nI w) := by
      unfold fSolved; rw [c1]; rfl
    rw [ef, hW.2.1, ← sSol_list hW.2.2.1 (mR_rem hW.2.2.1 (A 17 8)) (wl_a60 hR.2.1 hW.2.2.1) hR.2.2.1]
    refine x_aload_n dX7_solved_10 rfl ?_
    refine x_aload_n dX7_solved_11 rfl ?_
    refine x_cVa0 dX7_solved_12 lkX7_208 mdX7_findRemaining isX7_findRemaining rfl rfl (g_c (And.left hL)) (by decide) (k_find hL hT hV) (Nat.le_of_ble_eq_true rfl) ⟨Nat.le_refl _, Nat.le_refl _⟩ ?_
    rintro v h' ⟨rfl, V', rfl, kv, km, kf⟩
    have hrl := remL_le (A := A) (A 17 8)
    have w6 := hW.2.2.2.2.2.1
    have w7 := hW.2.2.2.2.2.2
    have hok := remL_ok hR.2.1 (A 17 8)
    have hN := kv.2.2.2.1.1
    refine x_aload_n dX7_solved_15 rfl ?_
    refine x_getf dX7_solved_16 flX7_49 (g_c (And.left hL)) rfl ?_
    refine x_getf dX7_solved_19 flX7_151 (g_c hS.1) rfl ?_
    rw [hN.tr]
    refine x_iload_n dX7_solved_22 rfl ?_
    refine x_cVI3 dX7_solved_23 lkX7_241 mdX7_solve isX7_solve rfl rfl (g_c (And.left hL)) (by decide) (k_solve hL hT hR hWb.1 hWb.2 (by omega) km.2.1 (by omega) (by omega) (by omega) hok (by rw [← hN.tr]; exact hN.1) hw) (Nat.le_of_ble_eq_true rfl) ⟨Nat.le_refl _, Nat.le_refl _⟩ ?_
    rintro v h' ⟨rfl, V2, rfl, f1⟩
    refine x_iret dX7_solved_26 rfl rfl ⟨Nat.le_refl _, Nat.le_refl _⟩ ?_
    exact ⟨_, rfl, ⟨rfl, V2, rfl, kv.fr hL f1⟩, rfl⟩
  · refine x_iconst (v := -1) dX7_solved_8 (by decide) ?_
    refine x_iret dX7_solved_9 rfl rfl ⟨Nat.le_refl _, Nat.le_refl _⟩ ?_
    exact ⟨_, rfl, ⟨by unfold fSolved; rw [c1]; rfl, V, rfl, hV⟩, rfl⟩
theorem k_morning {x y : Int32} (hL : kL L c P) (hT : ∀ V, zTr (gH h0 L V) (P 0) J X) (hV : kV V c P J X I A) : zPi G MX7_morning 7 [.ref c, .int x, .int y] (gH h0 L V) n (fun v h' => v = fMorning I A x y ∧ kPo h0 L c P J X I A h') := by
  refine zCt.of rfl (Nat.le_of_ble_eq_true rfl) rfl ?_
  have hR := hV.2.1
  have hW := hV.2.2.1
  have hWa := hL.2.2.1
  have hb5 := hL.2.2.2.2.2.2.2.2.2.2.2.2.2
  have h17 : I 17 ≤ 5040 := by rw [hW.2.1]; exact wl_len (tR_vw.mpr hR.2.1)
  have hno : (bR x 10000 && bR y 2) = false → zEx G MX7_morning 7 0 0 18 [some (.ref c), some (.int x), some (.int y), none, none, none] [] (gH h0 L V) n (0, 0) (fun r h' n' => ∃ v, r = some (.int v) ∧ (v = fMorning I A x y ∧ kPo h0 L c P J X I A h') ∧ n' = n) := by
    intro hc
    refine x_iconst (v := -1) dX7_morning_18 (by decide) ?_
    refine x_iret dX7_morning_19 rfl rfl ⟨Nat.le_refl _, Nat.le_refl _⟩ ?_
    exact ⟨_, rfl, ⟨by unfold fMorning; rw [hc]; rfl, V, rfl, hV⟩, rfl⟩
  refine x_iload_n dX7_morning_0 rfl ?_
  refine x_sipush (v := nI 10000) dX7_morning_1 (by decide) ?_
  refine x_cSi2 dX7_morning_4 lkX7_170 mdX7_isBelow stX7_isBelow (by decide) (c_isBelow x (by decide)) (Nat.le_of_ble_eq_true rfl) ⟨Nat.le_refl _, Nat.le_refl _⟩ ?_
  refine b_if_eq (tgt := 18) dX7_morning_7 (by decide) (fun c1 => ?_) (fun c1 => ?_)
  · exact hno (by rw [c1]; rfl)
  · refine x_iload_n dX7_morning_10 rfl ?_
    refine x_iconst (v := nI 2) dX7_morning_11 (by decide) ?_
    refine x_cSi2 dX7_morning_12 lkX7_170 mdX7_isBelow stX7_isBelow (by decide) (c_isBelow y (by decide)) (Nat.le_of_ble_eq_true rfl) ⟨Nat.le_refl _, Nat.le_refl _⟩ ?_
    refine b_if_ne (tgt := 20) dX7_morning_15 (by decide) (fun c2 => ?_) (fun c2 => ?_)
    · obtain ⟨z, hz, rfl⟩ := inR_of (bR_true.mp c1) (by decide)
      obtain ⟨w, hw, rfl⟩ := inR_of (bR_true.mp c2) (by decide)
      have w4 := hW.2.2.2.1
      have hd : drw z (I 17) < I 17 := Nat.mod_lt _ w4
      have ef : fMorning I A (nI z) (nI w) = sSol (slF A (A 16 (drw z (I 17))) (I 17) 21 0 (lf A 0) 0) (nI w) := by
        unfold fMorning; rw [c1, c2, nI_clamp (by omega)]; rfl
      have hA := hW.2.2.1 (drw z (I 17)) (by rw [← hW.2.1]; exact hd)
      rw [ef, hA]
      have hsl := sSol_list (q := nI w) hW.2.2.1 (mR_rem hW.2.2.1 0) (wl_a60 hR.2.1 hW.2.2.1) hR.2.2.1 ((wl (vw A 0)).getD (drw z (I 17)) 0)
      rw [← hW.2.1, show (wl (vw A 0)).filter (fun x => fitT A (A 17) x 0) = wl (vw A 0) from remL_0] at hsl
      rw [← hsl]
      have hm : (7919 * z + 1) * (7919 * z + 1) ≤ 80000000 * 80000000 := Nat.mul_le_mul (by omega) (by omega)
      refine x_aload_n dX7_morning_20 rfl ?_
      refine x_getf dX7_morning_21 flX7_29 (g_c (And.left hL)) rfl ?_
      refine x_getf dX7_morning_24 flX7_106 (g_c hWa.1) rfl ?_
      rw [hW.1.1, ← hW.2.1]
      refine n_if_ne (tgt := 33) dX7_morning_27 (by decide) (by omega) (fun c4 => ?_) (fun c4 => ?_)
      · refine x_ldc2 (v := lN 7919) dX7_morning_33 coX7_281 ?_
        refine x_iload_n dX7_morning_36 rfl ?_
        refine n_i2l dX7_morning_37 (by omega) ?_
        refine n_lmul dX7_morning_38 ?_
        refine x_lconst (v := lN 1) dX7_morning_39 (by decide) ?_
        refine n_ladd dX7_morning_40 ?_
        refine x_ls3 dX7_morning_41 (by decide) rfl ?_
        refine x_lload_n dX7_morning_42 rfl ?_
        refine x_lload_n dX7_morning_43 rfl ?_
        refine n_lmul dX7_morning_44 ?_
        refine x_ldc2 (v := lN 65521) dX7_morning_45 coX7_283 ?_
        refine n_lrem dX7_morning_48 (by omega) (by decide) (by decide) ?_
        refine n_l2i dX7_morning_49 ?_
        have hdm : (7919 * z + 1) * (7919 * z + 1) % 65521 < 65521 := Nat.mod_lt _ (by decide)
        refine x_is5 dX7_morning_50 (by decide) rfl ?_
        refine x_aload_n dX7_morning_52 rfl ?_
        refine x_aload_n dX7_morning_53 rfl ?_
        refine x_getf dX7_morning_54 flX7_29 (g_c (And.left hL)) rfl ?_
        refine x_aload_n dX7_morning_57 rfl ?_
        refine x_getf dX7_morning_58 flX7_29 (g_c (And.left hL)) rfl ?_
        refine x_iload dX7_morning_61 rfl ?_
        refine x_aload_n dX7_morning_63 rfl ?_
        refine x_getf dX7_morning_64 flX7_29 (g_c (And.left hL)) rfl ?_
        refine x_getf dX7_morning_67 flX7_106 (g_c hWa.1) rfl ?_
        rw [hW.1.1, ← hW.2.1]
        refine n_irem dX7_morning_70 (by omega) (by omega) (by omega) ?_
        rw [show (7919 * z + 1) * (7919 * z + 1) % 65521 % I 17 = drw z (I 17) from rfl]
        have w5 := hW.2.2.2.2.1
        have w7 := hW.2.2.2.2.2.2
        have e17 := hW.2.1
        refine x_cVi1 dX7_morning_71 lkX7_161 mdX6_take isX6_take rfl rfl (g_c hWa.1) (by decide) (c_take hWa.1 hWa.2 (by omega) (by omega)) (Nat.le_of_ble_eq_true rfl) ⟨Nat.le_refl _, Nat.le_refl _⟩ ?_
        rw [hW.1.2 _ (by omega)]
        refine x_iload_n dX7_morning_74 rfl ?_
        refine x_cVI3 dX7_morning_75 lkX7_241 mdX7_solve isX7_solve rfl rfl (g_c (And.left hL)) (by decide) (k_solve hL hT hR hWa.1 hWa.2 (by omega) hW.1 (by omega) (by omega) (by omega) (wl_ok hR.2.1).1 ((wl_ok hR.2.1).1.2.1 _ (getD_mem (by omega))) hw) (Nat.le_of_ble_eq_true rfl) ⟨Nat.le_refl _, Nat.le_refl _⟩ ?_
        rintro v h' ⟨rfl, V2, rfl, f1⟩
        refine x_iret dX7_morning_78 rfl rfl ⟨Nat.le_refl _, Nat.le_refl _⟩ ?_
        exact ⟨_, rfl, ⟨rfl, V2, rfl, hV.fr hL f1⟩, rfl⟩
      · omega
    · exact hno (by rw [c2]; simp)
end ZK5
