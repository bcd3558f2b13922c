section ZK6
variable {G : zG} {n : Nat} {h0 : zF} {L : zSh} {V : Nat → Nat → Nat} {c : Nat} {P J I : Nat → Nat} {X A : Nat → Nat → Nat}
set_option maxRecDepth 100000 in
theorem k_misled {x y : Int32} (hL : kL L c P) (hT : ∀ V, zTr (gH h0 L V) (P 0) J X) (hV : kV V c P J X I A) : zPi G MX7_misled 5 [.ref c, .int x, .int y] (gH h0 L V) n (fun v h' => v = fMisled I A x y ∧ kPo h0 L c P J X I A h') := by
  refine zCt.of rfl (Nat.le_of_ble_eq_true rfl) rfl ?_
  have hR := hV.2.1
  have k7 := hR.2.1.2.1
  have hW := hV.2.2.1
  have hWb := hL.2.2.2.1
  have hb5 := hL.2.2.2.2.2.2.2.2.2.2.2.2.2
  have hP := hL.2.2.2.2.2.2.2.2.2.2.2.2.1
  have hF : zFi L (c + 38) := hL.2.2.2.2.2.1
  have hS : zSc L (c + 44) := hL.2.2.2.2.2.2.1
  have hno : (bR x (A 7 0) && bR y 2) = false → zEx G MX7_misled 5 0 0 16 [some (.ref c), some (.int x), some (.int y), none, none, none, none] [] (gH h0 L V) n (0, 0) (fun r h' n' => ∃ v, r = some (.int v) ∧ (v = fMisled I A x y ∧ kPo h0 L c P J X I A h') ∧ n' = n) := by
    intro hc
    refine x_iconst (v := -1) dX7_misled_16 (by decide) ?_
    refine x_iret dX7_misled_17 rfl rfl ⟨Nat.le_refl _, Nat.le_refl _⟩ ?_
    exact ⟨_, rfl, ⟨by unfold fMisled; rw [hc]; rfl, V, rfl, hV⟩, rfl⟩
  refine x_aload_n dX7_misled_0 rfl ?_
  refine x_iload_n dX7_misled_1 rfl ?_
  refine x_cVi1 dX7_misled_2 lkX7_139 mdX7_isParcel isX7_isParcel rfl rfl (g_c (And.left hL)) (by decide) (k_isParcel hL hT hR) (Nat.le_of_ble_eq_true rfl) ⟨Nat.le_refl _, Nat.le_refl _⟩ ?_
  refine b_if_eq (tgt := 16) dX7_misled_5 (by decide) (fun c1 => ?_) (fun c1 => ?_)
  · exact hno (by rw [c1]; rfl)
  · refine x_iload_n dX7_misled_8 rfl ?_
    refine x_iconst (v := nI 2) dX7_misled_9 (by decide) ?_
    refine x_cSi2 dX7_misled_10 lkX7_170 mdX7_isBelow stX7_isBelow (by decide) (c_isBelow y (by decide)) (Nat.le_of_ble_eq_true rfl) ⟨Nat.le_refl _, Nat.le_refl _⟩ ?_
    refine b_if_ne (tgt := 18) dX7_misled_13 (by decide) (fun c2 => ?_) (fun c2 => ?_)
    · obtain ⟨p, hp, rfl⟩ := inR_of (bR_true.mp c1) (by omega)
      obtain ⟨w, hw, rfl⟩ := inR_of (bR_true.mp c2) (by decide)
      have ef : fMisled I A (nI p) (nI w) = if nI w = 0 then nI (msF A p (I 17) 9).1 else nI (msF A p (I 17) 9).2 := by
        unfold fMisled; rw [c1, c2, nI_clamp (by omega)]; rfl
      rw [ef]
      refine x_aload_n dX7_misled_18 rfl ?_
      refine x_getf dX7_misled_19 flX7_42 (g_c (And.left hL)) rfl ?_
      refine x_aload_n dX7_misled_22 rfl ?_
      refine x_cVa0 dX7_misled_23 lkX7_208 mdX7_findRemaining isX7_findRemaining rfl rfl (g_c (And.left hL)) (by decide) (k_find hL hT hV) (Nat.le_of_ble_eq_true rfl) ⟨Nat.le_refl _, Nat.le_refl _⟩ ?_
      rintro v h' ⟨rfl, V', rfl, kv, km, kf⟩
      have hrl := remL_le (A := A) (A 17 8)
      have w6 := hW.2.2.2.2.2.1
      have hok := remL_ok hR.2.1 (A 17 8)
      have h29 := hok.2.2
      refine x_iload_n dX7_misled_26 rfl ?_
      refine x_cVV2 dX7_misled_27 lkX7_259 mdX0_countSets isX0_countSets rfl rfl (g_c hF.1) (by decide) (c_countSets hF hWb.1 hWb.2 (by omega) km.2.1 (by omega) (show p < 4 by omega) (by omega)) (Nat.le_of_ble_eq_true rfl) ⟨Nat.le_refl _, Nat.le_refl _⟩ ?_
      rintro h' ⟨V1, rfl, f1, f2⟩
      refine x_aload_n dX7_misled_30 rfl ?_
      refine x_getf dX7_misled_31 flX7_42 (g_c (And.left hL)) rfl ?_
      refine x_aload_n dX7_misled_34 rfl ?_
      refine x_getf dX7_misled_35 flX7_19 (g_c (And.left hL)) rfl ?_
      refine x_iload_n dX7_misled_38 rfl ?_
      refine x_iconst (v := nI 0) dX7_misled_39 (by decide) ?_
      refine x_cVI3 dX7_misled_40 lkX7_263 mdX0_countReplies isX0_countReplies rfl rfl (g_c hF.1) (by decide) (c_countReplies hF hT hR.1 hR.2.1 hp (show 0 < 4 by decide) (fun x hx => hok.1 x hx p hp 0 (by decide)) (by omega) f2) (Nat.le_of_ble_eq_true rfl) ⟨Nat.le_refl _, Nat.le_refl _⟩ ?_
      rintro v h' ⟨rfl, V2, rfl, f3, f4⟩
      have gfr : ∀ b, ¬ scr c P b → V2 b = V' b := by
        intro b hb
        unfold scr at hb
        rw [f3 b (by omega), f1 b (by omega)]
      have kv2 : kV V2 c P J X I A := kv.fr hL gfr
      obtain ⟨n1, n2⟩ := kv2.2.2.2.1
      have esp := (n1.2.1 p (by omega)).1
      have hsp := n2.2.1 p hp
      have h10 := (hR.2.1.2.2.2.1 p hp).2.2
      have hms : ∀ f, f < 10 → ansF A p 0 (A 17 p) f < 64 := fun f hf => by
        have := ans_58 (f := f) hR.2.1 hp (show 0 < 4 by decide) hsp.1 (by omega)
        omega
      have hmn : ∀ f, f < 10 → V2 (c + 38 + 2) (ansF A p 0 (A 17 p) f) = msN A p (I 17) f := by
        intro f hf
        rw [f4 _ (hms f hf)]
        unfold msN
        rw [hW.2.1, cntV_list hW.2.2.1 (mR_rem hW.2.2.1 (A 17 8))]
        rfl
      have hml : ∀ f, msN A p (I 17) f ≤ I 17 := fun f => cntV_le _ _ _ _ _ _
      have h17 : I 17 ≤ 5040 := by rw [hW.2.1]; exact wl_len (tR_vw.mpr hR.2.1)
      refine x_pop dX7_misled_43 rfl ?_
      refine x_iconst (v := nI 0) dX7_misled_44 (by decide) ?_
      refine x_is3 dX7_misled_45 (by decide) rfl ?_
      refine x_iconst (v := nI 0) dX7_misled_46 (by decide) ?_
      refine x_is4 dX7_misled_47 (by decide) rfl ?_
      refine x_iconst (v := nI 0) dX7_misled_49 (by decide) ?_
      refine x_is5 dX7_misled_50 (by decide) rfl ?_
      have hst : ∀ f, (if f = 0 then (0, 0) else msF A p (I 17) (f - 1)).2 ≤ I 17 := by
        intro f
        split
        · exact Nat.zero_le _
        · exact (msF_le A p (I 17) (f - 1)).2
      refine z_up 10 (P := fun f => ∀ o6, zEx G MX7_misled 5 0 0 52 [some (.ref c), some (.int (nI p)), some (.int (nI w)), some (.int (nI (if f = 0 then (0, 0) else msF A p (I 17) (f - 1)).1)), some (.int (nI (if f = 0 then (0, 0) else msF A p (I 17) (f - 1)).2)), some (.int (nI f)), o6] [] (gH h0 L V2) n (0, 0) _) ?_ 0 (Nat.zero_le _) _
      intro f hf ih o6
      have hstf := hst f
      refine x_iload dX7_misled_52 rfl ?_
      refine x_bipush (v := nI 10) dX7_misled_54 (by decide) ?_
      refine n_icmp_ge (tgt := 113) dX7_misled_56 (by decide) (by omega) (by omega) (fun c5 => ?_) (fun c5 => ?_)
      · have hfe : f = 10 := by omega
        subst hfe
        refine x_iload_n dX7_misled_113 rfl ?_
        refine n_if_ne (tgt := 121) dX7_misled_114 (by decide) (by omega) (fun c6 => ?_) (fun c6 => ?_)
        · refine x_iload dX7_misled_121 rfl ?_
          refine x_iret dX7_misled_123 rfl rfl ⟨Nat.le_refl _, Nat.le_refl _⟩ ?_
          refine ⟨_, rfl, ⟨?_, V2, rfl, kv2⟩, rfl⟩
          show nI (msF A p (I 17) 9).2 = if nI w = 0 then _ else _
          rw [if_neg (fun z => c6 ((nI_inj32 (by omega) (by decide)).mp (z.trans (show (0 : Int32) = nI 0 from rfl))))]
        · subst c6
          refine x_iload_n dX7_misled_117 rfl ?_
          refine x_goto (tgt := 123) dX7_misled_118 (by decide) ?_
          refine x_iret dX7_misled_123 rfl rfl ⟨Nat.le_refl _, Nat.le_refl _⟩ ?_
          refine ⟨_, rfl, ⟨?_, V2, rfl, kv2⟩, rfl⟩
          show nI (msF A p (I 17) 9).1 = if nI 0 = 0 then _ else _
          rw [if_pos (by decide)]
      · have ih9 := ih (by omega)
        have hm := hms f (by omega)
        have hmv := hmn f (by omega)
        have hml' := hml f
        have es : (if f + 1 = 0 then (0, 0) else msF A p (I 17) (f + 1 - 1)) = if (if f = 0 then (0, 0) else msF A p (I 17) (f - 1)).2 < msN A p (I 17) f then (f, msN A p (I 17) f) else (if f = 0 then (0, 0) else msF A p (I 17) (f - 1)) := by
          rw [if_neg (by omega), Nat.add_sub_cancel]
          by_cases f0 : f = 0
          · subst f0
            rw [if_pos rfl]
            show (0, msN A p (I 17) 0) = if 0 < msN A p (I 17) 0 then (0, msN A p (I 17) 0) else (0, 0)
            by_cases z : 0 < msN A p (I 17) 0
            · rw [if_pos z]
            · rw [if_neg z, show msN A p (I 17) 0 = 0 by omega]
          · rw [if_neg f0]
            obtain ⟨f', rfl⟩ : ∃ f', f = f' + 1 := ⟨f - 1, by omega⟩
            rfl
        rw [es] at ih9
        generalize (if f = 0 then (0, 0) else msF A p (I 17) (f - 1)) = q at hstf ih9
        obtain ⟨q1, q2⟩ := q
        simp only at hstf ih9
        refine x_aload_n dX7_misled_59 rfl ?_
        refine x_getf dX7_misled_60 flX7_42 (g_c (And.left hL)) rfl ?_
        refine x_getf dX7_misled_63 flX7_267 (g_c hF.1) rfl ?_
        refine x_aload_n dX7_misled_66 rfl ?_
        refine x_getf dX7_misled_67 flX7_19 (g_c (And.left hL)) rfl ?_
        refine x_iload_n dX7_misled_70 rfl ?_
        refine x_iconst (v := nI 0) dX7_misled_71 (by decide) ?_
        refine x_aload_n dX7_misled_72 rfl ?_
        refine x_getf dX7_misled_73 flX7_49 (g_c (And.left hL)) rfl ?_
        refine x_getf dX7_misled_76 flX7_151 (g_c hS.1) rfl ?_
        refine x_iload_n dX7_misled_79 rfl ?_
        refine x_cSi2 dX7_misled_80 lkX7_154 mdX7_inside stX7_inside (by decide) (c_inside _ (by omega)) (Nat.le_of_ble_eq_true rfl) ⟨Nat.le_refl _, Nat.le_refl _⟩ ?_
        rw [esp]
        refine x_iload dX7_misled_83 rfl ?_
        refine x_cVi4 dX7_misled_85 lkX7_174 mdX5_reply isX5_reply rfl rfl (And.left (hT _)) (by decide) (c_reply (hT _) hR.1 hR.2.1 hp (by decide) hsp.1 (by omega)) (Nat.le_of_ble_eq_true rfl) ⟨Nat.le_refl _, Nat.le_refl _⟩ ?_
        refine x_cSi2 dX7_misled_88 lkX7_122 mdX7_at stX7_at (by decide) (c_atN (g_c hF.2.2.1) (by decide) hm) (Nat.le_of_ble_eq_true rfl) ⟨Nat.le_refl _, Nat.le_refl _⟩ ?_
        rw [hmv]
        refine x_is6 dX7_misled_91 (by decide) rfl ?_
        refine x_iload dX7_misled_93 rfl ?_
        refine x_iload dX7_misled_95 rfl ?_
        refine n_icmp_le (tgt := 107) dX7_misled_97 (by decide) (by omega) (by omega) (fun c6 => ?_) (fun c6 => ?_)
        · rw [if_neg (by omega)] at ih9
          refine n_ii5 (w := 1) dX7_misled_107 (by decide) (by decide) rfl ?_
          refine x_goto (tgt := 52) dX7_misled_110 (by decide) ?_
          exact ih9 _
        · rw [if_pos (by omega)] at ih9
          refine x_iload dX7_misled_100 rfl ?_
          refine x_is3 dX7_misled_102 (by decide) rfl ?_
          refine x_iload dX7_misled_103 rfl ?_
          refine x_is4 dX7_misled_105 (by decide) rfl ?_
          refine n_ii5 (w := 1) dX7_misled_107 (by decide) (by decide) rfl ?_
          refine x_goto (tgt := 52) dX7_misled_110 (by decide) ?_
          exact ih9 _
    · exact hno (by rw [c2]; simp)
set_option maxRecDepth 100000 in
theorem k_more {x : Int32} (hL : kL L c P) (hT : ∀ V, zTr (gH h0 L V) (P 0) J X) (hV : kV V c P J X I A) : zPi G MX7_more 5 [.ref c, .int x] (gH h0 L V) n (fun v h' => v = fMore I A x ∧ kPo h0 L c P J X I A h') := by
  refine zCt.of rfl (Nat.le_of_ble_eq_true rfl) rfl ?_
  have hR := hV.2.1
  have hW := hV.2.2.1
  have hWb := hL.2.2.2.1
  have hb5 := hL.2.2.2.2.2.2.2.2.2.2.2.2.2
  have hI0 := tI_vw.mpr hR.1
  have hk0 := tR_vw.mpr hR.2.1
  refine x_iload_n dX7_more_0 rfl ?_
  refine x_iconst (v := nI 3) dX7_more_1 (by decide) ?_
  refine x_cSi2 dX7_more_2 lkX7_170 mdX7_isBelow stX7_isBelow (by decide) (c_isBelow x (by decide)) (Nat.le_of_ble_eq_true rfl) ⟨Nat.le_refl _, Nat.le_refl _⟩ ?_
  refine b_if_ne (tgt := 10) dX7_more_5 (by decide) (fun c1 => ?_) (fun c1 => ?_)
  · obtain ⟨w, hw, rfl⟩ := inR_of (bR_true.mp c1) (by decide)
    have ef : fMore I A (nI w) = nI (zsum 0 (fun i => if clsW (vw A 0) ((remL A (A 17 8)).getD i 0) == w then 1 else 0) (remL A (A 17 8)).length) := by
      unfold fMore
      rw [c1, nI_clamp (by omega), if_pos rfl, sum_rem hW (fun x => if clsW (vw A 0) x == w then 1 else 0) (A 17 8)]
      unfold mrF
      congr 1
      refine zsum_congr 0 _ (fun u _ => ?_)
      by_cases h1 : lf A (A 17 8) u = true <;> by_cases h2 : clsW (vw A 0) (A 16 u) = w <;> simp [h1, h2]
    rw [ef]
    refine x_aload_n dX7_more_10 rfl ?_
    refine x_cVa0 dX7_more_11 lkX7_208 mdX7_findRemaining isX7_findRemaining rfl rfl (g_c (And.left hL)) (by decide) (k_find hL hT hV) (Nat.le_of_ble_eq_true rfl) ⟨Nat.le_refl _, Nat.le_refl _⟩ ?_
    rintro v h' ⟨rfl, V', rfl, kv, km, kf⟩
    have e1 := km.2.1.1
    have hws := km.2.1
    have hdj := fun x hx => ((wl_ok hR.2.1).2 x (remL_mem (A := A) (x := x) (k := A 17 8) hx)).1
    have hrl := remL_le (A := A) (A 17 8)
    have hlN := (wl_ok hR.2.1).1.2.2
    have hl6 : (remL A (A 17 8)).length ≤ P 6 := by have := hW.2.2.2.2.2.1; omega
    generalize hrm : remL A (A 17 8) = rm at e1 hws hl6 hrl hdj
    refine x_as2 dX7_more_14 (by decide) rfl ?_
    refine x_iconst (v := nI 0) dX7_more_15 (by decide) ?_
    refine x_is3 dX7_more_16 (by decide) rfl ?_
    refine x_iconst (v := nI 0) dX7_more_17 (by decide) ?_
    refine x_is4 dX7_more_18 (by decide) rfl ?_
    refine z_up rm.length (P := fun i => ∀ o5 o6, zEx G MX7_more 5 0 0 20 [some (.ref c), some (.int (nI w)), some (.ref (c + 34)), some (.int (nI (zsum 0 (fun i => if clsW (vw A 0) (rm.getD i 0) == w then 1 else 0) i))), some (.int (nI i)), o5, o6] [] (gH h0 L V') n (0, 0) _) ?_ 0 (Nat.zero_le _) _ _
    intro i hi ih o5 o6
    refine x_iload dX7_more_20 rfl ?_
    refine x_aload_n dX7_more_22 rfl ?_
    refine x_getf dX7_more_23 flX7_106 (g_c hWb.1) rfl ?_
    rw [e1]
    refine n_icmp_ge (tgt := 79) dX7_more_26 (by decide) (by omega) (by omega) (fun c5 => ?_) (fun c5 => ?_)
    · have hie : i = rm.length := by omega
      subst hie
      refine x_iload_n dX7_more_79 rfl ?_
      refine x_iret dX7_more_80 rfl rfl ⟨Nat.le_refl _, Nat.le_refl _⟩ ?_
      exact ⟨_, rfl, ⟨rfl, V', rfl, kv⟩, rfl⟩
    · have hi' : i < rm.length := by omega
      have ih9 := ih hi'
      have ev := hws.2 i hi'
      have hx := hdj _ (getD_mem hi')
      have l0 := wC_1000 (w := rm.getD i 0) (c := 0) hk0.1 (fun t ht => (hk0.2.2.1 t ht).2.2.1) hk0.2.1
      have l1 := wC_1000 (w := rm.getD i 0) (c := 1) hk0.1 (fun t ht => (hk0.2.2.1 t ht).2.2.1) hk0.2.1
      have ez : zsum 0 (fun i => if clsW (vw A 0) (rm.getD i 0) == w then 1 else 0) (i + 1) = zsum 0 (fun i => if clsW (vw A 0) (rm.getD i 0) == w then 1 else 0) i + (if clsW (vw A 0) (rm.getD i 0) == w then 1 else 0) := rfl
      have hcls : (if wC (vw A 0) (rm.getD i 0) 1 (vw A 0 7 0) < wC (vw A 0) (rm.getD i 0) 0 (vw A 0 7 0) then (-1 : Int32) else if wC (vw A 0) (rm.getD i 0) 1 (vw A 0 7 0) = wC (vw A 0) (rm.getD i 0) 0 (vw A 0 7 0) then nI 0 else nI 1) = nI w - nI 1 ↔ clsW (vw A 0) (rm.getD i 0) = w := by
        unfold clsW
        generalize wC (vw A 0) (rm.getD i 0) 1 (vw A 0 7 0) = a1
        generalize wC (vw A 0) (rm.getD i 0) 0 (vw A 0 7 0) = a0
        rcases Nat.lt_trichotomy a1 a0 with z | z | z
        · rw [if_pos z, if_pos z]
          rcases (show w = 0 ∨ w = 1 ∨ w = 2 by omega) with rfl | rfl | rfl <;> decide
        · rw [if_neg (by omega), if_pos z, if_neg (by omega), if_pos z.symm]
          rcases (show w = 0 ∨ w = 1 ∨ w = 2 by omega) with rfl | rfl | rfl <;> decide
        · rw [if_neg (by omega), if_neg (by omega), if_neg (by omega), if_neg (by omega)]
          rcases (show w = 0 ∨ w = 1 ∨ w = 2 by omega) with rfl | rfl | rfl <;> decide
      refine x_aload_n dX7_more_29 rfl ?_
      refine x_iload dX7_more_30 rfl ?_
      refine x_cVi1 dX7_more_32 lkX7_161 mdX6_take isX6_take rfl rfl (g_c hWb.1) (by decide) (c_take hWb.1 hWb.2 (by omega) (by omega)) (Nat.le_of_ble_eq_true rfl) ⟨Nat.le_refl _, Nat.le_refl _⟩ ?_
      rw [ev]
      refine x_is5 dX7_more_35 (by decide) rfl ?_
      refine x_aload_n dX7_more_37 rfl ?_
      refine x_getf dX7_more_38 flX7_19 (g_c (And.left hL)) rfl ?_
      refine x_iload dX7_more_41 rfl ?_
      refine x_iconst (v := nI 1) dX7_more_43 (by decide) ?_
      refine x_cVi2 dX7_more_44 lkX7_270 mdX5_worthFor isX5_worthFor rfl rfl (And.left (hT _)) (by decide) (c_worthFor (hT _) hI0 hk0 hx (by decide)) (Nat.le_of_ble_eq_true rfl) ⟨Nat.le_refl _, Nat.le_refl _⟩ ?_
      refine x_aload_n dX7_more_47 rfl ?_
      refine x_getf dX7_more_48 flX7_19 (g_c (And.left hL)) rfl ?_
      refine x_iload dX7_more_51 rfl ?_
      refine x_iconst (v := nI 0) dX7_more_53 (by decide) ?_
      refine x_cVi2 dX7_more_54 lkX7_270 mdX5_worthFor isX5_worthFor rfl rfl (And.left (hT _)) (by decide) (c_worthFor (hT _) hI0 hk0 hx (by decide)) (Nat.le_of_ble_eq_true rfl) ⟨Nat.le_refl _, Nat.le_refl _⟩ ?_
      refine x_cSi2 dX7_more_57 lkX7_273 mdJ6_compare_7cf53 stJ6_compare_7cf53 (by decide) (c_compare (by omega) (by omega)) (Nat.le_of_ble_eq_true rfl) ⟨Nat.le_refl _, Nat.le_refl _⟩ ?_
      refine x_is6 dX7_more_60 (by decide) rfl ?_
      refine x_iload dX7_more_62 rfl ?_
      refine x_iload_n dX7_more_64 rfl ?_
      refine x_iconst (v := nI 1) dX7_more_65 (by decide) ?_
      refine x_isub dX7_more_66 ?_
      refine x_icmp_ne (tgt := 73) dX7_more_67 (by decide) (fun c6 => ?_) (fun c6 => ?_)
      · rw [if_neg (by simpa using fun z => c6 (hcls.mpr z))] at ez
        refine n_ii4 (w := 1) dX7_more_73 (by decide) (by decide) rfl ?_
        refine x_goto (tgt := 20) dX7_more_76 (by decide) ?_
        rw [ez] at ih9
        exact ih9 _ _
      · rw [if_pos (by simpa using hcls.mp c6)] at ez
        refine n_ii3 (w := 1) dX7_more_70 (by decide) (by decide) rfl ?_
        refine n_ii4 (w := 1) dX7_more_73 (by decide) (by decide) rfl ?_
        refine x_goto (tgt := 20) dX7_more_76 (by decide) ?_
        rw [ez] at ih9
        exact ih9 _ _
  · refine x_iconst (v := -1) dX7_more_8 (by decide) ?_
    refine x_iret dX7_more_9 rfl rfl ⟨Nat.le_refl _, Nat.le_refl _⟩ ?_
    exact ⟨_, rfl, ⟨by unfold fMore; rw [c1]; rfl, V, rfl, hV⟩, rfl⟩
set_option maxRecDepth 100000 in
theorem k_heavier {x y : Int32} (hL : kL L c P) (hT : ∀ V, zTr (gH h0 L V) (P 0) J X) (hV : kV V c P J X I A) : zPi G MX7_heavier 5 [.ref c, .int x, .int y] (gH h0 L V) n (fun v h' => v = fHeavier I A x y ∧ kPo h0 L c P J X I A h') := by
  refine zCt.of rfl (Nat.le_of_ble_eq_true rfl) rfl ?_
  have hR := hV.2.1
  have k7 := hR.2.1.2.1
  have hW := hV.2.2.1
  have hWb := hL.2.2.2.1
  have hb5 := hL.2.2.2.2.2.2.2.2.2.2.2.2.2
  have hno : (bR x (A 7 0) = false ∨ bR y (A 7 0) = false ∨ x = y) → zEx G MX7_heavier 5 0 0 21 [some (.ref c), some (.int x), some (.int y), none, none, none, none] [] (gH h0 L V) n (0, 0) (fun r h' n' => ∃ v, r = some (.int v) ∧ (v = fHeavier I A x y ∧ kPo h0 L c P J X I A h') ∧ n' = n) := by
    intro hc
    refine x_iconst (v := -1) dX7_heavier_21 (by decide) ?_
    refine x_iret dX7_heavier_22 rfl rfl ⟨Nat.le_refl _, Nat.le_refl _⟩ ?_
    exact ⟨_, rfl, ⟨by unfold fHeavier; rw [if_pos hc], V, rfl, hV⟩, rfl⟩
  refine x_aload_n dX7_heavier_0 rfl ?_
  refine x_iload_n dX7_heavier_1 rfl ?_
  refine x_cVi1 dX7_heavier_2 lkX7_139 mdX7_isParcel isX7_isParcel rfl rfl (g_c (And.left hL)) (by decide) (k_isParcel hL hT hR) (Nat.le_of_ble_eq_true rfl) ⟨Nat.le_refl _, Nat.le_refl _⟩ ?_
  refine b_if_eq (tgt := 21) dX7_heavier_5 (by decide) (fun c1 => ?_) (fun c1 => ?_)
  · exact hno (Or.inl c1)
  · refine x_aload_n dX7_heavier_8 rfl ?_
    refine x_iload_n dX7_heavier_9 rfl ?_
    refine x_cVi1 dX7_heavier_10 lkX7_139 mdX7_isParcel isX7_isParcel rfl rfl (g_c (And.left hL)) (by decide) (k_isParcel hL hT hR) (Nat.le_of_ble_eq_true rfl) ⟨Nat.le_refl _, Nat.le_refl _⟩ ?_
    refine b_if_eq (tgt := 21) dX7_heavier_13 (by decide) (fun c2 => ?_) (fun c2 => ?_)
    · exact hno (Or.inr (Or.inl c2))
    · refine x_iload_n dX7_heavier_16 rfl ?_
      refine x_iload_n dX7_heavier_17 rfl ?_
      refine x_icmp_ne (tgt := 23) dX7_heavier_18 (by decide) (fun c3 => ?_) (fun c3 => ?_)
      · have ef0 : fHeavier I A x y = nI (hvF A x.toNatClampNeg y.toNatClampNeg (I 17)) := by
          unfold fHeavier
          rw [if_neg (by rintro (z | z | z); rw [c1] at z; cases z; rw [c2] at z; cases z; exact c3 z)]
        obtain ⟨p, hp, rfl⟩ := inR_of (bR_true.mp c1) (by omega)
        obtain ⟨q, hq, rfl⟩ := inR_of (bR_true.mp c2) (by omega)
        rw [nI_clamp (by omega), nI_clamp (by omega)] at ef0
        have ef : fHeavier I A (nI p) (nI q) = nI (zsum 0 (fun i => if wOf A q (sI ((remL A (A 17 8)).getD i 0) q) < wOf A p (sI ((remL A (A 17 8)).getD i 0) p) then 1 else 0) (remL A (A 17 8)).length) := by
          rw [ef0, sum_rem hW (fun x => if wOf A q (sI x q) < wOf A p (sI x p) then 1 else 0) (A 17 8)]
          unfold hvF
          congr 1
          refine zsum_congr 0 _ (fun u _ => ?_)
          by_cases h1 : lf A (A 17 8) u = true <;> by_cases h2 : wOf A q (sI (A 16 u) q) < wOf A p (sI (A 16 u) p) <;> simp [h1, h2]
        rw [ef]
        refine x_aload_n dX7_heavier_23 rfl ?_
        refine x_cVa0 dX7_heavier_24 lkX7_208 mdX7_findRemaining isX7_findRemaining rfl rfl (g_c (And.left hL)) (by decide) (k_find hL hT hV) (Nat.le_of_ble_eq_true rfl) ⟨Nat.le_refl _, Nat.le_refl _⟩ ?_
        rintro v h' ⟨rfl, V', rfl, kv, km, kf⟩
        have e1 := km.2.1.1
        have hws := km.2.1
        have hok := remL_ok hR.2.1 (A 17 8)
        have hrl := remL_le (A := A) (A 17 8)
        have hlN := (wl_ok hR.2.1).1.2.2
        have hl6 : (remL A (A 17 8)).length ≤ P 6 := by have := hW.2.2.2.2.2.1; omega
        generalize hrm : remL A (A 17 8) = rm at e1 hws hl6 hrl hok
        refine x_as3 dX7_heavier_27 (by decide) rfl ?_
        refine x_iconst (v := nI 0) dX7_heavier_28 (by decide) ?_
        refine x_is4 dX7_heavier_29 (by decide) rfl ?_
        refine x_iconst (v := nI 0) dX7_heavier_31 (by decide) ?_
        refine x_is5 dX7_heavier_32 (by decide) rfl ?_
        refine z_up rm.length (P := fun i => ∀ o6, zEx G MX7_heavier 5 0 0 34 [some (.ref c), some (.int (nI p)), some (.int (nI q)), some (.ref (c + 34)), some (.int (nI (zsum 0 (fun i => if wOf A q (sI (rm.getD i 0) q) < wOf A p (sI (rm.getD i 0) p) then 1 else 0) i))), some (.int (nI i)), o6] [] (gH h0 L V') n (0, 0) _) ?_ 0 (Nat.zero_le _) _
        intro i hi ih o6
        refine x_iload dX7_heavier_34 rfl ?_
        refine x_aload_n dX7_heavier_36 rfl ?_
        refine x_getf dX7_heavier_37 flX7_106 (g_c hWb.1) rfl ?_
        rw [e1]
        refine n_icmp_ge (tgt := 91) dX7_heavier_40 (by decide) (by omega) (by omega) (fun c5 => ?_) (fun c5 => ?_)
        · have hie : i = rm.length := by omega
          subst hie
          refine x_iload dX7_heavier_91 rfl ?_
          refine x_iret dX7_heavier_93 rfl rfl ⟨Nat.le_refl _, Nat.le_refl _⟩ ?_
          exact ⟨_, rfl, ⟨rfl, V', rfl, kv⟩, rfl⟩
        · have hi' : i < rm.length := by omega
          have ih9 := ih hi'
          have ev := hws.2 i hi'
          have hx := hok.1 _ (getD_mem hi')
          have hwp := wOf_le (p := p) (s := sI (rm.getD i 0) p) hR.2.1.1 (fun t ht => (hR.2.1.2.2.1 t ht).1.2)
          have hwq := wOf_le (p := q) (s := sI (rm.getD i 0) q) hR.2.1.1 (fun t ht => (hR.2.1.2.2.1 t ht).1.2)
          have bp := (hR.2.1.2.2.2.1 p hp).1
          have bq := (hR.2.1.2.2.2.1 q hq).1
          have ez : zsum 0 (fun i => if wOf A q (sI (rm.getD i 0) q) < wOf A p (sI (rm.getD i 0) p) then 1 else 0) (i + 1) = zsum 0 (fun i => if wOf A q (sI (rm.getD i 0) q) < wOf A p (sI (rm.getD i 0) p) then 1 else 0) i + (if wOf A q (sI (rm.getD i 0) q) < wOf A p (sI (rm.getD i 0) p) then 1 else 0) := rfl
          refine x_aload_n dX7_heavier_43 rfl ?_
          refine x_iload dX7_heavier_44 rfl ?_
          refine x_cVi1 dX7_heavier_46 lkX7_161 mdX6_take isX6_take rfl rfl (g_c hWb.1) (by decide) (c_take hWb.1 hWb.2 (by omega) (by omega)) (Nat.le_of_ble_eq_true rfl) ⟨Nat.le_refl _, Nat.le_refl _⟩ ?_
          rw [ev]
          refine x_is6 dX7_heavier_49 (by decide) rfl ?_
          refine x_aload_n dX7_heavier_51 rfl ?_
          refine x_getf dX7_heavier_52 flX7_19 (g_c (And.left hL)) rfl ?_
          refine x_iload_n dX7_heavier_55 rfl ?_
          refine x_iload dX7_heavier_56 rfl ?_
          refine x_iload_n dX7_heavier_58 rfl ?_
          refine x_cSi2 dX7_heavier_59 lkX7_154 mdX7_inside stX7_inside (by decide) (c_inside _ (by omega)) (Nat.le_of_ble_eq_true rfl) ⟨Nat.le_refl _, Nat.le_refl _⟩ ?_
          refine x_cVi2 dX7_heavier_62 lkX7_278 mdX5_weightWithBox isX5_weightWithBox rfl rfl (And.left (hT _)) (by decide) (c_weightWithBox (hT _) hR.1 hR.2.1 hp (hx p hp 0 (by decide)).1.2) (Nat.le_of_ble_eq_true rfl) ⟨Nat.le_refl _, Nat.le_refl _⟩ ?_
          refine x_aload_n dX7_heavier_65 rfl ?_
          refine x_getf dX7_heavier_66 flX7_19 (g_c (And.left hL)) rfl ?_
          refine x_iload_n dX7_heavier_69 rfl ?_
          refine x_iload dX7_heavier_70 rfl ?_
          refine x_iload_n dX7_heavier_72 rfl ?_
          refine x_cSi2 dX7_heavier_73 lkX7_154 mdX7_inside stX7_inside (by decide) (c_inside _ (by omega)) (Nat.le_of_ble_eq_true rfl) ⟨Nat.le_refl _, Nat.le_refl _⟩ ?_
          refine x_cVi2 dX7_heavier_76 lkX7_278 mdX5_weightWithBox isX5_weightWithBox rfl rfl (And.left (hT _)) (by decide) (c_weightWithBox (hT _) hR.1 hR.2.1 hq (hx q hq 0 (by decide)).1.2) (Nat.le_of_ble_eq_true rfl) ⟨Nat.le_refl _, Nat.le_refl _⟩ ?_
          refine n_icmp_le (tgt := 85) dX7_heavier_79 (by decide) (by omega) (by omega) (fun c6 => ?_) (fun c6 => ?_)
          · rw [if_neg (by omega)] at ez
            refine n_ii5 (w := 1) dX7_heavier_85 (by decide) (by decide) rfl ?_
            refine x_goto (tgt := 34) dX7_heavier_88 (by decide) ?_
            have := ih9 (some (.int (nI (rm.getD i 0))))
            rw [ez] at this
            exact this
          · rw [if_pos (by omega)] at ez
            refine n_ii4 (w := 1) dX7_heavier_82 (by decide) (by decide) rfl ?_
            refine n_ii5 (w := 1) dX7_heavier_85 (by decide) (by decide) rfl ?_
            refine x_goto (tgt := 34) dX7_heavier_88 (by decide) ?_
            have := ih9 (some (.int (nI (rm.getD i 0))))
            rw [ez] at this
            exact this
      · exact hno (Or.inr (Or.inr c3))
end ZK6
