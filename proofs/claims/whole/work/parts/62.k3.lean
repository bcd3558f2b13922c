section ZK4
variable {G : zG} {n : Nat} {h0 : zF} {L : zSh} {V : Nat → Nat → Nat} {c : Nat} {P J I : Nat → Nat} {X A : Nat → Nat → Nat}
theorem sum_rem (hW : kWl V c P I A) (F : Nat → Nat) (k : Nat) : zsum 0 (fun i => F ((remL A k).getD i 0)) (remL A k).length = zsum 0 (fun w => if lf A k w then F (A 16 w) else 0) (I 17) := by
  unfold remL
  rw [zsum_fil F _ (wl (vw A 0)), hW.2.1]
  refine zsum_congr 0 _ (fun w hw => ?_)
  rw [hW.2.2.1 w hw, show lf A k w = fitT A (A 17) ((wl (vw A 0)).getD w 0) k from mR_rem hW.2.2.1 k w hw]
theorem rem_all (hW : kWl V c P I A) : zsum 0 (fun i => wgt A ((remL A (A 17 8)).getD i 0)) (remL A (A 17 8)).length = lkAll A (I 17) := sum_rem hW (wgt A) (A 17 8)
theorem rem_abv (hW : kWl V c P I A) (p t : Nat) : zsum 0 (fun i => if (sI ((remL A (A 17 8)).getD i 0) p).testBit t then wgt A ((remL A (A 17 8)).getD i 0) else 0) (remL A (A 17 8)).length = lkAbv A p t (I 17) := by
  rw [sum_rem hW (fun x => if (sI x p).testBit t then wgt A x else 0) (A 17 8)]
  unfold lkAbv xw
  refine zsum_congr 0 _ (fun w _ => ?_)
  by_cases h1 : lf A (A 17 8) w = true <;> by_cases h2 : (sI (A 16 w) p).testBit t = true <;> simp [h1, h2]
set_option maxRecDepth 100000 in
theorem k_likely {x y z : Int32} (hL : kL L c P) (hT : ∀ V, zTr (gH h0 L V) (P 0) J X) (hV : kV V c P J X I A) : zPj G MX7_likely 5 [.ref c, .int x, .int y, .int z] (gH h0 L V) n (fun v h' => v = fLikely I A x y z ∧ kPo h0 L c P J X I A h') := by
  refine zCt.of rfl (Nat.le_of_ble_eq_true rfl) rfl ?_
  have hR := hV.2.1
  have k7 := hR.2.1.2.1
  have k2 := hR.2.1.1
  have hW := hV.2.2.1
  have hWb := hL.2.2.2.1
  have hb5 := hL.2.2.2.2.2.2.2.2.2.2.2.2.2
  have hlN := (wl_ok hR.2.1).1.2.2
  have h17 : I 17 ≤ 5040 := by rw [hW.2.1]; exact wl_len (tR_vw.mpr hR.2.1)
  have hno : (bR x (A 7 0) && bR y (A 2 0) && bR z 2) = false → zEx G MX7_likely 5 0 0 24 [some (.ref c), some (.int x), some (.int y), some (.int z), none, none, none, none, none, none, none, none, none] [] (gH h0 L V) n (0, 0) (fun r h' n' => ∃ v, r = some (.long v) ∧ (v = fLikely I A x y z ∧ kPo h0 L c P J X I A h') ∧ n' = n) := by
    intro hc
    refine x_ldc2 (v := -1) dX7_likely_24 coX7_212 ?_
    refine x_lret dX7_likely_27 rfl ⟨Nat.le_refl _, Nat.le_refl _⟩ ?_
    exact ⟨_, rfl, ⟨by unfold fLikely; rw [hc]; rfl, V, rfl, hV⟩, rfl⟩
  refine x_aload_n dX7_likely_0 rfl ?_
  refine x_iload_n dX7_likely_1 rfl ?_
  refine x_cVi1 dX7_likely_2 lkX7_139 mdX7_isParcel isX7_isParcel rfl rfl (g_c (And.left hL)) (by decide) (k_isParcel hL hT hR) (Nat.le_of_ble_eq_true rfl) ⟨Nat.le_refl _, Nat.le_refl _⟩ ?_
  refine b_if_eq (tgt := 24) dX7_likely_5 (by decide) (fun c1 => ?_) (fun c1 => ?_)
  · exact hno (by rw [c1]; rfl)
  · refine x_aload_n dX7_likely_8 rfl ?_
    refine x_iload_n dX7_likely_9 rfl ?_
    refine x_cVi1 dX7_likely_10 lkX7_109 mdX7_isThing isX7_isThing rfl rfl (g_c (And.left hL)) (by decide) (k_isThing hL hT hR) (Nat.le_of_ble_eq_true rfl) ⟨Nat.le_refl _, Nat.le_refl _⟩ ?_
    refine b_if_eq (tgt := 24) dX7_likely_13 (by decide) (fun c2 => ?_) (fun c2 => ?_)
    · exact hno (by rw [c2]; simp)
    · refine x_iload_n dX7_likely_16 rfl ?_
      refine x_iconst (v := nI 2) dX7_likely_17 (by decide) ?_
      refine x_cSi2 dX7_likely_18 lkX7_170 mdX7_isBelow stX7_isBelow (by decide) (c_isBelow z (by decide)) (Nat.le_of_ble_eq_true rfl) ⟨Nat.le_refl _, Nat.le_refl _⟩ ?_
      refine b_if_ne (tgt := 28) dX7_likely_21 (by decide) (fun c3 => ?_) (fun c3 => ?_)
      · obtain ⟨p, hp, rfl⟩ := inR_of (bR_true.mp c1) (by omega)
        obtain ⟨t, ht, rfl⟩ := inR_of (bR_true.mp c2) (by omega)
        have ef : fLikely I A (nI p) (nI t) z = if nLeft A (A 17 8) (I 17) = 0 then -4 else if z = 0 then lN (lkAbv A p t (I 17) / Nat.gcd (lkAll A (I 17)) (lkAbv A p t (I 17))) else lN (lkAll A (I 17) / Nat.gcd (lkAll A (I 17)) (lkAbv A p t (I 17))) := by
          unfold fLikely; rw [c1, c2, c3, nI_clamp (by omega), nI_clamp (by omega)]; rfl
        rw [ef]
        refine x_aload_n dX7_likely_28 rfl ?_
        refine x_cVa0 dX7_likely_29 lkX7_208 mdX7_findRemaining isX7_findRemaining rfl rfl (g_c (And.left hL)) (by decide) (k_find hL hT hV) (Nat.le_of_ble_eq_true rfl) ⟨Nat.le_refl _, Nat.le_refl _⟩ ?_
        rintro v h' ⟨rfl, V', rfl, kv, km, kf⟩
        have hW' := kv.2.2.1
        have e1 := km.2.1.1
        have hnl : nLeft A (A 17 8) (I 17) = (remL A (A 17 8)).length := by rw [hW.2.1]; exact nLeft_rem hW.2.2.1 _
        rw [hnl]
        have hrl := remL_le (A := A) (A 17 8)
        have hall := rem_all (V := V') hW'
        have habv := rem_abv (V := V') hW' p t
        have hle := lkAll_le hR.2.1 h17
        have hab := lkAbv_le A p t (I 17)
        have hpos : (remL A (A 17 8)).length ≠ 0 → 0 < lkAll A (I 17) := fun q => lkAll_pos hR.2.1 _ (by rw [hnl]; exact q)
        have hok := remL_ok hR.2.1 (A 17 8)
        have hws := km.2.1
        have hl6 : (remL A (A 17 8)).length ≤ P 6 := by have := hW.2.2.2.2.2.1; omega
        generalize hrm : remL A (A 17 8) = rm at e1 hws hl6 hrl hall habv hpos hok
        refine x_as4 dX7_likely_32 (by decide) rfl ?_
        refine x_aload dX7_likely_34 rfl ?_
        refine x_getf dX7_likely_36 flX7_106 (g_c hWb.1) rfl ?_
        rw [e1]
        refine n_if_ne (tgt := 46) dX7_likely_39 (by decide) (by omega) (fun c4 => ?_) (fun c4 => ?_)
        · refine x_lconst (v := lN 0) dX7_likely_46 (by decide) ?_
          refine x_ls5 dX7_likely_47 (by decide) rfl ?_
          refine x_lconst (v := lN 0) dX7_likely_49 (by decide) ?_
          refine x_ls7 dX7_likely_50 (by decide) rfl ?_
          refine x_iconst (v := nI 0) dX7_likely_52 (by decide) ?_
          refine x_is9 dX7_likely_53 (by decide) rfl ?_
          refine z_up rm.length (P := fun i => ∀ o10 o11, zEx G MX7_likely 5 0 0 55 [some (.ref c), some (.int (nI p)), some (.int (nI t)), some (.int z), some (.ref (c + 34)), some (.long (lN (zsum 0 (fun i => if (sI (rm.getD i 0) p).testBit t then wgt A (rm.getD i 0) else 0) i))), none, some (.long (lN (zsum 0 (fun i => wgt A (rm.getD i 0)) i))), none, some (.int (nI i)), o10, o11, none] [] (gH h0 L V') n (0, 0) _) ?_ 0 (Nat.zero_le _) _ _
          intro i hi ih o10 o11
          refine x_iload dX7_likely_55 rfl ?_
          refine x_aload dX7_likely_57 rfl ?_
          refine x_getf dX7_likely_59 flX7_106 (g_c hWb.1) rfl ?_
          rw [e1]
          refine n_icmp_ge (tgt := 119) dX7_likely_62 (by decide) (by omega) (by omega) (fun c5 => ?_) (fun c5 => ?_)
          · have hie : i = rm.length := by omega
            subst hie
            rw [hall, habv]
            refine x_lload dX7_likely_119 rfl ?_
            refine x_lload dX7_likely_121 rfl ?_
            refine x_iload_n dX7_likely_123 rfl ?_
            refine x_cSj3 dX7_likely_124 lkX7_219 mdX7_inLowestTerms stX7_inLowestTerms (by decide) (c_inLow (by omega) (by omega) (hpos c4)) (Nat.le_of_ble_eq_true rfl) ⟨Nat.le_refl _, Nat.le_refl _⟩ ?_
            refine x_lret dX7_likely_127 rfl ⟨Nat.le_refl _, Nat.le_refl _⟩ ?_
            refine ⟨_, rfl, ⟨?_, V', rfl, kv⟩, rfl⟩
            rw [if_neg c4]
          · have hi' : i < rm.length := by omega
            have ih9 := ih hi'
            have ev := hws.2 i hi'
            have hx := hok.1 _ (getD_mem hi')
            have hw := (wgt_le hR.2.1 (rm.getD i 0)).2
            have hsl := sI_lt (rm.getD i 0) p
            have hal : sI (rm.getD i 0) p &&& 1 * 2 ^ t ≤ sI (rm.getD i 0) p := Nat.and_le_left
            have ez : zsum 0 (fun i => if (sI (rm.getD i 0) p).testBit t then wgt A (rm.getD i 0) else 0) (i + 1) = zsum 0 (fun i => if (sI (rm.getD i 0) p).testBit t then wgt A (rm.getD i 0) else 0) i + (if (sI (rm.getD i 0) p).testBit t then wgt A (rm.getD i 0) else 0) := rfl
            refine x_aload dX7_likely_65 rfl ?_
            refine x_iload dX7_likely_67 rfl ?_
            refine x_cVi1 dX7_likely_69 lkX7_161 mdX6_take isX6_take rfl rfl (g_c hWb.1) (by decide) (c_take hWb.1 hWb.2 (by omega) (by omega)) (Nat.le_of_ble_eq_true rfl) ⟨Nat.le_refl _, Nat.le_refl _⟩ ?_
            rw [ev]
            refine x_is10 dX7_likely_72 (by decide) rfl ?_
            refine x_aload_n dX7_likely_74 rfl ?_
            refine x_getf dX7_likely_75 flX7_19 (g_c (And.left hL)) rfl ?_
            refine x_iload dX7_likely_78 rfl ?_
            refine x_cVi1 dX7_likely_80 lkX7_216 mdX5_chanceOf isX5_chanceOf rfl rfl (And.left (hT _)) (by decide) (c_chanceOf (hT _) hR.1 hR.2.1 (fun p hp => (hx p hp 0 (by decide)).1.2)) (Nat.le_of_ble_eq_true rfl) ⟨Nat.le_refl _, Nat.le_refl _⟩ ?_
            refine n_i2l dX7_likely_83 (by omega) ?_
            refine x_ls11 dX7_likely_84 (by decide) rfl ?_
            refine x_lload dX7_likely_86 rfl ?_
            refine x_lload dX7_likely_88 rfl ?_
            refine n_ladd dX7_likely_90 ?_
            refine x_ls7 dX7_likely_91 (by decide) rfl ?_
            refine x_iload dX7_likely_93 rfl ?_
            refine x_iload_n dX7_likely_95 rfl ?_
            refine x_cSi2 dX7_likely_96 lkX7_154 mdX7_inside stX7_inside (by decide) (c_inside _ (by omega)) (Nat.le_of_ble_eq_true rfl) ⟨Nat.le_refl _, Nat.le_refl _⟩ ?_
            refine x_iconst (v := nI 1) dX7_likely_99 (by decide) ?_
            refine x_iload_n dX7_likely_100 rfl ?_
            refine n_ishl dX7_likely_101 (by omega) ?_
            refine n_iand dX7_likely_102 ?_
            refine n_if_eq (tgt := 113) dX7_likely_103 (by decide) (by omega) (fun c6 => ?_) (fun c6 => ?_)
            · rw [and_pow.mp c6] at ez
              refine n_ii9 (w := 1) dX7_likely_113 (by decide) (by decide) rfl ?_
              refine x_goto (tgt := 55) dX7_likely_116 (by decide) ?_
              have := ih9 (some (.int (nI (rm.getD i 0)))) (some (.long (lN (wgt A (rm.getD i 0)))))
              rw [ez] at this
              exact this
            · have hb : (sI (rm.getD i 0) p).testBit t = true := by
                cases h : (sI (rm.getD i 0) p).testBit t with
                | true => rfl
                | false => exact absurd (and_pow.mpr h) c6
              rw [hb, if_pos rfl] at ez
              refine x_lload dX7_likely_106 rfl ?_
              refine x_lload dX7_likely_108 rfl ?_
              refine n_ladd dX7_likely_110 ?_
              refine x_ls5 dX7_likely_111 (by decide) rfl ?_
              refine n_ii9 (w := 1) dX7_likely_113 (by decide) (by decide) rfl ?_
              refine x_goto (tgt := 55) dX7_likely_116 (by decide) ?_
              have := ih9 (some (.int (nI (rm.getD i 0)))) (some (.long (lN (wgt A (rm.getD i 0)))))
              rw [ez] at this
              exact this
        · refine x_ldc2 (v := -4) dX7_likely_42 coX7_214 ?_
          refine x_lret dX7_likely_45 rfl ⟨Nat.le_refl _, Nat.le_refl _⟩ ?_
          exact ⟨_, rfl, ⟨by rw [if_pos c4], V', rfl, kv⟩, rfl⟩
      · exact hno (by rw [c3]; simp)
/-- what is sure, over a list -/
def srX (A : Nat → Nat → Nat) (never : Bool) (p : Nat) (l : List Nat) : Nat := l.foldl (fun b x => if never then b ^^^ (b &&& sI x p) else b &&& sI x p) (2 ^ A 2 0 - 1)
theorem srX_snoc (never : Bool) (p x : Nat) (l : List Nat) : srX A never p (l ++ [x]) = if never then srX A never p l ^^^ (srX A never p l &&& sI x p) else srX A never p l &&& sI x p := by
  unfold srX; rw [List.foldl_append]; rfl
theorem srF_list (hW : kWl V c P I A) (never : Bool) (p : Nat) : srF A never p (I 17) = srX A never p (remL A (A 17 8)) := by
  have key : ∀ i, i ≤ (wl (vw A 0)).length → srF A never p i = srX A never p (((wl (vw A 0)).take i).filter (fun x => fitT A (A 17) x (A 17 8))) := by
    intro i
    induction i with
    | zero => intro _; rfl
    | succ i ih =>
      intro hi
      rw [srF, ih (by omega), take_succ' (by omega), List.filter_append, mR_rem hW.2.2.1 (A 17 8) i (by omega), hW.2.2.1 i (by omega)]
      by_cases h : fitT A (A 17) ((wl (vw A 0)).getD i 0) (A 17 8) = true
      · rw [if_pos h, List.filter_cons_of_pos (p := fun x => fitT A (A 17) x (A 17 8)) h, List.filter_nil, srX_snoc]
      · rw [if_neg h, List.filter_cons_of_neg (p := fun x => fitT A (A 17) x (A 17 8)) h, List.filter_nil, List.append_nil]
  rw [hW.2.1, key _ (Nat.le_refl _), List.take_length]
  rfl
set_option maxRecDepth 100000 in
theorem k_sure {x : Int32} {nv : Bool} (hL : kL L c P) (hT : ∀ V, zTr (gH h0 L V) (P 0) J X) (hV : kV V c P J X I A) : zPi G MX7_sure 5 [.ref c, .int x, .int (nI nv.toNat)] (gH h0 L V) n (fun v h' => v = fSure I A x nv ∧ kPo h0 L c P J X I A h') := by
  refine zCt.of rfl (Nat.le_of_ble_eq_true rfl) rfl ?_
  have hTb := fun V => (hT V).2.1
  have hR := hV.2.1
  have k7 := hR.2.1.2.1
  have k2 := hR.2.1.1
  have hW := hV.2.2.1
  have hWb := hL.2.2.2.1
  have hb5 := hL.2.2.2.2.2.2.2.2.2.2.2.2.2
  have hlN := (wl_ok hR.2.1).1.2.2
  have e24 : J 24 = A 2 0 := hR.1.1.1
  have hp2 := Nat.two_pow_pos (A 2 0)
  refine x_aload_n dX7_sure_0 rfl ?_
  refine x_iload_n dX7_sure_1 rfl ?_
  refine x_cVi1 dX7_sure_2 lkX7_139 mdX7_isParcel isX7_isParcel rfl rfl (g_c (And.left hL)) (by decide) (k_isParcel hL hT hR) (Nat.le_of_ble_eq_true rfl) ⟨Nat.le_refl _, Nat.le_refl _⟩ ?_
  refine b_if_ne (tgt := 10) dX7_sure_5 (by decide) (fun c1 => ?_) (fun c1 => ?_)
  · obtain ⟨p, hp, rfl⟩ := inR_of (bR_true.mp c1) (by omega)
    have ef : fSure I A (nI p) nv = nI (srX A nv p (remL A (A 17 8))) := by
      unfold fSure; rw [c1, nI_clamp (by omega), srF_list hW]; rfl
    rw [ef]
    refine x_aload_n dX7_sure_10 rfl ?_
    refine x_cVa0 dX7_sure_11 lkX7_208 mdX7_findRemaining isX7_findRemaining rfl rfl (g_c (And.left hL)) (by decide) (k_find hL hT hV) (Nat.le_of_ble_eq_true rfl) ⟨Nat.le_refl _, Nat.le_refl _⟩ ?_
    rintro v h' ⟨rfl, V', rfl, kv, km, kf⟩
    have e1 := km.2.1.1
    have hrl := remL_le (A := A) (A 17 8)
    have hws := km.2.1
    have hl6 : (remL A (A 17 8)).length ≤ P 6 := by have := hW.2.2.2.2.2.1; omega
    generalize hrm : remL A (A 17 8) = rm at e1 hws hl6 hrl
    refine x_as3 dX7_sure_14 (by decide) rfl ?_
    refine x_iconst (v := nI 1) dX7_sure_15 (by decide) ?_
    refine x_aload_n dX7_sure_16 rfl ?_
    refine x_getf dX7_sure_17 flX7_19 (g_c (And.left hL)) rfl ?_
    refine x_getf dX7_sure_20 flX7_112 (And.left (hT _)) rfl ?_
    refine x_getf dX7_sure_23 flX7_167 (hTb _) rfl ?_
    rw [e24]
    refine n_ishl dX7_sure_26 (by omega) ?_
    rw [Nat.one_mul]
    refine x_iconst (v := nI 1) dX7_sure_27 (by decide) ?_
    refine n_isub dX7_sure_28 (by omega) ?_
    refine x_is4 dX7_sure_29 (by decide) rfl ?_
    refine x_iconst (v := nI 0) dX7_sure_31 (by decide) ?_
    refine x_is5 dX7_sure_32 (by decide) rfl ?_
    refine z_up rm.length (P := fun i => ∀ o6, zEx G MX7_sure 5 0 0 34 [some (.ref c), some (.int (nI p)), some (.int (nI nv.toNat)), some (.ref (c + 34)), some (.int (nI (srX A nv p (rm.take i)))), some (.int (nI i)), o6] [] (gH h0 L V') n (0, 0) _) ?_ 0 (Nat.zero_le _) _
    intro i hi ih o6
    refine x_iload dX7_sure_34 rfl ?_
    refine x_aload_n dX7_sure_36 rfl ?_
    refine x_getf dX7_sure_37 flX7_106 (g_c hWb.1) rfl ?_
    rw [e1]
    refine n_icmp_ge (tgt := 79) dX7_sure_40 (by decide) (by omega) (by omega) (fun c5 => ?_) (fun c5 => ?_)
    · have hie : i = rm.length := by omega
      subst hie
      rw [List.take_length]
      refine x_iload dX7_sure_79 rfl ?_
      refine x_iret dX7_sure_81 rfl rfl ⟨Nat.le_refl _, Nat.le_refl _⟩ ?_
      exact ⟨_, rfl, ⟨rfl, V', rfl, kv⟩, rfl⟩
    · have hi' : i < rm.length := by omega
      have ih9 := ih hi' (some (.int (nI (sI (rm.getD i 0) p))))
      have ev := hws.2 i hi'
      rw [take_succ' hi', srX_snoc] at ih9
      refine x_aload_n dX7_sure_43 rfl ?_
      refine x_iload dX7_sure_44 rfl ?_
      refine x_cVi1 dX7_sure_46 lkX7_161 mdX6_take isX6_take rfl rfl (g_c hWb.1) (by decide) (c_take hWb.1 hWb.2 (by omega) (by omega)) (Nat.le_of_ble_eq_true rfl) ⟨Nat.le_refl _, Nat.le_refl _⟩ ?_
      rw [ev]
      refine x_iload_n dX7_sure_49 rfl ?_
      refine x_cSi2 dX7_sure_50 lkX7_154 mdX7_inside stX7_inside (by decide) (c_inside _ (by omega)) (Nat.le_of_ble_eq_true rfl) ⟨Nat.le_refl _, Nat.le_refl _⟩ ?_
      refine x_is6 dX7_sure_53 (by decide) rfl ?_
      refine x_iload dX7_sure_55 rfl ?_
      refine x_iload_n dX7_sure_57 rfl ?_
      cases nv with
      | false =>
        refine b_if_eq (b := false) (tgt := 68) dX7_sure_58 (by decide) (fun _ => ?_) (fun z => by cases z)
        refine x_iload dX7_sure_68 rfl ?_
        refine n_iand dX7_sure_70 ?_
        refine x_is4 dX7_sure_71 (by decide) rfl ?_
        refine n_ii5 (w := 1) dX7_sure_73 (by decide) (by decide) rfl ?_
        refine x_goto (tgt := 34) dX7_sure_76 (by decide) ?_
        exact ih9
      | true =>
        refine b_if_eq (b := true) (tgt := 68) dX7_sure_58 (by decide) (fun z => by cases z) (fun _ => ?_)
        refine x_iload dX7_sure_61 rfl ?_
        refine x_iconst (v := -1) dX7_sure_63 (by decide) ?_
        refine x_ixor dX7_sure_64 ?_
        refine x_goto (tgt := 70) dX7_sure_65 (by decide) ?_
        refine x_iand dX7_sure_70 ?_
        rw [and_not]
        refine x_is4 dX7_sure_71 (by decide) rfl ?_
        refine n_ii5 (w := 1) dX7_sure_73 (by decide) (by decide) rfl ?_
        refine x_goto (tgt := 34) dX7_sure_76 (by decide) ?_
        exact ih9
  · refine x_iconst (v := -1) dX7_sure_8 (by decide) ?_
    refine x_iret dX7_sure_9 rfl rfl ⟨Nat.le_refl _, Nat.le_refl _⟩ ?_
    exact ⟨_, rfl, ⟨by unfold fSure; rw [c1]; rfl, V, rfl, hV⟩, rfl⟩
set_option maxRecDepth 100000 in
theorem k_sumChances {p : Nat} {rm : List Nat} (hL : kL L c P) (hT : ∀ V, zTr (gH h0 L V) (P 0) J X) (hR : kTr J X A) (hl : isWs V (c + 34) (P 3) rm) (hln : rm.length ≤ P 6) (hp : p < 4) (hok : lOK A rm) : zPj G MX7_sumChances 2 [.ref c, .ref (c + 34), .int (nI p)] (gH h0 L V) n (fun v h' => v = lN (zsum 0 (fun i => wgt A (rm.getD i 0)) rm.length) ∧ ∃ V', h' = gH h0 L V' ∧ (∀ b, b ≠ c + 92 → V' b = V b) ∧ ∀ s, s < 256 → V' (c + 92) s = zsum 0 (fun i => if sI (rm.getD i 0) p = s then wgt A (rm.getD i 0) else 0) rm.length) := by
  refine zCt.of rfl (Nat.le_of_ble_eq_true rfl) rfl ?_
  have hWb := hL.2.2.2.1
  have hb5 := hL.2.2.2.2.2.2.2.2.2.2.2.2.2
  have hP := hL.2.2.2.2.2.2.2.2.2.2.2.2.1
  have hB : L (c + 92) = some (sLA 256) := hL.2.2.2.2.2.2.2.2.2.1
  have h393 : P 3 ≠ c + 92 := by omega
  refine x_aload_n dX7_sumChances_0 rfl ?_
  refine x_getf dX7_sumChances_1 flX7_65 (g_c (And.left hL)) rfl ?_
  refine x_lconst (v := lN 0) dX7_sumChances_4 (by decide) ?_
  refine x_cSV2 dX7_sumChances_5 lkX7_325 mdJ7_fill_d0a16 stJ7_fill_d0a16 (by decide) (c_fillL (g_c hB) (by decide)) (Nat.le_of_ble_eq_true rfl) ⟨Nat.le_refl _, Nat.le_refl _⟩ ?_
  rintro h' rfl
  refine x_eqH (g_up hB _) ?_
  refine x_lconst (v := lN 0) dX7_sumChances_8 (by decide) ?_
  refine x_ls3 dX7_sumChances_9 (by decide) rfl ?_
  refine x_iconst (v := nI 0) dX7_sumChances_10 (by decide) ?_
  refine x_is5 dX7_sumChances_11 (by decide) rfl ?_
  refine z_up rm.length (P := fun i => ∀ (V' : Nat → Nat → Nat) (o6 o7 o9 : Option Value), (∀ b, b ≠ c + 92 → V' b = V b) → (∀ s, s < 256 → V' (c + 92) s = zsum 0 (fun i => if sI (rm.getD i 0) p = s then wgt A (rm.getD i 0) else 0) i) → zEx G MX7_sumChances 2 0 0 13 [some (.ref c), some (.ref (c + 34)), some (.int (nI p)), some (.long (lN (zsum 0 (fun i => wgt A (rm.getD i 0)) i))), none, some (.int (nI i)), o6, o7, none, o9] [] (gH h0 L V') n (0, 0) _) ?_ 0 (Nat.zero_le _) _ _ _ _ ?_ ?_
  · intro i hi ih V' o6 o7 o9 g1 g2
    have e1 : V' (c + 34) 1 = rm.length := by rw [g1 _ (by omega)]; exact hl.1
    refine x_iload dX7_sumChances_13 rfl ?_
    refine x_aload_n dX7_sumChances_15 rfl ?_
    refine x_getf dX7_sumChances_16 flX7_106 (g_c hWb.1) rfl ?_
    rw [e1]
    refine n_icmp_ge (tgt := 83) dX7_sumChances_19 (by decide) (by omega) (by omega) (fun c5 => ?_) (fun c5 => ?_)
    · have hie : i = rm.length := by omega
      subst hie
      refine x_lload_n dX7_sumChances_83 rfl ?_
      refine x_lret dX7_sumChances_84 rfl ⟨Nat.le_refl _, Nat.le_refl _⟩ ?_
      exact ⟨_, rfl, ⟨rfl, V', rfl, g1, g2⟩, rfl⟩
    · have hi' : i < rm.length := by omega
      have ih9 := ih hi'
      have ev : V' (P 3) i = rm.getD i 0 := by rw [g1 _ h393]; exact hl.2 i hi'
      have hx := hok.1 _ (getD_mem hi')
      have hw := (wgt_le hR.2.1 (rm.getD i 0)).2
      have hsl := sI_lt (rm.getD i 0) p
      refine x_aload_n dX7_sumChances_22 rfl ?_
      refine x_iload dX7_sumChances_23 rfl ?_
      refine x_cVi1 dX7_sumChances_25 lkX7_161 mdX6_take isX6_take rfl rfl (g_c hWb.1) (by decide) (c_take hWb.1 hWb.2 (by omega) (by omega)) (Nat.le_of_ble_eq_true rfl) ⟨Nat.le_refl _, Nat.le_refl _⟩ ?_
      rw [ev]
      refine x_is6 dX7_sumChances_28 (by decide) rfl ?_
      refine x_aload_n dX7_sumChances_30 rfl ?_
      refine x_getf dX7_sumChances_31 flX7_19 (g_c (And.left hL)) rfl ?_
      refine x_iload dX7_sumChances_34 rfl ?_
      refine x_cVi1 dX7_sumChances_36 lkX7_216 mdX5_chanceOf isX5_chanceOf rfl rfl (And.left (hT _)) (by decide) (c_chanceOf (hT _) hR.1 hR.2.1 (fun p hp => (hx p hp 0 (by decide)).1.2)) (Nat.le_of_ble_eq_true rfl) ⟨Nat.le_refl _, Nat.le_refl _⟩ ?_
      refine n_i2l dX7_sumChances_39 (by omega) ?_
      refine x_ls7 dX7_sumChances_40 (by decide) rfl ?_
      refine x_iload dX7_sumChances_42 rfl ?_
      refine x_iload_n dX7_sumChances_44 rfl ?_
      refine x_cSi2 dX7_sumChances_45 lkX7_154 mdX7_inside stX7_inside (by decide) (c_inside _ hp) (Nat.le_of_ble_eq_true rfl) ⟨Nat.le_refl _, Nat.le_refl _⟩ ?_
      refine x_is9 dX7_sumChances_48 (by decide) rfl ?_
      refine x_iload dX7_sumChances_50 rfl ?_
      refine x_aload_n dX7_sumChances_52 rfl ?_
      refine x_getf dX7_sumChances_53 flX7_65 (g_c (And.left hL)) rfl ?_
      refine x_alen dX7_sumChances_56 (g_c hB) rfl ?_
      refine n_icmp_ge (tgt := 72) dX7_sumChances_57 (by decide) (by omega) (by omega) (fun c6 => ?_) (fun c6 => ?_)
      · omega
      · refine x_aload_n dX7_sumChances_60 rfl ?_
        refine x_getf dX7_sumChances_61 flX7_65 (g_c (And.left hL)) rfl ?_
        refine x_iload dX7_sumChances_64 rfl ?_
        refine x_dup2_11 dX7_sumChances_66 rfl rfl ?_
        refine g_lald dX7_sumChances_67 (g_c hB) hsl (by omega) ?_
        refine x_lload dX7_sumChances_68 rfl ?_
        refine n_ladd dX7_sumChances_70 ?_
        refine g_last dX7_sumChances_71 (g_c hB) hsl (by omega) ?_
        refine x_eqH (g_up hB _) ?_
        rw [g2 _ hsl]
        refine x_lload_n dX7_sumChances_72 rfl ?_
        refine x_lload dX7_sumChances_73 rfl ?_
        refine n_ladd dX7_sumChances_75 ?_
        refine x_ls3 dX7_sumChances_76 (by decide) rfl ?_
        refine n_ii5 (w := 1) dX7_sumChances_77 (by decide) (by decide) rfl ?_
        refine x_goto (tgt := 13) dX7_sumChances_80 (by decide) ?_
        refine ih9 _ _ _ _ ?_ ?_
        · intro b hb; rw [up_ne _ _ hb, g1 b hb]
        · intro s hs
          rw [up_eq]
          show _ = zsum 0 (fun i => if sI (rm.getD i 0) p = s then wgt A (rm.getD i 0) else 0) i + (if sI (rm.getD i 0) p = s then wgt A (rm.getD i 0) else 0)
          by_cases e : s = sI (rm.getD i 0) p
          · subst e; rw [up_eq, if_pos rfl]
          · rw [up_ne _ _ e, if_neg (Ne.symm e), g2 s hs]; rfl
  · intro b hb; rw [up_ne _ _ hb]
  · intro s hs; rw [up_eq, if_pos hs]; rfl
set_option maxRecDepth 100000 in
theorem k_guess {x y : Int32} (hL : kL L c P) (hT : ∀ V, zTr (gH h0 L V) (P 0) J X) (hV : kV V c P J X I A) : zPj G MX7_guess 5 [.ref c, .int x, .int y] (gH h0 L V) n (fun v h' => v = fGuess I A x y ∧ kPo h0 L c P J X I A h') := by
  refine zCt.of rfl (Nat.le_of_ble_eq_true rfl) rfl ?_
  have hR := hV.2.1
  have k7 := hR.2.1.2.1
  have hW := hV.2.2.1
  have hWb := hL.2.2.2.1
  have hb5 := hL.2.2.2.2.2.2.2.2.2.2.2.2.2
  have hlN := (wl_ok hR.2.1).1.2.2
  have hB : L (c + 92) = some (sLA 256) := hL.2.2.2.2.2.2.2.2.2.1
  have h17 : I 17 ≤ 5040 := by rw [hW.2.1]; exact wl_len (tR_vw.mpr hR.2.1)
  have hno : (bR x (A 7 0) && bR y 3) = false → zEx G MX7_guess 5 0 0 16 [some (.ref c), some (.int x), some (.int y), none, none, none, none, none] [] (gH h0 L V) n (0, 0) (fun r h' n' => ∃ v, r = some (.long v) ∧ (v = fGuess I A x y ∧ kPo h0 L c P J X I A h') ∧ n' = n) := by
    intro hc
    refine x_ldc2 (v := -1) dX7_guess_16 coX7_212 ?_
    refine x_lret dX7_guess_19 rfl ⟨Nat.le_refl _, Nat.le_refl _⟩ ?_
    exact ⟨_, rfl, ⟨by unfold fGuess; rw [hc]; rfl, V, rfl, hV⟩, rfl⟩
  refine x_aload_n dX7_guess_0 rfl ?_
  refine x_iload_n dX7_guess_1 rfl ?_
  refine x_cVi1 dX7_guess_2 lkX7_139 mdX7_isParcel isX7_isParcel rfl rfl (g_c (And.left hL)) (by decide) (k_isParcel hL hT hR) (Nat.le_of_ble_eq_true rfl) ⟨Nat.le_refl _, Nat.le_refl _⟩ ?_
  refine b_if_eq (tgt := 16) dX7_guess_5 (by decide) (fun c1 => ?_) (fun c1 => ?_)
  · exact hno (by rw [c1]; rfl)
  · refine x_iload_n dX7_guess_8 rfl ?_
    refine x_iconst (v := nI 3) dX7_guess_9 (by decide) ?_
    refine x_cSi2 dX7_guess_10 lkX7_170 mdX7_isBelow stX7_isBelow (by decide) (c_isBelow y (by decide)) (Nat.le_of_ble_eq_true rfl) ⟨Nat.le_refl _, Nat.le_refl _⟩ ?_
    refine b_if_ne (tgt := 20) dX7_guess_13 (by decide) (fun c2 => ?_) (fun c2 => ?_)
    · obtain ⟨p, hp, rfl⟩ := inR_of (bR_true.mp c1) (by omega)
      obtain ⟨w, hw, rfl⟩ := inR_of (bR_true.mp c2) (by decide)
      have ef : fGuess I A (nI p) (nI w) = if nLeft A (A 17 8) (I 17) = 0 then -4 else if nI w = 0 then lN (bst (gB A p (I 17)) 256) else if nI w = nI 1 then lN (gB A p (I 17) (bst (gB A p (I 17)) 256) / Nat.gcd (lkAll A (I 17)) (gB A p (I 17) (bst (gB A p (I 17)) 256))) else lN (lkAll A (I 17) / Nat.gcd (lkAll A (I 17)) (gB A p (I 17) (bst (gB A p (I 17)) 256))) := by
        unfold fGuess; rw [c1, c2, nI_clamp (by omega)]; rfl
      rw [ef]
      refine x_aload_n dX7_guess_20 rfl ?_
      refine x_cVa0 dX7_guess_21 lkX7_208 mdX7_findRemaining isX7_findRemaining rfl rfl (g_c (And.left hL)) (by decide) (k_find hL hT hV) (Nat.le_of_ble_eq_true rfl) ⟨Nat.le_refl _, Nat.le_refl _⟩ ?_
      rintro v h' ⟨rfl, V', rfl, kv, km, kf⟩
      have e1 := km.2.1.1
      have hnl : nLeft A (A 17 8) (I 17) = (remL A (A 17 8)).length := by rw [hW.2.1]; exact nLeft_rem hW.2.2.1 _
      rw [hnl]
      have hrl := remL_le (A := A) (A 17 8)
      have w6 := hW.2.2.2.2.2.1
      have hle := lkAll_le hR.2.1 h17
      have hok := remL_ok hR.2.1 (A 17 8)
      have hpos : (remL A (A 17 8)).length ≠ 0 → 0 < lkAll A (I 17) := fun q => lkAll_pos hR.2.1 _ (by rw [hnl]; exact q)
      have cs := k_sumChances (G := G) (n := n) (V := V') (p := p) hL hT hR km.2.1 (by omega) (by omega) hok
      rw [rem_all hW] at cs
      have hg : ∀ s, zsum 0 (fun i => if sI ((remL A (A 17 8)).getD i 0) p = s then wgt A ((remL A (A 17 8)).getD i 0) else 0) (remL A (A 17 8)).length = gB A p (I 17) s := by
        intro s
        rw [sum_rem hW (fun x => if sI x p = s then wgt A x else 0) (A 17 8)]
        unfold gB xw
        refine zsum_congr 0 _ (fun w _ => ?_)
        by_cases h1 : lf A (A 17 8) w = true <;> by_cases h2 : sI (A 16 w) p = s <;> simp [h1, h2]
      have hgl := gB_le A p (I 17)
      refine x_as3 dX7_guess_24 (by decide) rfl ?_
      refine x_aload_n dX7_guess_25 rfl ?_
      refine x_getf dX7_guess_26 flX7_106 (g_c hWb.1) rfl ?_
      rw [e1]
      refine n_if_ne (tgt := 36) dX7_guess_29 (by decide) (by omega) (fun c4 => ?_) (fun c4 => ?_)
      · refine x_aload_n dX7_guess_36 rfl ?_
        refine x_aload_n dX7_guess_37 rfl ?_
        refine x_iload_n dX7_guess_38 rfl ?_
        refine x_cVJ2 dX7_guess_39 lkX7_223 mdX7_sumChances isX7_sumChances rfl rfl (g_c (And.left hL)) (by decide) (cs) (Nat.le_of_ble_eq_true rfl) ⟨Nat.le_refl _, Nat.le_refl _⟩ ?_
        rintro v h' ⟨rfl, V2, rfl, f1, f2⟩
        have f2 : ∀ s, s < 256 → V2 (c + 92) s = gB A p (I 17) s := fun s hs => (f2 s hs).trans (hg s)
        have kv2 : kV V2 c P J X I A := kv.fr hL (fun b hb => f1 b (fun e => hb (Or.inr (Or.inr (Or.inr e)))))
        refine x_ls4 dX7_guess_42 (by decide) rfl ?_
        refine x_iconst (v := nI 0) dX7_guess_44 (by decide) ?_
        refine x_is6 dX7_guess_45 (by decide) rfl ?_
        refine x_iconst (v := nI 1) dX7_guess_47 (by decide) ?_
        refine x_is7 dX7_guess_48 (by decide) rfl ?_
        have eb1 : bst (gB A p (I 17)) 1 = 0 := by unfold bst; split <;> rfl
        refine (congrArg (fun z => zEx G MX7_guess 5 0 0 50 [some (.ref c), some (.int (nI p)), some (.int (nI w)), some (.ref (c + 34)), some (.long (lN (lkAll A (I 17)))), none, some (.int (nI z)), some (.int (nI 1))] [] (gH h0 L V2) n (0, 0) _) eb1).mp ?_
        refine z_up 256 (P := fun k => 1 ≤ k → zEx G MX7_guess 5 0 0 50 [some (.ref c), some (.int (nI p)), some (.int (nI w)), some (.ref (c + 34)), some (.long (lN (lkAll A (I 17)))), none, some (.int (nI (bst (gB A p (I 17)) k))), some (.int (nI k))] [] (gH h0 L V2) n (0, 0) _) ?_ 1 (by decide) (by decide)
        intro k hk ih hk1
        have hbl := bst_lt (gB A p (I 17)) k
        refine x_iload dX7_guess_50 rfl ?_
        refine x_aload_n dX7_guess_52 rfl ?_
        refine x_getf dX7_guess_53 flX7_65 (g_c (And.left hL)) rfl ?_
        refine x_alen dX7_guess_56 (g_c hB) rfl ?_
        refine n_icmp_ge (tgt := 88) dX7_guess_57 (by decide) (by omega) (by omega) (fun c5 => ?_) (fun c5 => ?_)
        · have hke : k = 256 := by omega
          subst hke
          have hb256 : bst (gB A p (I 17)) 256 < 256 := by
            have : ∀ m, 1 ≤ m → bst (gB A p (I 17)) m < m := by
              intro m
              induction m with
              | zero => intro h; omega
              | succ m ihm =>
                intro _
                unfold bst
                split
                · omega
                · by_cases m0 : m = 0
                  · subst m0; exact Nat.lt_succ_self 0
                  · have := ihm (by omega); omega
            exact this 256 (by decide)
          have hgv := hgl (bst (gB A p (I 17)) 256)
          generalize hbe : bst (gB A p (I 17)) 256 = be at hb256 hgv
          rw [if_neg c4]
          refine x_iload_n dX7_guess_88 rfl ?_
          refine n_if_ne (tgt := 98) dX7_guess_89 (by decide) (by omega) (fun c6 => ?_) (fun c6 => ?_)
          · rw [if_neg (fun z => c6 (by have := (nI_inj32 (by omega) (by decide)).mp (z.trans (show (0 : Int32) = nI 0 from rfl)); exact this))]
            refine x_aload_n dX7_guess_98 rfl ?_
            refine x_getf dX7_guess_99 flX7_65 (g_c (And.left hL)) rfl ?_
            refine x_iload dX7_guess_102 rfl ?_
            refine g_lald dX7_guess_104 (g_c hB) hb256 (by omega) ?_
            rw [f2 be hb256]
            refine x_lload dX7_guess_105 rfl ?_
            refine x_iload_n dX7_guess_107 rfl ?_
            refine x_iconst (v := nI 1) dX7_guess_108 (by decide) ?_
            refine n_isub dX7_guess_109 (by omega) ?_
            refine x_cSj3 dX7_guess_110 lkX7_219 mdX7_inLowestTerms stX7_inLowestTerms (by decide) (c_inLow (by omega) (by omega) (hpos c4)) (Nat.le_of_ble_eq_true rfl) ⟨Nat.le_refl _, Nat.le_refl _⟩ ?_
            refine x_lret dX7_guess_113 rfl ⟨Nat.le_refl _, Nat.le_refl _⟩ ?_
            refine ⟨_, rfl, ⟨?_, V2, rfl, kv2⟩, rfl⟩
            rcases (show w = 1 ∨ w = 2 by omega) with rfl | rfl
            · rw [if_pos (by decide), if_pos rfl]
            · rw [if_neg (by decide), if_neg (by decide)]
          · subst c6
            refine x_iload dX7_guess_92 rfl ?_
            refine n_i2l dX7_guess_94 (by omega) ?_
            refine x_goto (tgt := 113) dX7_guess_95 (by decide) ?_
            refine x_lret dX7_guess_113 rfl ⟨Nat.le_refl _, Nat.le_refl _⟩ ?_
            exact ⟨_, rfl, ⟨by rw [if_pos (by decide)], V2, rfl, kv2⟩, rfl⟩
        · have ih9 := ih (by omega) (by omega)
          have hgk := hgl k
          have hgb := hgl (bst (gB A p (I 17)) k)
          have eb : bst (gB A p (I 17)) (k + 1) = if gB A p (I 17) (bst (gB A p (I 17)) k) < gB A p (I 17) k then k else bst (gB A p (I 17)) k := rfl
          refine x_aload_n dX7_guess_60 rfl ?_
          refine x_getf dX7_guess_61 flX7_65 (g_c (And.left hL)) rfl ?_
          refine x_iload dX7_guess_64 rfl ?_
          refine g_lald dX7_guess_66 (g_c hB) (by omega) (by omega) ?_
          rw [f2 k (by omega)]
          refine x_aload_n dX7_guess_67 rfl ?_
          refine x_getf dX7_guess_68 flX7_65 (g_c (And.left hL)) rfl ?_
          refine x_iload dX7_guess_71 rfl ?_
          refine g_lald dX7_guess_73 (g_c hB) (by omega) (by omega) ?_
          rw [f2 _ (by omega)]
          refine x_lcmp dX7_guess_74 ?_
          refine l_if_le (tgt := 82) dX7_guess_75 (by decide) (fun c6 => ?_) (fun c6 => ?_)
          · have c6 := (lN_le63 (by omega) (by omega)).mp c6
            rw [if_neg (by omega)] at eb
            refine n_ii7 (w := 1) dX7_guess_82 (by decide) (by decide) rfl ?_
            refine x_goto (tgt := 50) dX7_guess_85 (by decide) ?_
            rw [eb] at ih9
            exact ih9
          · have c6 : ¬ gB A p (I 17) k ≤ gB A p (I 17) (bst (gB A p (I 17)) k) := fun q => c6 ((lN_le63 (by omega) (by omega)).mpr q)
            rw [if_pos (by omega)] at eb
            refine x_iload dX7_guess_78 rfl ?_
            refine x_is6 dX7_guess_80 (by decide) rfl ?_
            refine n_ii7 (w := 1) dX7_guess_82 (by decide) (by decide) rfl ?_
            refine x_goto (tgt := 50) dX7_guess_85 (by decide) ?_
            rw [eb] at ih9
            exact ih9
      · refine x_ldc2 (v := -4) dX7_guess_32 coX7_214 ?_
        refine x_lret dX7_guess_35 rfl ⟨Nat.le_refl _, Nat.le_refl _⟩ ?_
        exact ⟨_, rfl, ⟨by rw [if_pos c4], V', rfl, kv⟩, rfl⟩
    · exact hno (by rw [c2]; simp)
end ZK4
