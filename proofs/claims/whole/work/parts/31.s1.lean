abbrev iA (len : Nat) (f : Nat → Nat) : zC := .inl (.int, len, .inl (fun j => nI (f j)))
abbrev lA (len : Nat) (f : Nat → Nat) : zC := .inl (.long, len, .inr (.inl (fun j => lN (f j))))
section ZS1
variable {G : zG} {M : zM} {k mc ms pc n : Nat} {lv : List (Option Value)} {st : List Value} {h : zF} {u : Nat × Nat} {Q : zQ}
theorem g_iald {b len j : Nat} {f : Nat → Nat} (hd : decode M.2.1 pc = .ok (.iaload, 1)) (hc : h b = some (iA len f)) (hj : j < len) (hm : len < 2 ^ 31) (K : zEx G M k mc ms (pc + 1) lv (.int (nI (f j)) :: st) h n u Q) : zEx G M k mc ms pc lv (.int (nI j) :: .ref b :: st) h n u Q := by
  refine x_iald hd hc (vp_in_nI hj hm) ?_
  rw [nI_clamp (by omega)]
  exact K
theorem g_iast {b len j x : Nat} {f : Nat → Nat} (hd : decode M.2.1 pc = .ok (.iastore, 1)) (hc : h b = some (iA len f)) (hj : j < len) (hm : len < 2 ^ 31) (K : zEx G M k mc ms (pc + 1) lv st (va_up h b (some (iA len (va_up f j x)))) n u Q) : zEx G M k mc ms pc lv (.int (nI x) :: .int (nI j) :: .ref b :: st) h n u Q := by
  refine x_iast hd hc (vp_in_nI hj hm) ?_
  rw [nI_clamp (by omega), up_nI]
  exact K
theorem g_lald {b len j : Nat} {f : Nat → Nat} (hd : decode M.2.1 pc = .ok (.laload, 1)) (hc : h b = some (lA len f)) (hj : j < len) (hm : len < 2 ^ 31) (K : zEx G M k mc ms (pc + 1) lv (.long (lN (f j)) :: st) h n u Q) : zEx G M k mc ms pc lv (.int (nI j) :: .ref b :: st) h n u Q := by
  refine x_lald hd hc (vp_in_nI hj hm) ?_
  rw [nI_clamp (by omega)]
  exact K
theorem g_last {b len j x : Nat} {f : Nat → Nat} (hd : decode M.2.1 pc = .ok (.lastore, 1)) (hc : h b = some (lA len f)) (hj : j < len) (hm : len < 2 ^ 31) (K : zEx G M k mc ms (pc + 1) lv st (va_up h b (some (lA len (va_up f j x)))) n u Q) : zEx G M k mc ms pc lv (.long (lN x) :: .int (nI j) :: .ref b :: st) h n u Q := by
  refine x_last hd hc (vp_in_nI hj hm) ?_
  rw [nI_clamp (by omega), up_lN]
  exact K
end ZS1
section ZS2
variable {G : zG} {n : Nat} {h : zF}
theorem c_at {b len : Nat} {f : Nat → Nat} (x : Int32) (hc : h b = some (iA len f)) (hm : len < 2 ^ 31) : zI G MX7_at 0 [.ref b, .int x] h n (if bR x len then nI (f x.toNatClampNeg) else nI 0) := by
  refine zCt.of rfl (Nat.le_of_ble_eq_true rfl) rfl ?_
  refine x_iload_n dX7_at_0 rfl ?_
  refine x_if_lt (tgt := 16) dX7_at_1 (by decide) (fun c1 => ?_) (fun c1 => ?_)
  · have hb : bR x len = false := bR_false.mpr (fun q => by unfold inR at q; rw [fa_lt, Int32.toInt_zero] at c1; omega)
    refine x_iconst (v := nI 0) dX7_at_16 (by decide) ?_
    refine x_iret dX7_at_17 rfl rfl ⟨Nat.le_refl _, Nat.le_refl _⟩ ?_
    exact ⟨by rw [hb]; rfl, rfl, rfl⟩
  · obtain ⟨j, hj, rfl⟩ := nI_of c1
    refine x_iload_n dX7_at_4 rfl ?_
    refine x_aload_n dX7_at_5 rfl ?_
    refine x_alen (v := nI len) dX7_at_6 hc rfl ?_
    refine n_icmp_ge (tgt := 16) dX7_at_7 (by decide) (by omega) (by omega) (fun c2 => ?_) (fun c2 => ?_)
    · have hb : bR (nI j) len = false := bR_false.mpr (fun q => by rw [inR_nI hj] at q; omega)
      refine x_iconst (v := nI 0) dX7_at_16 (by decide) ?_
      refine x_iret dX7_at_17 rfl rfl ⟨Nat.le_refl _, Nat.le_refl _⟩ ?_
      exact ⟨by rw [hb]; rfl, rfl, rfl⟩
    · have hb : bR (nI j) len = true := bR_true.mpr ((inR_nI hj).mpr (by omega))
      refine x_aload_n dX7_at_10 rfl ?_
      refine x_iload_n dX7_at_11 rfl ?_
      refine g_iald dX7_at_12 hc (by omega) (by omega) ?_
      refine x_goto (tgt := 17) dX7_at_13 (by decide) ?_
      refine x_iret dX7_at_17 rfl rfl ⟨Nat.le_refl _, Nat.le_refl _⟩ ?_
      exact ⟨by rw [hb, nI_clamp hj]; rfl, rfl, rfl⟩
theorem c_atN {b len j : Nat} {f : Nat → Nat} (hc : h b = some (iA len f)) (hm : len < 2 ^ 31) (hj : j < len) : zI G MX7_at 0 [.ref b, .int (nI j)] h n (nI (f j)) := by
  have := c_at (G := G) (n := n) (nI j) hc hm
  rwa [bR_true.mpr ((inR_nI (by omega)).mpr hj), nI_clamp (by omega)] at this
theorem c_putN {b len j x : Nat} {f : Nat → Nat} (hc : h b = some (iA len f)) (hm : len < 2 ^ 31) (hj : j < len) : zPv G MX7_put 0 [.ref b, .int (nI j), .int (nI x)] h n (fun h' => h' = va_up h b (some (iA len (va_up f j x)))) := by
  refine zCt.of rfl (Nat.le_of_ble_eq_true rfl) rfl ?_
  refine x_iload_n dX7_put_0 rfl ?_
  refine x_if_lt (tgt := 14) dX7_put_1 (by decide) (fun c1 => absurd c1 (nI_pos (by omega))) (fun c1 => ?_)
  refine x_iload_n dX7_put_4 rfl ?_
  refine x_aload_n dX7_put_5 rfl ?_
  refine x_alen (v := nI len) dX7_put_6 hc rfl ?_
  refine n_icmp_ge (tgt := 14) dX7_put_7 (by decide) (by omega) (by omega) (fun c2 => ?_) (fun c2 => ?_)
  · exact absurd hj (by omega)
  · refine x_aload_n dX7_put_10 rfl ?_
    refine x_iload_n dX7_put_11 rfl ?_
    refine x_iload_n dX7_put_12 rfl ?_
    refine g_iast dX7_put_13 hc (by omega) (by omega) ?_
    refine x_vret dX7_put_14 rfl ⟨Nat.le_refl _, Nat.le_refl _⟩ ?_
    exact ⟨rfl, rfl, rfl⟩
theorem c_raiseN {b len j x : Nat} {f : Nat → Nat} (hc : h b = some (iA len f)) (hm : len < 2 ^ 31) (hj : j < len) : zPv G MX7_raise 0 [.ref b, .int (nI j), .int (nI x)] h n (fun h' => h' = va_up h b (some (iA len (va_up f j (f j + x))))) := by
  refine zCt.of rfl (Nat.le_of_ble_eq_true rfl) rfl ?_
  refine x_iload_n dX7_raise_0 rfl ?_
  refine x_if_lt (tgt := 17) dX7_raise_1 (by decide) (fun c1 => absurd c1 (nI_pos (by omega))) (fun c1 => ?_)
  refine x_iload_n dX7_raise_4 rfl ?_
  refine x_aload_n dX7_raise_5 rfl ?_
  refine x_alen (v := nI len) dX7_raise_6 hc rfl ?_
  refine n_icmp_ge (tgt := 17) dX7_raise_7 (by decide) (by omega) (by omega) (fun c2 => ?_) (fun c2 => ?_)
  · exact absurd hj (by omega)
  · refine x_aload_n dX7_raise_10 rfl ?_
    refine x_iload_n dX7_raise_11 rfl ?_
    refine x_dup2_11 dX7_raise_12 rfl rfl ?_
    refine g_iald dX7_raise_13 hc (by omega) (by omega) ?_
    refine x_iload_n dX7_raise_14 rfl ?_
    refine n_iadd dX7_raise_15 ?_
    refine g_iast dX7_raise_16 hc (by omega) (by omega) ?_
    refine x_vret dX7_raise_17 rfl ⟨Nat.le_refl _, Nat.le_refl _⟩ ?_
    exact ⟨rfl, rfl, rfl⟩
theorem c_raiseM {b len j : Nat} {f : Nat → Nat} (hc : h b = some (iA len f)) (hm : len < 2 ^ 31) (hj : j < len) (h1 : 1 ≤ f j) : zPv G MX7_raise 0 [.ref b, .int (nI j), .int (-1)] h n (fun h' => h' = va_up h b (some (iA len (va_up f j (f j - 1))))) := by
  refine zCt.of rfl (Nat.le_of_ble_eq_true rfl) rfl ?_
  refine x_iload_n dX7_raise_0 rfl ?_
  refine x_if_lt (tgt := 17) dX7_raise_1 (by decide) (fun c1 => absurd c1 (nI_pos (by omega))) (fun c1 => ?_)
  refine x_iload_n dX7_raise_4 rfl ?_
  refine x_aload_n dX7_raise_5 rfl ?_
  refine x_alen (v := nI len) dX7_raise_6 hc rfl ?_
  refine n_icmp_ge (tgt := 17) dX7_raise_7 (by decide) (by omega) (by omega) (fun c2 => ?_) (fun c2 => ?_)
  · exact absurd hj (by omega)
  · refine x_aload_n dX7_raise_10 rfl ?_
    refine x_iload_n dX7_raise_11 rfl ?_
    refine x_dup2_11 dX7_raise_12 rfl rfl ?_
    refine g_iald dX7_raise_13 hc (by omega) (by omega) ?_
    refine x_iload_n dX7_raise_14 rfl ?_
    refine x_iadd dX7_raise_15 ?_
    have e : nI (f j) + (-1) = nI (f j - 1) := by
      obtain ⟨y, hy⟩ : ∃ y, f j = y + 1 := ⟨f j - 1, by omega⟩
      rw [hy, pk_m1]; rfl
    rw [e]
    refine g_iast dX7_raise_16 hc (by omega) (by omega) ?_
    refine x_vret dX7_raise_17 rfl ⟨Nat.le_refl _, Nat.le_refl _⟩ ?_
    exact ⟨rfl, rfl, rfl⟩
theorem nI_byteU (w : Nat) {p : Nat} (hp : p < 4) : ((nI w).toUInt32 >>> ((nI (8 * p)).toUInt32 &&& Int32.toUInt32 31)).toInt32 &&& nI 255 = nI (w / 2 ^ (8 * p) % 256) := by
  refine b_ext fun i hi => ?_
  rw [b_and, b_ushr (8 * p) (by omega), bt_nI _ hi, bt_nI _ hi]
  rw [show (256 : Nat) = 2 ^ 8 from rfl, Nat.testBit_mod_two_pow, Nat.testBit_div_two_pow, show (255 : Nat) = 2 ^ 8 - 1 from rfl, Nat.testBit_two_pow_sub_one]
  by_cases h8 : i < 8
  · rw [bt_nI _ (by omega)]
    simp [h8, Nat.add_comm]
  · simp [h8]
theorem c_inside (w : Nat) {p : Nat} (hp : p < 4) : zI G MX7_inside 0 [.int (nI w), .int (nI p)] h n (nI (sI w p)) := by
  refine zCt.of rfl (Nat.le_of_ble_eq_true rfl) rfl ?_
  refine x_iload_n dX7_inside_0 rfl ?_
  refine x_bipush (v := nI 8) dX7_inside_1 (by decide) ?_
  refine x_iload_n dX7_inside_3 rfl ?_
  refine n_imul dX7_inside_4 ?_
  refine x_iushr dX7_inside_5 rfl ?_
  refine x_sipush (v := nI 255) dX7_inside_6 (by decide) ?_
  refine x_iand dX7_inside_9 ?_
  rw [nI_byteU w hp]
  refine x_iret dX7_inside_10 rfl rfl ⟨Nat.le_refl _, Nat.le_refl _⟩ ?_
  exact ⟨rfl, rfl, rfl⟩
theorem c_isBelow (x : Int32) {m : Nat} (hm : m < 2 ^ 31) : zI G MX7_isBelow 0 [.int x, .int (nI m)] h n (nI (bR x m).toNat) := by
  refine zCt.of rfl (Nat.le_of_ble_eq_true rfl) rfl ?_
  refine x_iload_n dX7_isBelow_0 rfl ?_
  refine x_if_lt (tgt := 13) dX7_isBelow_1 (by decide) (fun c1 => ?_) (fun c1 => ?_)
  · have hb : bR x m = false := bR_false.mpr (fun q => by unfold inR at q; rw [fa_lt, Int32.toInt_zero] at c1; omega)
    refine x_iconst (v := nI 0) dX7_isBelow_13 (by decide) ?_
    refine x_iret dX7_isBelow_14 rfl rfl ⟨Nat.le_refl _, Nat.le_refl _⟩ ?_
    exact ⟨by rw [hb]; rfl, rfl, rfl⟩
  · obtain ⟨j, hj, rfl⟩ := nI_of c1
    refine x_iload_n dX7_isBelow_4 rfl ?_
    refine x_iload_n dX7_isBelow_5 rfl ?_
    refine n_icmp_ge (tgt := 13) dX7_isBelow_6 (by decide) (by omega) (by omega) (fun c2 => ?_) (fun c2 => ?_)
    · have hb : bR (nI j) m = false := bR_false.mpr (fun q => by rw [inR_nI hj] at q; omega)
      refine x_iconst (v := nI 0) dX7_isBelow_13 (by decide) ?_
      refine x_iret dX7_isBelow_14 rfl rfl ⟨Nat.le_refl _, Nat.le_refl _⟩ ?_
      exact ⟨by rw [hb]; rfl, rfl, rfl⟩
    · have hb : bR (nI j) m = true := bR_true.mpr ((inR_nI hj).mpr (by omega))
      refine x_iconst (v := nI 1) dX7_isBelow_9 (by decide) ?_
      refine x_goto (tgt := 14) dX7_isBelow_10 (by decide) ?_
      refine x_iret dX7_isBelow_14 rfl rfl ⟨Nat.le_refl _, Nat.le_refl _⟩ ?_
      exact ⟨by rw [hb]; rfl, rfl, rfl⟩
theorem c_isWithin {x lo hi : Nat} (hx : x < 2 ^ 31) (hl : lo < 2 ^ 31) (hh : hi < 2 ^ 31) : zI G MX7_isWithin 0 [.int (nI x), .int (nI lo), .int (nI hi)] h n (nI (decide (lo ≤ x ∧ x ≤ hi)).toNat) := by
  refine zCt.of rfl (Nat.le_of_ble_eq_true rfl) rfl ?_
  refine x_iload_n dX7_isWithin_0 rfl ?_
  refine x_iload_n dX7_isWithin_1 rfl ?_
  refine n_icmp_lt (tgt := 14) dX7_isWithin_2 (by decide) (by omega) (by omega) (fun c1 => ?_) (fun c1 => ?_)
  · refine x_iconst (v := nI 0) dX7_isWithin_14 (by decide) ?_
    refine x_iret dX7_isWithin_15 rfl rfl ⟨Nat.le_refl _, Nat.le_refl _⟩ ?_
    exact ⟨by rw [decide_eq_false (by omega)]; rfl, rfl, rfl⟩
  · refine x_iload_n dX7_isWithin_5 rfl ?_
    refine x_iload_n dX7_isWithin_6 rfl ?_
    refine n_icmp_gt (tgt := 14) dX7_isWithin_7 (by decide) (by omega) (by omega) (fun c2 => ?_) (fun c2 => ?_)
    · refine x_iconst (v := nI 0) dX7_isWithin_14 (by decide) ?_
      refine x_iret dX7_isWithin_15 rfl rfl ⟨Nat.le_refl _, Nat.le_refl _⟩ ?_
      exact ⟨by rw [decide_eq_false (by omega)]; rfl, rfl, rfl⟩
    · refine x_iconst (v := nI 1) dX7_isWithin_10 (by decide) ?_
      refine x_goto (tgt := 15) dX7_isWithin_11 (by decide) ?_
      refine x_iret dX7_isWithin_15 rfl rfl ⟨Nat.le_refl _, Nat.le_refl _⟩ ?_
      exact ⟨by rw [decide_eq_true (by omega)]; rfl, rfl, rfl⟩
theorem c_isSort (x : Int32) : zI G MX7_isSort 1 [.int x] h n (nI (bR x 4).toNat) := by
  refine zCt.of rfl (Nat.le_of_ble_eq_true rfl) rfl ?_
  refine x_iload_n dX7_isSort_0 rfl ?_
  refine x_iconst (v := nI 4) dX7_isSort_1 (by decide) ?_
  refine x_cSi2 dX7_isSort_2 lkX7_170 mdX7_isBelow stX7_isBelow (by decide) (c_isBelow x (by decide)) (Nat.le_of_ble_eq_true rfl) ⟨Nat.le_refl _, Nat.le_refl _⟩ ?_
  refine x_iret dX7_isSort_5 rfl (nar_b _) ⟨Nat.le_refl _, Nat.le_refl _⟩ ?_
  exact ⟨rfl, rfl, rfl⟩
theorem c_trialOf {p so : Nat} : zI G MX7_trialOf 0 [.int (nI p), .int (nI so)] h n (nI (4 * p + so)) := by
  refine zCt.of rfl (Nat.le_of_ble_eq_true rfl) rfl ?_
  refine x_iconst (v := nI 4) dX7_trialOf_0 (by decide) ?_
  refine x_iload_n dX7_trialOf_1 rfl ?_
  refine n_imul dX7_trialOf_2 ?_
  refine x_iload_n dX7_trialOf_3 rfl ?_
  refine n_iadd dX7_trialOf_4 ?_
  refine x_iret dX7_trialOf_5 rfl rfl ⟨Nat.le_refl _, Nat.le_refl _⟩ ?_
  exact ⟨rfl, rfl, rfl⟩
theorem c_parcelOf {t : Nat} (ht : t < 2 ^ 31) : zI G MX7_parcelOf 0 [.int (nI t)] h n (nI (t / 4)) := by
  refine zCt.of rfl (Nat.le_of_ble_eq_true rfl) rfl ?_
  refine x_iload_n dX7_parcelOf_0 rfl ?_
  refine x_iconst (v := nI 4) dX7_parcelOf_1 (by decide) ?_
  refine n_idiv dX7_parcelOf_2 (by omega) (by omega) (by omega) ?_
  refine x_iret dX7_parcelOf_3 rfl rfl ⟨Nat.le_refl _, Nat.le_refl _⟩ ?_
  exact ⟨rfl, rfl, rfl⟩
theorem c_sortOf {t : Nat} (ht : t < 2 ^ 31) : zI G MX7_sortOf 0 [.int (nI t)] h n (nI (t % 4)) := by
  refine zCt.of rfl (Nat.le_of_ble_eq_true rfl) rfl ?_
  refine x_iload_n dX7_sortOf_0 rfl ?_
  refine x_iconst (v := nI 4) dX7_sortOf_1 (by decide) ?_
  refine n_irem dX7_sortOf_2 (by omega) (by omega) (by omega) ?_
  refine x_iret dX7_sortOf_3 rfl rfl ⟨Nat.le_refl _, Nat.le_refl _⟩ ?_
  exact ⟨rfl, rfl, rfl⟩
theorem c_swapped {w p q : Nat} (hp : p < 4) (hq : q < 4) : zI G MX7_swapped 1 [.int (nI w), .int (nI p), .int (nI q)] h n (nI ((w ^^^ ((sI w p ^^^ sI w q) * 2 ^ (8 * p))) ^^^ ((sI w p ^^^ sI w q) * 2 ^ (8 * q)))) := by
  refine zCt.of rfl (Nat.le_of_ble_eq_true rfl) rfl ?_
  refine x_iload_n dX7_swapped_0 rfl ?_
  refine x_iload_n dX7_swapped_1 rfl ?_
  refine x_cSi2 dX7_swapped_2 lkX7_154 mdX7_inside stX7_inside (by decide) (c_inside w hp) (Nat.le_of_ble_eq_true rfl) ⟨Nat.le_refl _, Nat.le_refl _⟩ ?_
  refine x_iload_n dX7_swapped_5 rfl ?_
  refine x_iload_n dX7_swapped_6 rfl ?_
  refine x_cSi2 dX7_swapped_7 lkX7_154 mdX7_inside stX7_inside (by decide) (c_inside w hq) (Nat.le_of_ble_eq_true rfl) ⟨Nat.le_refl _, Nat.le_refl _⟩ ?_
  refine n_ixor dX7_swapped_10 ?_
  refine x_is3 dX7_swapped_11 (by decide) rfl ?_
  refine x_iload_n dX7_swapped_12 rfl ?_
  refine x_iload_n dX7_swapped_13 rfl ?_
  refine x_bipush (v := nI 8) dX7_swapped_14 (by decide) ?_
  refine x_iload_n dX7_swapped_16 rfl ?_
  refine n_imul dX7_swapped_17 ?_
  refine n_ishl dX7_swapped_18 (by omega) ?_
  refine n_ixor dX7_swapped_19 ?_
  refine x_iload_n dX7_swapped_20 rfl ?_
  refine x_bipush (v := nI 8) dX7_swapped_21 (by decide) ?_
  refine x_iload_n dX7_swapped_23 rfl ?_
  refine n_imul dX7_swapped_24 ?_
  refine n_ishl dX7_swapped_25 (by omega) ?_
  refine n_ixor dX7_swapped_26 ?_
  refine x_iret dX7_swapped_27 rfl rfl ⟨Nat.le_refl _, Nat.le_refl _⟩ ?_
  exact ⟨rfl, rfl, rfl⟩
theorem pow_half {x y i : Nat} (hy : 0 < y) (hyx : y ≤ x) (h : x * y * 2 ^ i ≤ 2 ^ 127) : y * (x % y) * 2 ^ (i + 1) ≤ 2 ^ 127 := by
  have h1 : 2 * (x % y) ≤ x := by
    have h2 := Nat.mod_lt x hy
    have h3 := Nat.div_add_mod x y
    have h4 : 1 ≤ x / y := (Nat.one_le_div_iff hy).mpr hyx
    have h5 : y * 1 ≤ y * (x / y) := Nat.mul_le_mul_left y h4
    omega
  refine Nat.le_trans ?_ h
  rw [Nat.pow_succ, Nat.mul_comm (2 ^ i) 2, ← Nat.mul_assoc]
  refine Nat.mul_le_mul_right _ ?_
  rw [Nat.mul_assoc, Nat.mul_comm (x % y) 2, Nat.mul_comm x y]
  exact Nat.mul_le_mul_left y h1
set_option maxRecDepth 100000 in
theorem c_inLow {x y : Nat} {part : Int32} (hx : x < 2 ^ 60) (hy : y < 2 ^ 60) (hy0 : 0 < y) : zJ G MX7_inLowestTerms 0 [.long (lN x), .long (lN y), .int part] h n (if part = 0 then lN (x / Nat.gcd y x) else lN (y / Nat.gcd y x)) := by
  refine zCt.of rfl (Nat.le_of_ble_eq_true rfl) rfl ?_
  have hgp : 0 < Nat.gcd y x := Nat.gcd_pos_of_pos_left _ hy0
  have hgl : Nat.gcd y x ≤ y := Nat.gcd_le_left _ hy0
  refine x_lload_n dX7_inLowestTerms_0 rfl ?_
  refine x_ls5 dX7_inLowestTerms_1 (by decide) rfl ?_
  refine x_lload_n dX7_inLowestTerms_3 rfl ?_
  refine x_ls7 dX7_inLowestTerms_4 (by decide) rfl ?_
  refine x_iconst (v := nI 0) dX7_inLowestTerms_6 (by decide) ?_
  refine x_is9 dX7_inLowestTerms_7 (by decide) rfl ?_
  have loop : ∀ q r i : Nat, q < 2 ^ 60 → r < 2 ^ 60 → Nat.gcd q r = Nat.gcd y x → i ≤ 199 → (i = 0 ∨ (q ≤ r ∧ r * q * 2 ^ i ≤ 2 ^ 127)) → ∀ o10, zEx G MX7_inLowestTerms 0 0 0 9 [some (.long (lN x)), none, some (.long (lN y)), none, some (.int part), some (.long (lN r)), none, some (.long (lN q)), none, some (.int (nI i)), o10, none] [] h n (0, 0) (fun r h' n' => r = some (.long (if part = 0 then lN (x / Nat.gcd y x) else lN (y / Nat.gcd y x))) ∧ h' = h ∧ n' = n) := by
    intro q
    induction q using Nat.strongRecOn with
    | _ q ih =>
      intro r i hq hr hg hi hinv o10
      refine x_iload dX7_inLowestTerms_9 rfl ?_
      refine x_sipush (v := nI 200) dX7_inLowestTerms_11 (by decide) ?_
      refine n_icmp_ge (tgt := 45) dX7_inLowestTerms_14 (by decide) (by omega) (by omega) (fun hc => ?_) (fun hc => ?_)
      · exact absurd hc (by omega)
      · refine x_lload dX7_inLowestTerms_17 rfl ?_
        refine x_lconst (v := lN 0) dX7_inLowestTerms_19 (by decide) ?_
        refine x_lcmp dX7_inLowestTerms_20 ?_
        refine l_if_eq (tgt := 45) dX7_inLowestTerms_21 (by decide) (fun c1 => ?_) (fun c1 => ?_)
        · have c1 := (lN_inj0 (by omega)).mp c1
          rw [c1, Nat.gcd_zero_left] at hg
          refine x_iload dX7_inLowestTerms_45 rfl ?_
          refine x_if_ne (tgt := 54) dX7_inLowestTerms_47 (by decide) (fun c2 => ?_) (fun c2 => ?_)
          · refine x_lload_n dX7_inLowestTerms_54 rfl ?_
            refine x_ls9 dX7_inLowestTerms_55 (by decide) rfl ?_
            refine x_lload dX7_inLowestTerms_57 rfl ?_
            refine x_lconst (v := lN 0) dX7_inLowestTerms_59 (by decide) ?_
            refine x_lcmp dX7_inLowestTerms_60 ?_
            refine l_if_ne (tgt := 69) dX7_inLowestTerms_61 (by decide) (fun c3 => ?_) (fun c3 => ?_)
            · refine x_lload dX7_inLowestTerms_69 rfl ?_
              refine x_lload dX7_inLowestTerms_71 rfl ?_
              refine n_ldiv dX7_inLowestTerms_73 (by omega) (by omega) (by omega) ?_
              refine x_lret dX7_inLowestTerms_74 rfl ⟨Nat.le_refl _, Nat.le_refl _⟩ ?_
              exact ⟨by rw [if_neg c2, hg], rfl, rfl⟩
            · exact absurd ((lN_inj0 (by omega)).mp c3) (by omega)
          · refine x_lload_n dX7_inLowestTerms_50 rfl ?_
            refine x_goto (tgt := 55) dX7_inLowestTerms_51 (by decide) ?_
            refine x_ls9 dX7_inLowestTerms_55 (by decide) rfl ?_
            refine x_lload dX7_inLowestTerms_57 rfl ?_
            refine x_lconst (v := lN 0) dX7_inLowestTerms_59 (by decide) ?_
            refine x_lcmp dX7_inLowestTerms_60 ?_
            refine l_if_ne (tgt := 69) dX7_inLowestTerms_61 (by decide) (fun c3 => ?_) (fun c3 => ?_)
            · refine x_lload dX7_inLowestTerms_69 rfl ?_
              refine x_lload dX7_inLowestTerms_71 rfl ?_
              refine n_ldiv dX7_inLowestTerms_73 (by omega) (by omega) (by omega) ?_
              refine x_lret dX7_inLowestTerms_74 rfl ⟨Nat.le_refl _, Nat.le_refl _⟩ ?_
              exact ⟨by rw [if_pos c2, hg], rfl, rfl⟩
            · exact absurd ((lN_inj0 (by omega)).mp c3) (by omega)
        · have c1 : 0 < q := Nat.pos_of_ne_zero (fun z => c1 ((lN_inj0 (by omega)).mpr z))
          refine x_lload dX7_inLowestTerms_24 rfl ?_
          refine x_lload dX7_inLowestTerms_26 rfl ?_
          refine n_lrem dX7_inLowestTerms_28 (by omega) c1 (by omega) ?_
          refine x_ls10 dX7_inLowestTerms_29 (by decide) rfl ?_
          refine x_lload dX7_inLowestTerms_31 rfl ?_
          refine x_ls5 dX7_inLowestTerms_33 (by decide) rfl ?_
          refine x_lload dX7_inLowestTerms_35 rfl ?_
          refine x_ls7 dX7_inLowestTerms_37 (by decide) rfl ?_
          refine n_ii9 (w := 1) dX7_inLowestTerms_39 (by decide) (by decide) rfl ?_
          refine x_goto (tgt := 9) dX7_inLowestTerms_42 (by decide) ?_
          have hlt : r % q < q := Nat.mod_lt _ c1
          have hnew : q * (r % q) * 2 ^ (i + 1) ≤ 2 ^ 127 := by
            rcases hinv with h0 | ⟨h1, h2⟩
            · subst h0
              have : q * (r % q) ≤ 2 ^ 60 * 2 ^ 60 := Nat.mul_le_mul (by omega) (by omega)
              omega
            · exact pow_half c1 h1 h2
          by_cases hz : r % q = 0
          · by_cases hi2 : i + 1 ≤ 199
            · exact ih (r % q) hlt q (i + 1) (by omega) hq (by rw [← Nat.gcd_rec]; exact hg) hi2 (Or.inr ⟨by omega, hnew⟩) _
            · exfalso
              rcases hinv with h0 | ⟨h1, h2⟩
              · omega
              · have h3 : 1 * 1 * 2 ^ 199 ≤ r * q * 2 ^ i := Nat.mul_le_mul (Nat.mul_le_mul (by omega) (by omega)) (Nat.pow_le_pow_right (by decide) (by omega))
                have h4 : (2 : Nat) ^ 127 < 1 * 1 * 2 ^ 199 := by decide
                omega
          · have hi2 : i + 1 ≤ 199 := by
              rcases Nat.lt_or_ge i 199 with q1 | q1
              · omega
              · exfalso
                have h3 : 1 * 1 * 2 ^ 199 ≤ q * (r % q) * 2 ^ (i + 1) := Nat.mul_le_mul (Nat.mul_le_mul (by omega) (by omega)) (Nat.pow_le_pow_right (by decide) (by omega))
                have h4 : (2 : Nat) ^ 127 < 1 * 1 * 2 ^ 199 := by decide
                omega
            exact ih (r % q) hlt q (i + 1) (by omega) hq (by rw [← Nat.gcd_rec]; exact hg) hi2 (Or.inr ⟨by omega, hnew⟩) _
  exact loop y x 0 hy hx rfl (by decide) (Or.inl rfl) _
def bcF (x : Int32) : Int32 :=
  (fun x => x &&& nI 63) ((fun x => x + (x.toUInt32 >>> ((nI 16).toUInt32 &&& Int32.toUInt32 31)).toInt32) ((fun x => x + (x.toUInt32 >>> ((nI 8).toUInt32 &&& Int32.toUInt32 31)).toInt32) ((fun x => (x + (x.toUInt32 >>> ((nI 4).toUInt32 &&& Int32.toUInt32 31)).toInt32) &&& nI 252645135) ((fun x => (x &&& nI 858993459) + ((x.toUInt32 >>> ((nI 2).toUInt32 &&& Int32.toUInt32 31)).toInt32 &&& nI 858993459)) (x - ((x.toUInt32 >>> ((nI 1).toUInt32 &&& Int32.toUInt32 31)).toInt32 &&& nI 1431655765))))))
theorem bcF_ok : ∀ s, s < 256 → bcF (nI s) = nI (pop s) := by decide +kernel
theorem c_bitCount {s : Nat} (hs : s < 256) : zI G MJ6_bitCount_0f7a4 0 [.int (nI s)] h n (nI (pop s)) := by
  rw [← bcF_ok s hs]
  refine zCt.of rfl (Nat.le_of_ble_eq_true rfl) rfl ?_
  refine x_iload_n dJ6_bitCount_0f7a4_0 rfl ?_
  refine x_iload_n dJ6_bitCount_0f7a4_1 rfl ?_
  refine x_iconst (v := nI 1) dJ6_bitCount_0f7a4_2 (by decide) ?_
  refine x_iushr dJ6_bitCount_0f7a4_3 rfl ?_
  refine x_ldcw (v := nI 1431655765) dJ6_bitCount_0f7a4_4 coJ6_265 ?_
  refine x_iand dJ6_bitCount_0f7a4_7 ?_
  refine x_isub dJ6_bitCount_0f7a4_8 ?_
  refine x_is0 dJ6_bitCount_0f7a4_9 (by decide) rfl ?_
  refine x_iload_n dJ6_bitCount_0f7a4_10 rfl ?_
  refine x_ldcw (v := nI 858993459) dJ6_bitCount_0f7a4_11 coJ6_266 ?_
  refine x_iand dJ6_bitCount_0f7a4_14 ?_
  refine x_iload_n dJ6_bitCount_0f7a4_15 rfl ?_
  refine x_iconst (v := nI 2) dJ6_bitCount_0f7a4_16 (by decide) ?_
  refine x_iushr dJ6_bitCount_0f7a4_17 rfl ?_
  refine x_ldcw (v := nI 858993459) dJ6_bitCount_0f7a4_18 coJ6_266 ?_
  refine x_iand dJ6_bitCount_0f7a4_21 ?_
  refine x_iadd dJ6_bitCount_0f7a4_22 ?_
  refine x_is0 dJ6_bitCount_0f7a4_23 (by decide) rfl ?_
  refine x_iload_n dJ6_bitCount_0f7a4_24 rfl ?_
  refine x_iload_n dJ6_bitCount_0f7a4_25 rfl ?_
  refine x_iconst (v := nI 4) dJ6_bitCount_0f7a4_26 (by decide) ?_
  refine x_iushr dJ6_bitCount_0f7a4_27 rfl ?_
  refine x_iadd dJ6_bitCount_0f7a4_28 ?_
  refine x_ldcw (v := nI 252645135) dJ6_bitCount_0f7a4_29 coJ6_267 ?_
  refine x_iand dJ6_bitCount_0f7a4_32 ?_
  refine x_is0 dJ6_bitCount_0f7a4_33 (by decide) rfl ?_
  refine x_iload_n dJ6_bitCount_0f7a4_34 rfl ?_
  refine x_iload_n dJ6_bitCount_0f7a4_35 rfl ?_
  refine x_bipush (v := nI 8) dJ6_bitCount_0f7a4_36 (by decide) ?_
  refine x_iushr dJ6_bitCount_0f7a4_38 rfl ?_
  refine x_iadd dJ6_bitCount_0f7a4_39 ?_
  refine x_is0 dJ6_bitCount_0f7a4_40 (by decide) rfl ?_
  refine x_iload_n dJ6_bitCount_0f7a4_41 rfl ?_
  refine x_iload_n dJ6_bitCount_0f7a4_42 rfl ?_
  refine x_bipush (v := nI 16) dJ6_bitCount_0f7a4_43 (by decide) ?_
  refine x_iushr dJ6_bitCount_0f7a4_45 rfl ?_
  refine x_iadd dJ6_bitCount_0f7a4_46 ?_
  refine x_is0 dJ6_bitCount_0f7a4_47 (by decide) rfl ?_
  refine x_iload_n dJ6_bitCount_0f7a4_48 rfl ?_
  refine x_bipush (v := nI 63) dJ6_bitCount_0f7a4_49 (by decide) ?_
  refine x_iand dJ6_bitCount_0f7a4_51 ?_
  refine x_iret dJ6_bitCount_0f7a4_52 rfl rfl ⟨Nat.le_refl _, Nat.le_refl _⟩ ?_
  exact ⟨rfl, rfl, rfl⟩
theorem c_compare {x y : Nat} (hx : x < 2 ^ 31) (hy : y < 2 ^ 31) : zI G MJ6_compare_7cf53 0 [.int (nI x), .int (nI y)] h n (if x < y then -1 else if x = y then nI 0 else nI 1) := by
  refine zCt.of rfl (Nat.le_of_ble_eq_true rfl) rfl ?_
  refine x_iload_n dJ6_compare_7cf53_0 rfl ?_
  refine x_iload_n dJ6_compare_7cf53_1 rfl ?_
  refine n_icmp_ge (tgt := 9) dJ6_compare_7cf53_2 (by decide) (by omega) (by omega) (fun c1 => ?_) (fun c1 => ?_)
  · refine x_iload_n dJ6_compare_7cf53_9 rfl ?_
    refine x_iload_n dJ6_compare_7cf53_10 rfl ?_
    refine n_icmp_ne (tgt := 18) dJ6_compare_7cf53_11 (by decide) (by omega) (by omega) (fun c2 => ?_) (fun c2 => ?_)
    · refine x_iconst (v := nI 1) dJ6_compare_7cf53_18 (by decide) ?_
      refine x_iret dJ6_compare_7cf53_19 rfl rfl ⟨Nat.le_refl _, Nat.le_refl _⟩ ?_
      exact ⟨by rw [if_neg (by omega), if_neg c2], rfl, rfl⟩
    · refine x_iconst (v := nI 0) dJ6_compare_7cf53_14 (by decide) ?_
      refine x_goto (tgt := 19) dJ6_compare_7cf53_15 (by decide) ?_
      refine x_iret dJ6_compare_7cf53_19 rfl rfl ⟨Nat.le_refl _, Nat.le_refl _⟩ ?_
      exact ⟨by rw [if_neg (by omega), if_pos c2], rfl, rfl⟩
  · refine x_iconst (v := -1) dJ6_compare_7cf53_5 (by decide) ?_
    refine x_goto (tgt := 19) dJ6_compare_7cf53_6 (by decide) ?_
    refine x_iret dJ6_compare_7cf53_19 rfl rfl ⟨Nat.le_refl _, Nat.le_refl _⟩ ?_
    exact ⟨by rw [if_pos (by omega)], rfl, rfl⟩
end ZS2
section ZS2b
variable {G : zG} {M : zM} {k mc ms pc n : Nat} {lv : List (Option Value)} {st : List Value} {h : zF} {u : Nat × Nat} {Q : zQ}
theorem mth_max : Cond.static Lib.Math.max.name ∈ zTbl ∧ Cond.initialized "java/lang/Math" ∈ zTbl ∧ Cond.code Lib.Math.max.name Lib.Math.max.code 2 (some .int) ∈ zTbl := ⟨zmem 295 (by decide +kernel) rfl, zmem 70 (by decide +kernel) rfl, zmem 296 (by decide +kernel) rfl⟩
theorem mth_abs : Cond.static Lib.Math.abs.name ∈ zTbl ∧ Cond.initialized "java/lang/Math" ∈ zTbl ∧ Cond.code Lib.Math.abs.name Lib.Math.abs.code 1 (some .int) ∈ zTbl := ⟨zmem 481 (by decide +kernel) rfl, zmem 70 (by decide +kernel) rfl, zmem 482 (by decide +kernel) rfl⟩
theorem mth_min : Cond.static Lib.Math.min.name ∈ zTbl ∧ Cond.initialized "java/lang/Math" ∈ zTbl ∧ Cond.code Lib.Math.min.name Lib.Math.min.code 2 (some .int) ∈ zTbl := ⟨zmem 709 (by decide +kernel) rfl, zmem 70 (by decide +kernel) rfl, zmem 710 (by decide +kernel) rfl⟩
theorem x_max {idx x y : Nat} (hd : decode M.2.1 pc = .ok (.invokestatic idx, 3)) (hlk : Cond.methodLink M.1.cls idx Lib.Math.max.name ∈ zTbl) (hk : 1 ≤ k) (hx : x < 2 ^ 31) (hy : y < 2 ^ 31) (hrest : (st.map fun v => v.category).sum ≤ 8) (hu : u.1 ≤ mc ∧ u.2 ≤ ms) (K : zEx G M k mc ms (pc + 3) lv (.int (nI (max x y)) :: st) h n u Q) : zEx G M k mc ms pc lv (.int (nI y) :: .int (nI x) :: st) h n u Q := by
  intro d p e R s m args below meth c Qz hkd hC hF H locs ls hH hl hL
  obtain ⟨hx0, hb, hml, hown, hts, hK, hR, hR2, hnm⟩ := id hC
  have e1 : (if nI x < nI y then nI y else nI x) = nI (max x y) := by
    by_cases hc : x < y
    · rw [if_pos ((nI_ltI hx hy).mpr hc), Nat.max_eq_right (by omega)]
    · rw [if_neg (fun q => hc ((nI_ltI hx hy).mp q)), Nat.max_eq_left (by omega)]
  refine va_mmax hx0 hb (hml.trans hL.1.symm) hown (hts _ hlk) (hts _ mth_max.1) (hts _ mth_max.2.1) (hts _ mth_max.2.2) (by omega) (by omega) (Nat.le_trans hu.1 hR2.1) (Nat.le_trans hu.2 hR2.2) hd ?_
  rw [e1]
  exact K d p e R s m args below meth c Qz hkd hC hF H locs ls hH hl hL
theorem x_min {idx x y : Nat} (hd : decode M.2.1 pc = .ok (.invokestatic idx, 3)) (hlk : Cond.methodLink M.1.cls idx Lib.Math.min.name ∈ zTbl) (hk : 1 ≤ k) (hx : x < 2 ^ 31) (hy : y < 2 ^ 31) (hrest : (st.map fun v => v.category).sum ≤ 8) (hu : u.1 ≤ mc ∧ u.2 ≤ ms) (K : zEx G M k mc ms (pc + 3) lv (.int (nI (min x y)) :: st) h n u Q) : zEx G M k mc ms pc lv (.int (nI y) :: .int (nI x) :: st) h n u Q := by
  intro d p e R s m args below meth c Qz hkd hC hF H locs ls hH hl hL
  obtain ⟨hx0, hb, hml, hown, hts, hK, hR, hR2, hnm⟩ := id hC
  have e1 : (if nI y < nI x then nI y else nI x) = nI (min x y) := by
    by_cases hc : y < x
    · rw [if_pos ((nI_ltI hy hx).mpr hc), Nat.min_eq_right (by omega)]
    · rw [if_neg (fun q => hc ((nI_ltI hy hx).mp q)), Nat.min_eq_left (by omega)]
  refine va_mmin hx0 hb (hml.trans hL.1.symm) hown (hts _ hlk) (hts _ mth_min.1) (hts _ mth_min.2.1) (hts _ mth_min.2.2) (by omega) (by omega) (Nat.le_trans hu.1 hR2.1) (Nat.le_trans hu.2 hR2.2) hd ?_
  rw [e1]
  exact K d p e R s m args below meth c Qz hkd hC hF H locs ls hH hl hL
theorem x_abs {idx x y : Nat} (hd : decode M.2.1 pc = .ok (.invokestatic idx, 3)) (hlk : Cond.methodLink M.1.cls idx Lib.Math.abs.name ∈ zTbl) (hk : 1 ≤ k) (hx : x < 2 ^ 30) (hy : y < 2 ^ 30) (hrest : (st.map fun v => v.category).sum ≤ 8) (hu : u.1 ≤ mc ∧ u.2 ≤ ms) (K : zEx G M k mc ms (pc + 3) lv (.int (nI (if x ≤ y then y - x else x - y)) :: st) h n u Q) : zEx G M k mc ms pc lv (.int (nI x - nI y) :: st) h n u Q := by
  intro d p e R s m args below meth c Qz hkd hC hF H locs ls hH hl hL
  obtain ⟨hx0, hb, hml, hown, hts, hK, hR, hR2, hnm⟩ := id hC
  have hp := pk_sub_toInt hx hy
  have e1 : (if 0 ≤ nI x - nI y then nI x - nI y else 0 - (nI x - nI y)) = nI (if x ≤ y then y - x else x - y) := by
    by_cases hc : y ≤ x
    · rw [if_pos (by rw [fa_le, hp, Int32.toInt_zero]; omega), nI_sub hc]
      split
      · rw [show x - y = y - x by omega]
      · rfl
    · rw [if_neg (by rw [fa_le, hp, Int32.toInt_zero]; omega), if_pos (by omega), ← nI_sub (by omega), Int32.zero_sub, Int32.neg_sub]
  refine va_mabs hx0 hb (hml.trans hL.1.symm) hown (hts _ hlk) (hts _ mth_abs.1) (hts _ mth_abs.2.1) (hts _ mth_abs.2.2) (by omega) (by omega) (Nat.le_trans hu.1 hR2.1) (Nat.le_trans hu.2 hR2.2) hd ?_
  rw [e1]
  exact K d p e R s m args below meth c Qz hkd hC hF H locs ls hH hl hL
end ZS2b
section ZS2c
variable {G : zG} {n : Nat} {h : zF}
theorem c_fillI {b len x : Nat} {f : Nat → Nat} (hc : h b = some (iA len f)) (hm : len < 2 ^ 31) : zPv G MJ7_fill_53178 0 [.ref b, .int (nI x)] h n (fun h' => h' = va_up h b (some (iA len (fun j => if j < len then x else f j)))) := by
  refine zCt.of rfl (Nat.le_of_ble_eq_true rfl) rfl ?_
  refine x_iconst (v := nI 0) dJ7_fill_53178_0 (by decide) ?_
  refine x_is2 dJ7_fill_53178_1 (by decide) rfl ?_
  refine x_aload_n dJ7_fill_53178_2 rfl ?_
  refine x_alen (v := nI len) dJ7_fill_53178_3 hc rfl ?_
  refine x_is3 dJ7_fill_53178_4 (by decide) rfl ?_
  refine x_eqH (h' := va_up h b (some (iA len (fun j => if j < 0 then x else f j)))) (by simp only [Nat.not_lt_zero, if_false]; rw [← hc, up_self]) ?_
  refine z_up len (P := fun i => zEx G MJ7_fill_53178 0 0 0 5 [some (.ref b), some (.int (nI x)), some (.int (nI i)), some (.int (nI len))] [] (va_up h b (some (iA len (fun j => if j < i then x else f j)))) n (0, 0) _) ?_ 0 (Nat.zero_le _)
  intro i hi ih
  refine x_iload_n dJ7_fill_53178_5 rfl ?_
  refine x_iload_n dJ7_fill_53178_6 rfl ?_
  refine n_icmp_ge (tgt := 20) dJ7_fill_53178_7 (by decide) (by omega) (by omega) (fun hc2 => ?_) (fun hc2 => ?_)
  · refine x_vret dJ7_fill_53178_20 rfl ⟨Nat.le_refl _, Nat.le_refl _⟩ ?_
    exact ⟨rfl, by rw [show i = len by omega], rfl⟩
  · refine x_aload_n dJ7_fill_53178_10 rfl ?_
    refine x_iload_n dJ7_fill_53178_11 rfl ?_
    refine x_iload_n dJ7_fill_53178_12 rfl ?_
    refine g_iast dJ7_fill_53178_13 (up_eq _ _ _) (by omega) (by omega) ?_
    refine n_ii2 (w := 1) dJ7_fill_53178_14 (by decide) (by decide) rfl ?_
    refine x_goto (tgt := 5) dJ7_fill_53178_17 (by decide) ?_
    refine x_eqH ?_ (ih (by omega))
    have e9 : va_up (fun j => if j < i then x else f j) i x = (fun j => if j < i + 1 then x else f j) := by funext j; simp only [va_up]; grind
    rw [up_up, e9]
theorem c_fillL {b len x : Nat} {f : Nat → Nat} (hc : h b = some (lA len f)) (hm : len < 2 ^ 31) : zPv G MJ7_fill_d0a16 0 [.ref b, .long (lN x)] h n (fun h' => h' = va_up h b (some (lA len (fun j => if j < len then x else f j)))) := by
  refine zCt.of rfl (Nat.le_of_ble_eq_true rfl) rfl ?_
  refine x_iconst (v := nI 0) dJ7_fill_d0a16_0 (by decide) ?_
  refine x_is3 dJ7_fill_d0a16_1 (by decide) rfl ?_
  refine x_aload_n dJ7_fill_d0a16_2 rfl ?_
  refine x_alen (v := nI len) dJ7_fill_d0a16_3 hc rfl ?_
  refine x_is4 dJ7_fill_d0a16_4 (by decide) rfl ?_
  refine x_eqH (h' := va_up h b (some (lA len (fun j => if j < 0 then x else f j)))) (by simp only [Nat.not_lt_zero, if_false]; rw [← hc, up_self]) ?_
  refine z_up len (P := fun i => zEx G MJ7_fill_d0a16 0 0 0 6 [some (.ref b), some (.long (lN x)), none, some (.int (nI i)), some (.int (nI len))] [] (va_up h b (some (lA len (fun j => if j < i then x else f j)))) n (0, 0) _) ?_ 0 (Nat.zero_le _)
  intro i hi ih
  refine x_iload_n dJ7_fill_d0a16_6 rfl ?_
  refine x_iload dJ7_fill_d0a16_7 rfl ?_
  refine n_icmp_ge (tgt := 22) dJ7_fill_d0a16_9 (by decide) (by omega) (by omega) (fun hc2 => ?_) (fun hc2 => ?_)
  · refine x_vret dJ7_fill_d0a16_22 rfl ⟨Nat.le_refl _, Nat.le_refl _⟩ ?_
    exact ⟨rfl, by rw [show i = len by omega], rfl⟩
  · refine x_aload_n dJ7_fill_d0a16_12 rfl ?_
    refine x_iload_n dJ7_fill_d0a16_13 rfl ?_
    refine x_lload_n dJ7_fill_d0a16_14 rfl ?_
    refine g_last dJ7_fill_d0a16_15 (up_eq _ _ _) (by omega) (by omega) ?_
    refine n_ii3 (w := 1) dJ7_fill_d0a16_16 (by decide) (by decide) rfl ?_
    refine x_goto (tgt := 6) dJ7_fill_d0a16_19 (by decide) ?_
    refine x_eqH ?_ (ih (by omega))
    have e9 : va_up (fun j => if j < i then x else f j) i x = (fun j => if j < i + 1 then x else f j) := by funext j; simp only [va_up]; grind
    rw [up_up, e9]
end ZS2c
