section ZM3
variable {G : zG} {n : Nat} {h0 : zF} {a : Nat} {I : Nat → Nat} {A : Nat → Nat → Nat} {B : Nat → Nat}
theorem c_inN {h : zF} {v lo hi : Nat} (h1 : v < 2 ^ 31) (h2 : lo < 2 ^ 31) (h3 : hi < 2 ^ 31) : zI G MX8_in 0 [.long (lN v), .long (lN lo), .long (lN hi)] h n (nI (decide (lo ≤ v ∧ v ≤ hi)).toNat) := by
  have := c_in (G := G) (n := n) (h := h) (lN v) (lN lo) (lN hi)
  simp only [lN_le h2 h1, lN_le h1 h3] at this
  rwa [Bool.decide_and]
def noT (A : Nat → Nat → Nat) (b i : Nat) : Nat → Nat → Nat := fun k j => if k = 2 ∨ k = 7 then (if j = b then 0 else A k j) else if k = 11 then (if j = b then 1 else A k j) else if k = 12 then (if j = b then 40 else A k j) else if k = 13 then (if 4 * b ≤ j ∧ j < 4 * b + i then 0 else A k j) else if k = 14 then (if 4 * b ≤ j ∧ j < 4 * b + i then 10 else A k j) else A k j
theorem c_noTree {b : Nat} (hb : b < 2) : zPv G MX8_noTree 0 [.ref a, .int (nI b)] (mH h0 a I A B) n (fun h' => h' = mH h0 a I (noT A b 4) B) := by
  refine zCt.of rfl (Nat.le_of_ble_eq_true rfl) rfl ?_
  refine x_aload_n dX8_noTree_0 rfl ?_
  refine x_getf dX8_noTree_1 flX8_13 mH_a rfl ?_
  refine x_iload_n dX8_noTree_4 rfl ?_
  refine x_iconst (v := nI 0) dX8_noTree_5 (by decide) ?_
  refine m_iast dX8_noTree_6 rfl (by simp only [mLen]; omega) (by decide) ?_
  refine x_aload_n dX8_noTree_7 rfl ?_
  refine x_getf dX8_noTree_8 flX8_28 mH_a rfl ?_
  refine x_iload_n dX8_noTree_11 rfl ?_
  refine x_iconst (v := nI 0) dX8_noTree_12 (by decide) ?_
  refine m_iast dX8_noTree_13 rfl (by simp only [mLen]; omega) (by decide) ?_
  refine x_aload_n dX8_noTree_14 rfl ?_
  refine x_getf dX8_noTree_15 flX8_40 mH_a rfl ?_
  refine x_iload_n dX8_noTree_18 rfl ?_
  refine x_iconst (v := nI 1) dX8_noTree_19 (by decide) ?_
  refine m_iast dX8_noTree_20 rfl (by simp only [mLen]; omega) (by decide) ?_
  refine x_aload_n dX8_noTree_21 rfl ?_
  refine x_getf dX8_noTree_22 flX8_43 mH_a rfl ?_
  refine x_iload_n dX8_noTree_25 rfl ?_
  refine x_bipush (v := nI 40) dX8_noTree_26 (by decide) ?_
  refine m_iast dX8_noTree_28 rfl (by simp only [mLen]; omega) (by decide) ?_
  refine x_iconst (v := nI 0) dX8_noTree_29 (by decide) ?_
  refine x_is2 dX8_noTree_30 (by decide) rfl ?_
  refine x_eqA (A' := noT A b 0) (by funext k j; simp only [va_up, ite_app, noT]; grind) ?_
  refine z_up 4 (P := fun i => zEx G MX8_noTree 0 0 0 31 [some (.ref a), some (.int (nI b)), some (.int (nI i))] [] (mH h0 a I (noT A b i) B) n (0, 0) _) ?_ 0 (by decide)
  intro i hi ih
  refine x_iload_n dX8_noTree_31 rfl ?_
  refine x_iconst (v := nI 4) dX8_noTree_32 (by decide) ?_
  refine n_icmp_ge (tgt := 65) dX8_noTree_33 (by decide) (by omega) (by omega) (fun hc => ?_) (fun hc => ?_)
  · refine x_vret dX8_noTree_65 rfl ⟨Nat.le_refl _, Nat.le_refl _⟩ ?_
    exact ⟨rfl, by rw [show i = 4 by omega], rfl⟩
  · refine x_aload_n dX8_noTree_36 rfl ?_
    refine x_getf dX8_noTree_37 flX8_46 mH_a rfl ?_
    refine x_iconst (v := nI 4) dX8_noTree_40 (by decide) ?_
    refine x_iload_n dX8_noTree_41 rfl ?_
    refine n_imul dX8_noTree_42 ?_
    refine x_iload_n dX8_noTree_43 rfl ?_
    refine n_iadd dX8_noTree_44 ?_
    refine x_iconst (v := nI 0) dX8_noTree_45 (by decide) ?_
    refine m_iast dX8_noTree_46 rfl (by simp only [mLen]; omega) (by decide) ?_
    refine x_aload_n dX8_noTree_47 rfl ?_
    refine x_getf dX8_noTree_48 flX8_49 mH_a rfl ?_
    refine x_iconst (v := nI 4) dX8_noTree_51 (by decide) ?_
    refine x_iload_n dX8_noTree_52 rfl ?_
    refine n_imul dX8_noTree_53 ?_
    refine x_iload_n dX8_noTree_54 rfl ?_
    refine n_iadd dX8_noTree_55 ?_
    refine x_bipush (v := nI 10) dX8_noTree_56 (by decide) ?_
    refine m_iast dX8_noTree_58 rfl (by simp only [mLen]; omega) (by decide) ?_
    refine n_ii2 (w := 1) dX8_noTree_59 (by decide) (by decide) rfl ?_
    refine x_goto (tgt := 31) dX8_noTree_62 (by decide) ?_
    exact x_eqA (by funext k j; simp only [va_up, ite_app, noT]; grind) (ih (by omega))
def adT (A : Nat → Nat → Nat) (b w kd v c : Nat) : Nat → Nat → Nat := fun k j => if k = 2 then (if j = b then A 2 b + 1 else A k j) else if j = 8 * b + A 2 b then (if k = 3 then w else if k = 4 then kd else if k = 5 then v else if k = 6 then c else A k j) else A k j
theorem c_addThing {b w kd v c : Nat} (hb : b < 2) (hm : A 2 b < 8) : zPv G MX8_addThing 0 [.ref a, .int (nI b), .int (nI w), .int (nI kd), .int (nI v), .int (nI c)] (mH h0 a I A B) n (fun h' => h' = mH h0 a I (adT A b w kd v c) B) := by
  refine zCt.of rfl (Nat.le_of_ble_eq_true rfl) rfl ?_
  refine x_bipush (v := nI 8) dX8_addThing_0 (by decide) ?_
  refine x_iload_n dX8_addThing_2 rfl ?_
  refine n_imul dX8_addThing_3 ?_
  refine x_aload_n dX8_addThing_4 rfl ?_
  refine x_getf dX8_addThing_5 flX8_13 mH_a rfl ?_
  refine x_iload_n dX8_addThing_8 rfl ?_
  refine m_iald dX8_addThing_9 rfl (by simp only [mLen]; omega) (by decide) ?_
  refine n_iadd dX8_addThing_10 ?_
  refine x_is6 dX8_addThing_11 (by decide) rfl ?_
  refine x_aload_n dX8_addThing_13 rfl ?_
  refine x_getf dX8_addThing_14 flX8_16 mH_a rfl ?_
  refine x_iload dX8_addThing_17 rfl ?_
  refine x_iload_n dX8_addThing_19 rfl ?_
  refine m_iast dX8_addThing_20 rfl (by simp only [mLen]; omega) (by decide) ?_
  refine x_aload_n dX8_addThing_21 rfl ?_
  refine x_getf dX8_addThing_22 flX8_19 mH_a rfl ?_
  refine x_iload dX8_addThing_25 rfl ?_
  refine x_iload_n dX8_addThing_27 rfl ?_
  refine m_iast dX8_addThing_28 rfl (by simp only [mLen]; omega) (by decide) ?_
  refine x_aload_n dX8_addThing_29 rfl ?_
  refine x_getf dX8_addThing_30 flX8_22 mH_a rfl ?_
  refine x_iload dX8_addThing_33 rfl ?_
  refine x_iload dX8_addThing_35 rfl ?_
  refine m_iast dX8_addThing_37 rfl (by simp only [mLen]; omega) (by decide) ?_
  refine x_aload_n dX8_addThing_38 rfl ?_
  refine x_getf dX8_addThing_39 flX8_25 mH_a rfl ?_
  refine x_iload dX8_addThing_42 rfl ?_
  refine x_iload dX8_addThing_44 rfl ?_
  refine m_iast dX8_addThing_46 rfl (by simp only [mLen]; omega) (by decide) ?_
  refine x_aload_n dX8_addThing_47 rfl ?_
  refine x_getf dX8_addThing_48 flX8_13 mH_a rfl ?_
  refine x_iload_n dX8_addThing_51 rfl ?_
  refine x_dup2_11 dX8_addThing_52 rfl rfl ?_
  refine m_iald dX8_addThing_53 rfl (by simp only [mLen]; omega) (by decide) ?_
  refine x_iconst (v := nI 1) dX8_addThing_54 (by decide) ?_
  refine n_iadd dX8_addThing_55 ?_
  refine m_iast dX8_addThing_56 rfl (by simp only [mLen]; omega) (by decide) ?_
  refine x_vret dX8_addThing_57 rfl ⟨Nat.le_refl _, Nat.le_refl _⟩ ?_
  refine ⟨rfl, ?_, rfl⟩
  congr 1
  funext k j; simp only [va_up, ite_app, adT]; grind
def adP (A : Nat → Nat → Nat) (b x o z : Nat) : Nat → Nat → Nat := fun k j => if k = 7 then (if j = b then A 7 b + 1 else A k j) else if j = 4 * b + A 7 b then (if k = 8 then x else if k = 9 then o else if k = 10 then z else A k j) else A k j
theorem c_addParcel {b x o z : Nat} (hb : b < 2) (hm : A 7 b < 4) : zPv G MX8_addParcel 0 [.ref a, .int (nI b), .int (nI x), .int (nI o), .int (nI z)] (mH h0 a I A B) n (fun h' => h' = mH h0 a I (adP A b x o z) B) := by
  refine zCt.of rfl (Nat.le_of_ble_eq_true rfl) rfl ?_
  refine x_iconst (v := nI 4) dX8_addParcel_0 (by decide) ?_
  refine x_iload_n dX8_addParcel_1 rfl ?_
  refine n_imul dX8_addParcel_2 ?_
  refine x_aload_n dX8_addParcel_3 rfl ?_
  refine x_getf dX8_addParcel_4 flX8_28 mH_a rfl ?_
  refine x_iload_n dX8_addParcel_7 rfl ?_
  refine m_iald dX8_addParcel_8 rfl (by simp only [mLen]; omega) (by decide) ?_
  refine n_iadd dX8_addParcel_9 ?_
  refine x_is5 dX8_addParcel_10 (by decide) rfl ?_
  refine x_aload_n dX8_addParcel_12 rfl ?_
  refine x_getf dX8_addParcel_13 flX8_31 mH_a rfl ?_
  refine x_iload dX8_addParcel_16 rfl ?_
  refine x_iload_n dX8_addParcel_18 rfl ?_
  refine m_iast dX8_addParcel_19 rfl (by simp only [mLen]; omega) (by decide) ?_
  refine x_aload_n dX8_addParcel_20 rfl ?_
  refine x_getf dX8_addParcel_21 flX8_34 mH_a rfl ?_
  refine x_iload dX8_addParcel_24 rfl ?_
  refine x_iload_n dX8_addParcel_26 rfl ?_
  refine m_iast dX8_addParcel_27 rfl (by simp only [mLen]; omega) (by decide) ?_
  refine x_aload_n dX8_addParcel_28 rfl ?_
  refine x_getf dX8_addParcel_29 flX8_37 mH_a rfl ?_
  refine x_iload dX8_addParcel_32 rfl ?_
  refine x_iload dX8_addParcel_34 rfl ?_
  refine m_iast dX8_addParcel_36 rfl (by simp only [mLen]; omega) (by decide) ?_
  refine x_aload_n dX8_addParcel_37 rfl ?_
  refine x_getf dX8_addParcel_38 flX8_28 mH_a rfl ?_
  refine x_iload_n dX8_addParcel_41 rfl ?_
  refine x_dup2_11 dX8_addParcel_42 rfl rfl ?_
  refine m_iald dX8_addParcel_43 rfl (by simp only [mLen]; omega) (by decide) ?_
  refine x_iconst (v := nI 1) dX8_addParcel_44 (by decide) ?_
  refine n_iadd dX8_addParcel_45 ?_
  refine m_iast dX8_addParcel_46 rfl (by simp only [mLen]; omega) (by decide) ?_
  refine x_vret dX8_addParcel_47 rfl ⟨Nat.le_refl _, Nat.le_refl _⟩ ?_
  refine ⟨rfl, ?_, rfl⟩
  congr 1
  funext k j; simp only [va_up, ite_app, adP]; grind
/-- the letter at a place, 0 behind the text -/
def ltr (I : Nat → Nat) (A : Nat → Nat → Nat) (j : Nat) : Nat := if j < I 0 then A 1 j else 0
theorem c_letterAt {j : Nat} (hj : j < 2 ^ 31) (hl : I 0 ≤ 200) : zI G MX8_letterAt 0 [.ref a, .int (nI j)] (mH h0 a I A B) n (nI (ltr I A j)) := by
  refine zCt.of rfl (Nat.le_of_ble_eq_true rfl) rfl ?_
  refine x_iload_n dX8_letterAt_0 rfl ?_
  refine x_aload_n dX8_letterAt_1 rfl ?_
  refine x_getf dX8_letterAt_2 flX8_113 mH_a rfl ?_
  refine n_icmp_ge (tgt := 17) dX8_letterAt_5 (by decide) (by omega) (by omega) (fun hc => ?_) (fun hc => ?_)
  · refine x_iconst (v := nI 0) dX8_letterAt_17 (by decide) ?_
    refine x_iret dX8_letterAt_18 rfl rfl ⟨Nat.le_refl _, Nat.le_refl _⟩ ?_
    exact ⟨by rw [ltr, if_neg (by omega)], rfl, rfl⟩
  · refine x_aload_n dX8_letterAt_8 rfl ?_
    refine x_getf dX8_letterAt_9 flX8_7 mH_a rfl ?_
    refine x_iload_n dX8_letterAt_12 rfl ?_
    refine m_iald dX8_letterAt_13 rfl (by simp only [mLen]; omega) (by decide) ?_
    refine x_goto (tgt := 18) dX8_letterAt_14 (by decide) ?_
    refine x_iret dX8_letterAt_18 rfl rfl ⟨Nat.le_refl _, Nat.le_refl _⟩ ?_
    exact ⟨by rw [ltr, if_pos (by omega)], rfl, rfl⟩
theorem c_isThingTold (h1 : A 2 1 < 2 ^ 31) (ht : ∀ j, A 20 j < 1000) : zI G MX8_isThingTold 1 [.ref a] (mH h0 a I A B) n (nI (decide (A 2 1 < 8 ∧ (1 ≤ A 20 0 ∧ A 20 0 ≤ 20) ∧ A 20 1 < 4 ∧ A 20 2 < 10 ∧ 1 ≤ A 20 3 ∧ A 20 3 ≤ 9)).toNat) := by
  refine zCt.of rfl (Nat.le_of_ble_eq_true rfl) rfl ?_
  have t0 := ht 0
  have t1 := ht 1
  have t2 := ht 2
  have t3 := ht 3
  refine x_aload_n dX8_isThingTold_0 rfl ?_
  refine x_getf dX8_isThingTold_1 flX8_13 mH_a rfl ?_
  refine x_iconst (v := nI 1) dX8_isThingTold_4 (by decide) ?_
  refine m_iald dX8_isThingTold_5 rfl (by simp only [mLen]; omega) (by decide) ?_
  refine x_bipush (v := nI 8) dX8_isThingTold_6 (by decide) ?_
  refine n_icmp_ge (tgt := 70) dX8_isThingTold_8 (by decide) (by omega) (by omega) (fun c1 => ?_) (fun c1 => ?_)
  · refine x_iconst (v := nI 0) dX8_isThingTold_70 (by decide) ?_
    refine x_iret dX8_isThingTold_71 rfl rfl ⟨Nat.le_refl _, Nat.le_refl _⟩ ?_
    exact ⟨by rw [decide_eq_false (by omega)]; rfl, rfl, rfl⟩
  · refine x_aload_n dX8_isThingTold_11 rfl ?_
    refine x_getf dX8_isThingTold_12 flX8_67 mH_a rfl ?_
    refine x_iconst (v := nI 0) dX8_isThingTold_15 (by decide) ?_
    refine m_iald dX8_isThingTold_16 rfl (by simp only [mLen]; omega) (by decide) ?_
    refine n_i2l dX8_isThingTold_17 (by omega) ?_
    refine x_lconst (v := lN 1) dX8_isThingTold_18 (by decide) ?_
    refine x_ldc2 (v := lN 20) dX8_isThingTold_19 coX8_130 ?_
    refine x_cSi3 dX8_isThingTold_22 lkX8_109 mdX8_in stX8_in (by decide) (c_inN (by omega) (by decide) (by decide)) (Nat.le_of_ble_eq_true rfl) ⟨Nat.le_refl _, Nat.le_refl _⟩ ?_
    refine b_if_eq (tgt := 70) dX8_isThingTold_25 (by decide) (fun c2 => ?_) (fun c2 => ?_)
    · refine x_iconst (v := nI 0) dX8_isThingTold_70 (by decide) ?_
      refine x_iret dX8_isThingTold_71 rfl rfl ⟨Nat.le_refl _, Nat.le_refl _⟩ ?_
      exact ⟨by rw [decide_eq_false (by simp only [decide_eq_false_iff_not] at c2; omega)]; rfl, rfl, rfl⟩
    · simp only [decide_eq_true_eq] at c2
      refine x_aload_n dX8_isThingTold_28 rfl ?_
      refine x_getf dX8_isThingTold_29 flX8_67 mH_a rfl ?_
      refine x_iconst (v := nI 1) dX8_isThingTold_32 (by decide) ?_
      refine m_iald dX8_isThingTold_33 rfl (by simp only [mLen]; omega) (by decide) ?_
      refine x_iconst (v := nI 4) dX8_isThingTold_34 (by decide) ?_
      refine n_icmp_ge (tgt := 70) dX8_isThingTold_35 (by decide) (by omega) (by omega) (fun c3 => ?_) (fun c3 => ?_)
      · refine x_iconst (v := nI 0) dX8_isThingTold_70 (by decide) ?_
        refine x_iret dX8_isThingTold_71 rfl rfl ⟨Nat.le_refl _, Nat.le_refl _⟩ ?_
        exact ⟨by rw [decide_eq_false (by omega)]; rfl, rfl, rfl⟩
      · refine x_aload_n dX8_isThingTold_38 rfl ?_
        refine x_getf dX8_isThingTold_39 flX8_67 mH_a rfl ?_
        refine x_iconst (v := nI 2) dX8_isThingTold_42 (by decide) ?_
        refine m_iald dX8_isThingTold_43 rfl (by simp only [mLen]; omega) (by decide) ?_
        refine x_bipush (v := nI 10) dX8_isThingTold_44 (by decide) ?_
        refine n_icmp_ge (tgt := 70) dX8_isThingTold_46 (by decide) (by omega) (by omega) (fun c4 => ?_) (fun c4 => ?_)
        · refine x_iconst (v := nI 0) dX8_isThingTold_70 (by decide) ?_
          refine x_iret dX8_isThingTold_71 rfl rfl ⟨Nat.le_refl _, Nat.le_refl _⟩ ?_
          exact ⟨by rw [decide_eq_false (by omega)]; rfl, rfl, rfl⟩
        · refine x_aload_n dX8_isThingTold_49 rfl ?_
          refine x_getf dX8_isThingTold_50 flX8_67 mH_a rfl ?_
          refine x_iconst (v := nI 3) dX8_isThingTold_53 (by decide) ?_
          refine m_iald dX8_isThingTold_54 rfl (by simp only [mLen]; omega) (by decide) ?_
          refine n_i2l dX8_isThingTold_55 (by omega) ?_
          refine x_lconst (v := lN 1) dX8_isThingTold_56 (by decide) ?_
          refine x_ldc2 (v := lN 9) dX8_isThingTold_57 coX8_132 ?_
          refine x_cSi3 dX8_isThingTold_60 lkX8_109 mdX8_in stX8_in (by decide) (c_inN (by omega) (by decide) (by decide)) (Nat.le_of_ble_eq_true rfl) ⟨Nat.le_refl _, Nat.le_refl _⟩ ?_
          refine b_if_eq (tgt := 70) dX8_isThingTold_63 (by decide) (fun c5 => ?_) (fun c5 => ?_)
          · refine x_iconst (v := nI 0) dX8_isThingTold_70 (by decide) ?_
            refine x_iret dX8_isThingTold_71 rfl rfl ⟨Nat.le_refl _, Nat.le_refl _⟩ ?_
            exact ⟨by rw [decide_eq_false (by simp only [decide_eq_false_iff_not] at c5; omega)]; rfl, rfl, rfl⟩
          · simp only [decide_eq_true_eq] at c5
            refine x_iconst (v := nI 1) dX8_isThingTold_66 (by decide) ?_
            refine x_goto (tgt := 71) dX8_isThingTold_67 (by decide) ?_
            refine x_iret dX8_isThingTold_71 rfl rfl ⟨Nat.le_refl _, Nat.le_refl _⟩ ?_
            exact ⟨by rw [decide_eq_true (by omega)]; rfl, rfl, rfl⟩
end ZM3
