def inR (x : Int32) (m : Nat) : Prop := 0 ≤ x.toInt ∧ x.toInt < (m : Int)
theorem inR_dec (x : Int32) (m : Nat) : inR x m ∨ ¬ inR x m := Classical.em _
theorem inR_of {x : Int32} {m : Nat} (h : inR x m) (hm : m < 2 ^ 31) : ∃ j, j < m ∧ x = nI j := vp_in_of (vp_in_iff.mpr h) hm
theorem inR_nI {j m : Nat} (hj : j < 2 ^ 31) : inR (nI j) m ↔ j < m := by
  unfold inR; rw [nI_toInt hj]; omega
def bR (x : Int32) (m : Nat) : Bool := decide (0 ≤ x.toInt) && decide (x.toInt < (m : Int))
theorem bR_true {x : Int32} {m : Nat} : bR x m = true ↔ inR x m := by unfold bR inR; simp
theorem bR_false {x : Int32} {m : Nat} : bR x m = false ↔ ¬ inR x m := by rw [← bR_true]; cases bR x m <;> simp
theorem in_raw {x : Int32} {m : Nat} (hm : m < 2 ^ 31) : (decide (lN 0 ≤ x.toInt64) && decide (x.toInt64 ≤ lN m)) = bR x (m + 1) := by
  have e1 : lN 0 ≤ x.toInt64 ↔ 0 ≤ x.toInt := by rw [fa_le64, Int32.toInt_toInt64, lN_toInt (by decide)]; rfl
  have e2 : x.toInt64 ≤ lN m ↔ x.toInt < ((m + 1 : Nat) : Int) := by rw [fa_le64, Int32.toInt_toInt64, lN_toInt hm]; omega
  unfold bR
  rw [decide_eq_decide.mpr e1, decide_eq_decide.mpr e2]
theorem in_raw2 {x : Int32} {l m : Nat} (hl : l < 2 ^ 31) (hm : m < 2 ^ 31) : (decide (lN l ≤ x.toInt64) && decide (x.toInt64 ≤ lN m)) = decide ((l : Int) ≤ x.toInt ∧ x.toInt ≤ (m : Int)) := by
  have e1 : lN l ≤ x.toInt64 ↔ (l : Int) ≤ x.toInt := by rw [fa_le64, Int32.toInt_toInt64, lN_toInt hl]
  have e2 : x.toInt64 ≤ lN m ↔ x.toInt ≤ (m : Int) := by rw [fa_le64, Int32.toInt_toInt64, lN_toInt hm]
  rw [decide_eq_decide.mpr e1, decide_eq_decide.mpr e2, ← Bool.decide_and]
section ZM10
variable {G : zG} {n : Nat} {h0 : zF} {a : Nat} {I : Nat → Nat} {A : Nat → Nat → Nat} {B : Nat → Nat} {h : zF}
theorem c_inR (x : Int32) {m : Nat} (hm : m < 2 ^ 31) : zI G MX8_in 0 [.long x.toInt64, .long (lN 0), .long (lN m)] h n (nI (bR x (m + 1)).toNat) := by
  have := c_in (G := G) (n := n) (h := h) x.toInt64 (lN 0) (lN m)
  rwa [in_raw hm] at this
theorem c_writeM {x : Int32} (hl : I 0 ≤ 200) : zPi G MX8_write 1 [.ref a, .int x] (mH h0 a I A B) n (fun v h' => (¬ ((32 : Int) ≤ x.toInt ∧ x.toInt ≤ 126) ∧ v = -1 ∧ h' = mH h0 a I A B) ∨ (((32 : Int) ≤ x.toInt ∧ x.toInt ≤ 126) ∧ I 0 = 200 ∧ v = -3 ∧ h' = mH h0 a I A B) ∨ (I 0 < 200 ∧ ∃ c, (32 ≤ c ∧ c ≤ 126) ∧ x = nI c ∧ v = nI (I 0 + 1) ∧ h' = mH h0 a (va_up I 0 (I 0 + 1)) (va_up A 1 (va_up (A 1) (I 0) c)) B)) := by
  refine zCt.of rfl (Nat.le_of_ble_eq_true rfl) rfl ?_
  refine x_iload_n dX8_write_0 rfl ?_
  refine x_i2l dX8_write_1 rfl ?_
  refine x_ldc2 (v := lN 32) dX8_write_2 coX8_105 ?_
  refine x_ldc2 (v := lN 126) dX8_write_5 coX8_107 ?_
  refine x_cSi3 dX8_write_8 lkX8_109 mdX8_in stX8_in (by decide) (c_in _ _ _) (Nat.le_of_ble_eq_true rfl) ⟨Nat.le_refl _, Nat.le_refl _⟩ ?_
  rw [in_raw2 (by decide) (by decide)]
  refine b_if_ne (tgt := 16) dX8_write_11 (by decide) (fun c1 => ?_) (fun c1 => ?_)
  · have c1 := of_decide_eq_true c1
    refine x_aload_n dX8_write_16 rfl ?_
    refine x_getf dX8_write_17 flX8_113 mH_a rfl ?_
    refine x_sipush (v := nI 200) dX8_write_20 (by decide) ?_
    refine n_icmp_ne (tgt := 29) dX8_write_23 (by decide) (by omega) (by omega) (fun c2 => ?_) (fun c2 => ?_)
    · obtain ⟨c, hc, rfl⟩ : ∃ c, c < 127 ∧ x = nI c := inR_of (m := 127) ⟨by omega, by omega⟩ (by decide)
      rw [nI_toInt (by omega)] at c1
      refine x_aload_n dX8_write_29 rfl ?_
      refine x_getf dX8_write_30 flX8_7 mH_a rfl ?_
      refine x_aload_n dX8_write_33 rfl ?_
      refine x_getf dX8_write_34 flX8_113 mH_a rfl ?_
      refine x_iload_n dX8_write_37 rfl ?_
      refine m_iast dX8_write_38 rfl (by simp only [mLen]; omega) (by decide) ?_
      refine x_aload_n dX8_write_39 rfl ?_
      refine x_dup dX8_write_40 rfl ?_
      refine x_getf dX8_write_41 flX8_113 mH_a rfl ?_
      refine x_iconst (v := nI 1) dX8_write_44 (by decide) ?_
      refine n_iadd dX8_write_45 ?_
      refine m_put dX8_write_46 flX8_113 ftX8_0 (by simp [mFs]) rfl ?_
      refine x_aload_n dX8_write_49 rfl ?_
      refine x_getf (v := .int (nI (I 0 + 1))) dX8_write_50 flX8_113 mH_a rfl ?_
      refine x_iret dX8_write_53 rfl rfl ⟨Nat.le_refl _, Nat.le_refl _⟩ ?_
      exact ⟨_, rfl, Or.inr (Or.inr ⟨by omega, c, by omega, rfl, rfl, rfl⟩), rfl⟩
    · refine x_bipush (v := -3) dX8_write_26 (by decide) ?_
      refine x_iret dX8_write_28 rfl rfl ⟨Nat.le_refl _, Nat.le_refl _⟩ ?_
      exact ⟨_, rfl, Or.inr (Or.inl ⟨c1, c2, rfl, rfl⟩), rfl⟩
  · have c1 := of_decide_eq_false c1
    refine x_iconst (v := -1) dX8_write_14 (by decide) ?_
    refine x_iret dX8_write_15 rfl rfl ⟨Nat.le_refl _, Nat.le_refl _⟩ ?_
    exact ⟨_, rfl, Or.inl ⟨c1, rfl, rfl⟩, rfl⟩
theorem c_wipeM : zPi G MX8_wipe 0 [.ref a] (mH h0 a I A B) n (fun v h' => v = nI (I 0) ∧ h' = mH h0 a (va_up I 0 0) A B) := by
  refine zCt.of rfl (Nat.le_of_ble_eq_true rfl) rfl ?_
  refine x_aload_n dX8_wipe_0 rfl ?_
  refine x_getf dX8_wipe_1 flX8_113 mH_a rfl ?_
  refine x_is1 dX8_wipe_4 (by decide) rfl ?_
  refine x_aload_n dX8_wipe_5 rfl ?_
  refine x_iconst (v := nI 0) dX8_wipe_6 (by decide) ?_
  refine m_put dX8_wipe_7 flX8_113 ftX8_0 (by simp [mFs]) rfl ?_
  refine x_iload_n dX8_wipe_10 rfl ?_
  refine x_iret dX8_wipe_11 rfl rfl ⟨Nat.le_refl _, Nat.le_refl _⟩ ?_
  exact ⟨_, rfl, ⟨rfl, rfl⟩, rfl⟩
theorem c_isThing {x : Int32} (h1 : 1 ≤ A 2 0) (h2 : A 2 0 ≤ 8) : zI G MX8_isThing 1 [.ref a, .int x] (mH h0 a I A B) n (nI (bR x (A 2 0)).toNat) := by
  refine zCt.of rfl (Nat.le_of_ble_eq_true rfl) rfl ?_
  refine x_iload_n dX8_isThing_0 rfl ?_
  refine x_i2l dX8_isThing_1 rfl ?_
  refine x_lconst (v := lN 0) dX8_isThing_2 (by decide) ?_
  refine x_aload_n dX8_isThing_3 rfl ?_
  refine x_getf dX8_isThing_4 flX8_13 mH_a rfl ?_
  refine x_iconst (v := nI 0) dX8_isThing_7 (by decide) ?_
  refine m_iald dX8_isThing_8 rfl (by simp only [mLen]; omega) (by decide) ?_
  refine x_iconst (v := nI 1) dX8_isThing_9 (by decide) ?_
  refine n_isub dX8_isThing_10 (by omega) ?_
  refine n_i2l dX8_isThing_11 (by omega) ?_
  refine x_cSi3 dX8_isThing_12 lkX8_109 mdX8_in stX8_in (by decide) (c_inR x (by omega)) (Nat.le_of_ble_eq_true rfl) ⟨Nat.le_refl _, Nat.le_refl _⟩ ?_
  refine x_iret dX8_isThing_15 rfl (nar_b _) ⟨Nat.le_refl _, Nat.le_refl _⟩ ?_
  exact ⟨by rw [show A 2 0 - 1 + 1 = A 2 0 by omega], rfl, rfl⟩
theorem c_isParcel {x : Int32} (h1 : 1 ≤ A 7 0) (h2 : A 7 0 ≤ 4) : zI G MX8_isParcel 1 [.ref a, .int x] (mH h0 a I A B) n (nI (bR x (A 7 0)).toNat) := by
  refine zCt.of rfl (Nat.le_of_ble_eq_true rfl) rfl ?_
  refine x_iload_n dX8_isParcel_0 rfl ?_
  refine x_i2l dX8_isParcel_1 rfl ?_
  refine x_lconst (v := lN 0) dX8_isParcel_2 (by decide) ?_
  refine x_aload_n dX8_isParcel_3 rfl ?_
  refine x_getf dX8_isParcel_4 flX8_28 mH_a rfl ?_
  refine x_iconst (v := nI 0) dX8_isParcel_7 (by decide) ?_
  refine m_iald dX8_isParcel_8 rfl (by simp only [mLen]; omega) (by decide) ?_
  refine x_iconst (v := nI 1) dX8_isParcel_9 (by decide) ?_
  refine n_isub dX8_isParcel_10 (by omega) ?_
  refine n_i2l dX8_isParcel_11 (by omega) ?_
  refine x_cSi3 dX8_isParcel_12 lkX8_109 mdX8_in stX8_in (by decide) (c_inR x (by omega)) (Nat.le_of_ble_eq_true rfl) ⟨Nat.le_refl _, Nat.le_refl _⟩ ?_
  refine x_iret dX8_isParcel_15 rfl (nar_b _) ⟨Nat.le_refl _, Nat.le_refl _⟩ ?_
  exact ⟨by rw [show A 7 0 - 1 + 1 = A 7 0 by omega], rfl, rfl⟩
/-- the last parcel that has a thing -/
def pIn (S : Nat → Nat) (t : Nat) : Nat → Int32
  | 0 => -4
  | p + 1 => if (S p).testBit t then nI p else pIn S t p
def sThing (A : Nat → Nat → Nat) (t : Nat) : Nat → Int32
  | 0 => nI (A 3 t)
  | 1 => nI (A 4 t)
  | 2 => nI (A 5 t)
  | 3 => nI (A 6 t)
  | _ => pIn (A 17) t (A 7 0)
def fThing (A : Nat → Nat → Nat) (t what : Int32) : Int32 := if bR t (A 2 0) && bR what 5 then sThing A t.toNatClampNeg what.toNatClampNeg else -1
theorem c_thingM {x y : Int32} (h1 : 1 ≤ A 2 0) (h2 : A 2 0 ≤ 8) (h7 : A 7 0 ≤ 4) : zI G MX8_thing 2 [.ref a, .int x, .int y] (mH h0 a I A B) n (fThing A x y) := by
  refine zCt.of rfl (Nat.le_of_ble_eq_true rfl) rfl ?_
  refine x_aload_n dX8_thing_0 rfl ?_
  refine x_iload_n dX8_thing_1 rfl ?_
  refine x_cVi1 dX8_thing_2 lkX8_184 mdX8_isThing isX8_isThing rfl rfl mH_a (by decide) (c_isThing h1 h2) (Nat.le_of_ble_eq_true rfl) ⟨Nat.le_refl _, Nat.le_refl _⟩ ?_
  refine b_if_eq (tgt := 20) dX8_thing_5 (by decide) (fun c1 => ?_) (fun c1 => ?_)
  · refine x_iconst (v := -1) dX8_thing_20 (by decide) ?_
    refine x_iret dX8_thing_21 rfl rfl ⟨Nat.le_refl _, Nat.le_refl _⟩ ?_
    exact ⟨by unfold fThing; rw [c1]; rfl, rfl, rfl⟩
  · refine x_iload_n dX8_thing_8 rfl ?_
    refine x_i2l dX8_thing_9 rfl ?_
    refine x_lconst (v := lN 0) dX8_thing_10 (by decide) ?_
    refine x_ldc2 (v := lN 4) dX8_thing_11 coX8_187 ?_
    refine x_cSi3 dX8_thing_14 lkX8_109 mdX8_in stX8_in (by decide) (c_inR y (by decide)) (Nat.le_of_ble_eq_true rfl) ⟨Nat.le_refl _, Nat.le_refl _⟩ ?_
    refine b_if_ne (tgt := 22) dX8_thing_17 (by decide) (fun c2 => ?_) (fun c2 => ?_)
    · have c2 : bR y 5 = true := c2
      obtain ⟨t, ht, rfl⟩ := inR_of (bR_true.mp c1) (by omega)
      obtain ⟨w, hw, rfl⟩ := inR_of (bR_true.mp c2) (by decide)
      have ef : fThing A (nI t) (nI w) = sThing A t w := by
        unfold fThing; rw [c1, c2, nI_clamp (by omega), nI_clamp (by omega)]; rfl
      refine x_bipush (v := -4) dX8_thing_22 (by decide) ?_
      refine x_is3 dX8_thing_24 (by decide) rfl ?_
      refine x_iconst (v := nI 0) dX8_thing_25 (by decide) ?_
      refine x_is4 dX8_thing_26 (by decide) rfl ?_
      refine z_up (A 7 0) (P := fun p => zEx G MX8_thing 2 0 0 28 [some (.ref a), some (.int (nI t)), some (.int (nI w)), some (.int (pIn (A 17) t p)), some (.int (nI p))] [] (mH h0 a I A B) n (0, 0) _) ?_ 0 (Nat.zero_le _)
      intro p hp ih
      refine x_iload dX8_thing_28 rfl ?_
      refine x_aload_n dX8_thing_30 rfl ?_
      refine x_getf dX8_thing_31 flX8_28 mH_a rfl ?_
      refine x_iconst (v := nI 0) dX8_thing_34 (by decide) ?_
      refine m_iald dX8_thing_35 rfl (by simp only [mLen]; omega) (by decide) ?_
      refine n_icmp_ge (tgt := 66) dX8_thing_36 (by decide) (by omega) (by omega) (fun hc => ?_) (fun hc => ?_)
      · rw [show p = A 7 0 by omega]
        refine x_iload_n dX8_thing_66 rfl ?_
        refine n_if_ne (tgt := 79) dX8_thing_67 (by decide) (by omega) (fun k0 => ?_) (fun k0 => ?_)
        · refine x_iload_n dX8_thing_79 rfl ?_
          refine x_iconst (v := nI 1) dX8_thing_80 (by decide) ?_
          refine n_icmp_ne (tgt := 93) dX8_thing_81 (by decide) (by omega) (by omega) (fun k1 => ?_) (fun k1 => ?_)
          · refine x_iload_n dX8_thing_93 rfl ?_
            refine x_iconst (v := nI 2) dX8_thing_94 (by decide) ?_
            refine n_icmp_ne (tgt := 107) dX8_thing_95 (by decide) (by omega) (by omega) (fun k2 => ?_) (fun k2 => ?_)
            · refine x_iload_n dX8_thing_107 rfl ?_
              refine x_iconst (v := nI 3) dX8_thing_108 (by decide) ?_
              refine n_icmp_ne (tgt := 121) dX8_thing_109 (by decide) (by omega) (by omega) (fun k3 => ?_) (fun k3 => ?_)
              · refine x_iload_n dX8_thing_121 rfl ?_
                refine x_iret dX8_thing_122 rfl rfl ⟨Nat.le_refl _, Nat.le_refl _⟩ ?_
                refine ⟨?_, rfl, rfl⟩
                rw [ef, show w = 4 by omega]; rfl
              · refine x_aload_n dX8_thing_112 rfl ?_
                refine x_getf dX8_thing_113 flX8_25 mH_a rfl ?_
                refine x_iload_n dX8_thing_116 rfl ?_
                refine m_iald dX8_thing_117 rfl (by simp only [mLen]; omega) (by decide) ?_
                refine x_goto (tgt := 122) dX8_thing_118 (by decide) ?_
                refine x_iret dX8_thing_122 rfl rfl ⟨Nat.le_refl _, Nat.le_refl _⟩ ?_
                exact ⟨by rw [ef, k3]; rfl, rfl, rfl⟩
            · refine x_aload_n dX8_thing_98 rfl ?_
              refine x_getf dX8_thing_99 flX8_22 mH_a rfl ?_
              refine x_iload_n dX8_thing_102 rfl ?_
              refine m_iald dX8_thing_103 rfl (by simp only [mLen]; omega) (by decide) ?_
              refine x_goto (tgt := 122) dX8_thing_104 (by decide) ?_
              refine x_iret dX8_thing_122 rfl rfl ⟨Nat.le_refl _, Nat.le_refl _⟩ ?_
              exact ⟨by rw [ef, k2]; rfl, rfl, rfl⟩
          · refine x_aload_n dX8_thing_84 rfl ?_
            refine x_getf dX8_thing_85 flX8_19 mH_a rfl ?_
            refine x_iload_n dX8_thing_88 rfl ?_
            refine m_iald dX8_thing_89 rfl (by simp only [mLen]; omega) (by decide) ?_
            refine x_goto (tgt := 122) dX8_thing_90 (by decide) ?_
            refine x_iret dX8_thing_122 rfl rfl ⟨Nat.le_refl _, Nat.le_refl _⟩ ?_
            exact ⟨by rw [ef, k1]; rfl, rfl, rfl⟩
        · refine x_aload_n dX8_thing_70 rfl ?_
          refine x_getf dX8_thing_71 flX8_16 mH_a rfl ?_
          refine x_iload_n dX8_thing_74 rfl ?_
          refine m_iald dX8_thing_75 rfl (by simp only [mLen]; omega) (by decide) ?_
          refine x_goto (tgt := 122) dX8_thing_76 (by decide) ?_
          refine x_iret dX8_thing_122 rfl rfl ⟨Nat.le_refl _, Nat.le_refl _⟩ ?_
          exact ⟨by rw [ef, k0]; rfl, rfl, rfl⟩
      · have ih := ih (by omega)
        simp only [pIn] at ih
        refine x_aload_n dX8_thing_39 rfl ?_
        refine x_getf dX8_thing_40 flX8_58 mH_a rfl ?_
        refine x_iload dX8_thing_43 rfl ?_
        refine m_iald dX8_thing_45 rfl (by simp only [mLen]; omega) (by decide) ?_
        refine x_iload_n dX8_thing_46 rfl ?_
        refine x_cSi2 dX8_thing_47 lkX8_151 mdX8_has stX8_has (by decide) (c_hasN _ (by omega)) (Nat.le_of_ble_eq_true rfl) ⟨Nat.le_refl _, Nat.le_refl _⟩ ?_
        refine b_if_eq (tgt := 58) dX8_thing_50 (by decide) (fun k0 => ?_) (fun k0 => ?_)
        · refine x_iload_n dX8_thing_58 rfl ?_
          refine x_is3 dX8_thing_59 (by decide) rfl ?_
          refine n_ii4 (w := 1) dX8_thing_60 (by decide) (by decide) rfl ?_
          refine x_goto (tgt := 28) dX8_thing_63 (by decide) ?_
          rw [k0] at ih
          exact ih
        · refine x_iload dX8_thing_53 rfl ?_
          refine x_goto (tgt := 59) dX8_thing_55 (by decide) ?_
          refine x_is3 dX8_thing_59 (by decide) rfl ?_
          refine n_ii4 (w := 1) dX8_thing_60 (by decide) (by decide) rfl ?_
          refine x_goto (tgt := 28) dX8_thing_63 (by decide) ?_
          rw [k0] at ih
          exact ih
    · have c2 : bR y 5 = false := c2
      refine x_iconst (v := -1) dX8_thing_20 (by decide) ?_
      refine x_iret dX8_thing_21 rfl rfl ⟨Nat.le_refl _, Nat.le_refl _⟩ ?_
      exact ⟨by unfold fThing; rw [c1, c2]; rfl, rfl, rfl⟩
def sParcel (A : Nat → Nat → Nat) (p : Nat) : Nat → Int32
  | 0 => nI (A 8 p)
  | 1 => nI (A 9 p)
  | 2 => nI (A 10 p)
  | 3 => nI (A 17 p)
  | _ => nI (A 17 (4 + p))
def fParcel (A : Nat → Nat → Nat) (p what : Int32) : Int32 := if bR p (A 7 0) && bR what 5 then sParcel A p.toNatClampNeg what.toNatClampNeg else -1
theorem c_parcelM {x y : Int32} (h1 : 1 ≤ A 7 0) (h2 : A 7 0 ≤ 4) : zI G MX8_parcel 2 [.ref a, .int x, .int y] (mH h0 a I A B) n (fParcel A x y) := by
  refine zCt.of rfl (Nat.le_of_ble_eq_true rfl) rfl ?_
  refine x_aload_n dX8_parcel_0 rfl ?_
  refine x_iload_n dX8_parcel_1 rfl ?_
  refine x_cVi1 dX8_parcel_2 lkX8_189 mdX8_isParcel isX8_isParcel rfl rfl mH_a (by decide) (c_isParcel h1 h2) (Nat.le_of_ble_eq_true rfl) ⟨Nat.le_refl _, Nat.le_refl _⟩ ?_
  refine b_if_eq (tgt := 20) dX8_parcel_5 (by decide) (fun c1 => ?_) (fun c1 => ?_)
  · refine x_iconst (v := -1) dX8_parcel_20 (by decide) ?_
    refine x_iret dX8_parcel_21 rfl rfl ⟨Nat.le_refl _, Nat.le_refl _⟩ ?_
    exact ⟨by unfold fParcel; rw [c1]; rfl, rfl, rfl⟩
  · refine x_iload_n dX8_parcel_8 rfl ?_
    refine x_i2l dX8_parcel_9 rfl ?_
    refine x_lconst (v := lN 0) dX8_parcel_10 (by decide) ?_
    refine x_ldc2 (v := lN 4) dX8_parcel_11 coX8_187 ?_
    refine x_cSi3 dX8_parcel_14 lkX8_109 mdX8_in stX8_in (by decide) (c_inR y (by decide)) (Nat.le_of_ble_eq_true rfl) ⟨Nat.le_refl _, Nat.le_refl _⟩ ?_
    refine b_if_ne (tgt := 22) dX8_parcel_17 (by decide) (fun c2 => ?_) (fun c2 => ?_)
    · have c2 : bR y 5 = true := c2
      obtain ⟨t, ht, rfl⟩ := inR_of (bR_true.mp c1) (by omega)
      obtain ⟨w, hw, rfl⟩ := inR_of (bR_true.mp c2) (by decide)
      have ef : fParcel A (nI t) (nI w) = sParcel A t w := by
        unfold fParcel; rw [c1, c2, nI_clamp (by omega), nI_clamp (by omega)]; rfl
      refine x_iload_n dX8_parcel_22 rfl ?_
      refine n_if_ne (tgt := 35) dX8_parcel_23 (by decide) (by omega) (fun k0 => ?_) (fun k0 => ?_)
      · refine x_iload_n dX8_parcel_35 rfl ?_
        refine x_iconst (v := nI 1) dX8_parcel_36 (by decide) ?_
        refine n_icmp_ne (tgt := 49) dX8_parcel_37 (by decide) (by omega) (by omega) (fun k1 => ?_) (fun k1 => ?_)
        · refine x_iload_n dX8_parcel_49 rfl ?_
          refine x_iconst (v := nI 2) dX8_parcel_50 (by decide) ?_
          refine n_icmp_ne (tgt := 63) dX8_parcel_51 (by decide) (by omega) (by omega) (fun k2 => ?_) (fun k2 => ?_)
          · refine x_iload_n dX8_parcel_63 rfl ?_
            refine x_iconst (v := nI 3) dX8_parcel_64 (by decide) ?_
            refine n_icmp_ne (tgt := 77) dX8_parcel_65 (by decide) (by omega) (by omega) (fun k3 => ?_) (fun k3 => ?_)
            · refine x_aload_n dX8_parcel_77 rfl ?_
              refine x_getf dX8_parcel_78 flX8_58 mH_a rfl ?_
              refine x_iconst (v := nI 4) dX8_parcel_81 (by decide) ?_
              refine x_iload_n dX8_parcel_82 rfl ?_
              refine n_iadd dX8_parcel_83 ?_
              refine m_iald dX8_parcel_84 rfl (by simp only [mLen]; omega) (by decide) ?_
              refine x_iret dX8_parcel_85 rfl rfl ⟨Nat.le_refl _, Nat.le_refl _⟩ ?_
              refine ⟨?_, rfl, rfl⟩
              rw [ef, show w = 4 by omega]; rfl
            · refine x_aload_n dX8_parcel_68 rfl ?_
              refine x_getf dX8_parcel_69 flX8_58 mH_a rfl ?_
              refine x_iload_n dX8_parcel_72 rfl ?_
              refine m_iald dX8_parcel_73 rfl (by simp only [mLen]; omega) (by decide) ?_
              refine x_goto (tgt := 85) dX8_parcel_74 (by decide) ?_
              refine x_iret dX8_parcel_85 rfl rfl ⟨Nat.le_refl _, Nat.le_refl _⟩ ?_
              exact ⟨by rw [ef, k3]; rfl, rfl, rfl⟩
          · refine x_aload_n dX8_parcel_54 rfl ?_
            refine x_getf dX8_parcel_55 flX8_37 mH_a rfl ?_
            refine x_iload_n dX8_parcel_58 rfl ?_
            refine m_iald dX8_parcel_59 rfl (by simp only [mLen]; omega) (by decide) ?_
            refine x_goto (tgt := 85) dX8_parcel_60 (by decide) ?_
            refine x_iret dX8_parcel_85 rfl rfl ⟨Nat.le_refl _, Nat.le_refl _⟩ ?_
            exact ⟨by rw [ef, k2]; rfl, rfl, rfl⟩
        · refine x_aload_n dX8_parcel_40 rfl ?_
          refine x_getf dX8_parcel_41 flX8_34 mH_a rfl ?_
          refine x_iload_n dX8_parcel_44 rfl ?_
          refine m_iald dX8_parcel_45 rfl (by simp only [mLen]; omega) (by decide) ?_
          refine x_goto (tgt := 85) dX8_parcel_46 (by decide) ?_
          refine x_iret dX8_parcel_85 rfl rfl ⟨Nat.le_refl _, Nat.le_refl _⟩ ?_
          exact ⟨by rw [ef, k1]; rfl, rfl, rfl⟩
      · refine x_aload_n dX8_parcel_26 rfl ?_
        refine x_getf dX8_parcel_27 flX8_31 mH_a rfl ?_
        refine x_iload_n dX8_parcel_30 rfl ?_
        refine m_iald dX8_parcel_31 rfl (by simp only [mLen]; omega) (by decide) ?_
        refine x_goto (tgt := 85) dX8_parcel_32 (by decide) ?_
        refine x_iret dX8_parcel_85 rfl rfl ⟨Nat.le_refl _, Nat.le_refl _⟩ ?_
        exact ⟨by rw [ef, k0]; rfl, rfl, rfl⟩
    · have c2 : bR y 5 = false := c2
      refine x_iconst (v := -1) dX8_parcel_20 (by decide) ?_
      refine x_iret dX8_parcel_21 rfl rfl ⟨Nat.le_refl _, Nat.le_refl _⟩ ?_
      exact ⟨by unfold fParcel; rw [c1, c2]; rfl, rfl, rfl⟩
def fWorld (I : Nat → Nat) (A : Nat → Nat → Nat) (w p : Int32) : Int32 := if w < 0 ∨ bR p (A 7 0) = false then -1 else if w.toNatClampNeg < I 17 then nI (sI (A 16 w.toNatClampNeg) p.toNatClampNeg) else -4
theorem c_worldM {x y : Int32} (h1 : 1 ≤ A 7 0) (h2 : A 7 0 ≤ 4) (h17 : I 17 ≤ 5040) : zI G MX8_world 2 [.ref a, .int x, .int y] (mH h0 a I A B) n (fWorld I A x y) := by
  refine zCt.of rfl (Nat.le_of_ble_eq_true rfl) rfl ?_
  refine x_iload_n dX8_world_0 rfl ?_
  refine x_if_lt (tgt := 12) dX8_world_1 (by decide) (fun c1 => ?_) (fun c1 => ?_)
  · refine x_iconst (v := -1) dX8_world_12 (by decide) ?_
    refine x_goto (tgt := 39) dX8_world_13 (by decide) ?_
    refine x_iret dX8_world_39 rfl rfl ⟨Nat.le_refl _, Nat.le_refl _⟩ ?_
    exact ⟨by unfold fWorld; rw [if_pos (Or.inl c1)], rfl, rfl⟩
  · refine x_aload_n dX8_world_4 rfl ?_
    refine x_iload_n dX8_world_5 rfl ?_
    refine x_cVi1 dX8_world_6 lkX8_189 mdX8_isParcel isX8_isParcel rfl rfl mH_a (by decide) (c_isParcel h1 h2) (Nat.le_of_ble_eq_true rfl) ⟨Nat.le_refl _, Nat.le_refl _⟩ ?_
    refine b_if_ne (tgt := 16) dX8_world_9 (by decide) (fun c2 => ?_) (fun c2 => ?_)
    · obtain ⟨p, hp, rfl⟩ := inR_of (bR_true.mp c2) (by omega)
      obtain ⟨w, hw, rfl⟩ := nI_of c1
      have ef : fWorld I A (nI w) (nI p) = if w < I 17 then nI (sI (A 16 w) p) else -4 := by
        unfold fWorld; rw [if_neg (by rw [c2]; simp [c1]), nI_clamp hw, nI_clamp (by omega)]
      refine x_iload_n dX8_world_16 rfl ?_
      refine x_aload_n dX8_world_17 rfl ?_
      refine x_getf dX8_world_18 flX8_172 mH_a rfl ?_
      refine n_icmp_ge (tgt := 37) dX8_world_21 (by decide) (by omega) (by omega) (fun c3 => ?_) (fun c3 => ?_)
      · refine x_bipush (v := -4) dX8_world_37 (by decide) ?_
        refine x_iret dX8_world_39 rfl rfl ⟨Nat.le_refl _, Nat.le_refl _⟩ ?_
        exact ⟨by rw [ef, if_neg (by omega)], rfl, rfl⟩
      · refine x_aload_n dX8_world_24 rfl ?_
        refine x_getf dX8_world_25 flX8_55 mH_a rfl ?_
        refine x_iload_n dX8_world_28 rfl ?_
        refine m_iald dX8_world_29 rfl (by simp only [mLen]; omega) (by decide) ?_
        refine x_iload_n dX8_world_30 rfl ?_
        refine x_cSi2 dX8_world_31 lkX8_192 mdX8_setIn stX8_setIn (by decide) (c_setIn _ (by omega)) (Nat.le_of_ble_eq_true rfl) ⟨Nat.le_refl _, Nat.le_refl _⟩ ?_
        refine x_goto (tgt := 39) dX8_world_34 (by decide) ?_
        refine x_iret dX8_world_39 rfl rfl ⟨Nat.le_refl _, Nat.le_refl _⟩ ?_
        exact ⟨by rw [ef, if_pos (by omega)], rfl, rfl⟩
    · refine x_iconst (v := -1) dX8_world_12 (by decide) ?_
      refine x_goto (tgt := 39) dX8_world_13 (by decide) ?_
      refine x_iret dX8_world_39 rfl rfl ⟨Nat.le_refl _, Nat.le_refl _⟩ ?_
      exact ⟨by unfold fWorld; rw [if_pos (Or.inr c2)], rfl, rfl⟩
/-- the answer of a trial -/
def ansF (A : Nat → Nat → Nat) (p sort s f : Nat) : Nat := match sort with
  | 0 => (wOf A p s + f) / A 11 0
  | 1 => (if 0 < mnOf A s 2 then 2 else 0) + (if 0 < mnOf A s 1 then 1 else 0)
  | 2 => pop s - mnOf A s 0
  | _ => if pop s = mnOf A s 0 then 1 else 0
theorem mnOf_le (A : Nat → Nat → Nat) (s kd : Nat) : mnOf A s kd ≤ A 2 0 := by
  have := zsum_le (f := fun t => if s.testBit t ∧ A 4 t = kd then 1 else 0) (m := 1) (A 2 0) 0 (fun t _ => by show (if _ then 1 else 0) ≤ 1; split <;> omega)
  unfold mnOf; omega
theorem wOf_le {A : Nat → Nat → Nat} {p s : Nat} (h2 : A 2 0 ≤ 8) (h3 : ∀ t, t < A 2 0 → A 3 t ≤ 20) : wOf A p s ≤ A 8 p + 160 := by
  have := zsum_le (f := fun t => if s.testBit t then A 3 t else 0) (m := 20) (A 2 0) (A 8 p) (fun t ht => by have := h3 t ht; show (if s.testBit t then A 3 t else 0) ≤ 20; split <;> omega)
  unfold wOf; omega
theorem pop_bits : ∀ s, s < 256 → pop s = zsum 0 (fun t => if s.testBit t then 1 else 0) 8 := by decide +kernel
theorem zsum_mono {f g : Nat → Nat} : ∀ (N : Nat), (∀ t, t < N → f t ≤ g t) → zsum 0 f N ≤ zsum 0 g N
  | 0, _ => Nat.le_refl _
  | N + 1, h => by
    have h1 := zsum_mono N (fun t ht => h t (by omega))
    have h2 := h N (by omega)
    show zsum 0 f N + f N ≤ zsum 0 g N + g N
    omega
theorem zsum_ext (b : Nat) (f : Nat → Nat) : ∀ (d N : Nat), zsum b f N ≤ zsum b f (N + d)
  | 0, N => Nat.le_refl _
  | d + 1, N => by
    have := zsum_ext b f d N
    show _ ≤ zsum b f (N + d) + f (N + d)
    omega
theorem mnOf_pop {A : Nat → Nat → Nat} {s kd : Nat} (h2 : A 2 0 ≤ 8) (hs : s < 256) : mnOf A s kd ≤ pop s := by
  rw [pop_bits s hs]
  unfold mnOf
  have h1 := zsum_mono (f := fun t => if s.testBit t ∧ A 4 t = kd then 1 else 0) (g := fun t => if s.testBit t then 1 else 0) (A 2 0) (fun t _ => by
    show (if s.testBit t ∧ A 4 t = kd then 1 else 0) ≤ (if s.testBit t then 1 else 0)
    by_cases hb : s.testBit t = true <;> simp [hb] <;> split <;> omega)
  have h3 := zsum_ext 0 (fun t => if s.testBit t then 1 else 0) (8 - A 2 0) (A 2 0)
  rw [show A 2 0 + (8 - A 2 0) = 8 by omega] at h3
  exact Nat.le_trans h1 h3
/-- the tree alone -/
def tR (T : zT) : Prop := T 2 0 ≤ 8 ∧ T 7 0 ≤ 4 ∧ (∀ t, t < T 2 0 → (1 ≤ T 3 t ∧ T 3 t ≤ 20) ∧ T 4 t < 4 ∧ T 5 t ≤ 9 ∧ (1 ≤ T 6 t ∧ T 6 t ≤ 9)) ∧ (∀ p, p < T 7 0 → T 8 p ≤ 9 ∧ T 9 p ≤ 1 ∧ (1 ≤ T 10 p ∧ T 10 p ≤ 2)) ∧ (1 ≤ T 11 0 ∧ T 11 0 ≤ 9) ∧ T 12 0 ≤ 40 ∧ (∀ k, k < 4 → T 13 k ≤ 9 ∧ (1 ≤ T 14 k ∧ T 14 k ≤ 60))
theorem c_answerOf {p sort s f : Nat} (hk : tR A) (hp : p < A 7 0) (hso : sort < 4) (hs : s < 256) (hf : f < 100) : zI G MX8_answerOf 2 [.ref a, .int (nI p), .int (nI sort), .int (nI s), .int (nI f)] (mH h0 a I A B) n (nI (ansF A p sort s f)) := by
  refine zCt.of rfl (Nat.le_of_ble_eq_true rfl) rfl ?_
  obtain ⟨k2, k7, k3, k4, k5, k6, k8⟩ := hk
  have hw := wOf_le (p := p) (s := s) k2 (fun t ht => (k3 t ht).1.2)
  have hbx := (k4 p hp).1
  have hkd : ∀ t, t < A 2 0 → A 4 t < 4 := fun t ht => (k3 t ht).2.1
  have m0 := mnOf_le A s 0
  have m1 := mnOf_le A s 1
  have m2 := mnOf_le A s 2
  have hpp := mnOf_pop (kd := 0) k2 hs
  have hpl := pop_lt s hs
  refine x_iload_n dX8_answerOf_0 rfl ?_
  rcases (show sort = 0 ∨ sort = 1 ∨ sort = 2 ∨ sort = 3 by omega) with rfl | rfl | rfl | rfl
  · refine n_tsw (off := 27) (tgt := 28) dX8_answerOf_1 (by decide) (by decide +kernel) (by decide) ?_
    refine x_aload_n dX8_answerOf_28 rfl ?_
    refine x_iload_n dX8_answerOf_29 rfl ?_
    refine x_iload_n dX8_answerOf_30 rfl ?_
    refine x_cVi2 dX8_answerOf_31 lkX8_195 mdX8_weightOf isX8_weightOf rfl rfl mH_a (by decide) (c_weightOf s (by omega) k2) (Nat.le_of_ble_eq_true rfl) ⟨Nat.le_refl _, Nat.le_refl _⟩ ?_
    refine x_iload dX8_answerOf_34 rfl ?_
    refine n_iadd dX8_answerOf_36 ?_
    refine x_aload_n dX8_answerOf_37 rfl ?_
    refine x_getf dX8_answerOf_38 flX8_40 mH_a rfl ?_
    refine x_iconst (v := nI 0) dX8_answerOf_41 (by decide) ?_
    refine m_iald dX8_answerOf_42 rfl (by simp only [mLen]; omega) (by decide) ?_
    refine n_idiv dX8_answerOf_43 (by omega) (by omega) (by omega) ?_
    refine x_iret dX8_answerOf_44 rfl rfl ⟨Nat.le_refl _, Nat.le_refl _⟩ ?_
    exact ⟨rfl, rfl, rfl⟩
  · refine n_tsw (off := 44) (tgt := 45) dX8_answerOf_1 (by decide) (by decide +kernel) (by decide) ?_
    refine x_aload_n dX8_answerOf_45 rfl ?_
    refine x_iload_n dX8_answerOf_46 rfl ?_
    refine x_iconst (v := nI 2) dX8_answerOf_47 (by decide) ?_
    refine x_cVi2 dX8_answerOf_48 lkX8_198 mdX8_manyOf isX8_manyOf rfl rfl mH_a (by decide) (c_manyOf s (by decide) k2 hkd) (Nat.le_of_ble_eq_true rfl) ⟨Nat.le_refl _, Nat.le_refl _⟩ ?_
    have K59 : ∀ x : Nat, x = (if 0 < mnOf A s 2 then 2 else 0) → zEx G MX8_answerOf 2 0 0 59 [some (.ref a), some (.int (nI p)), some (.int (nI 1)), some (.int (nI s)), some (.int (nI f))] [.int (nI x)] (mH h0 a I A B) n (0, 0) (fun r h' n' => r = some (.int (nI (ansF A p 1 s f))) ∧ h' = mH h0 a I A B ∧ n' = n) := by
      intro x hx
      refine x_aload_n dX8_answerOf_59 rfl ?_
      refine x_iload_n dX8_answerOf_60 rfl ?_
      refine x_iconst (v := nI 1) dX8_answerOf_61 (by decide) ?_
      refine x_cVi2 dX8_answerOf_62 lkX8_198 mdX8_manyOf isX8_manyOf rfl rfl mH_a (by decide) (c_manyOf s (by decide) k2 hkd) (Nat.le_of_ble_eq_true rfl) ⟨Nat.le_refl _, Nat.le_refl _⟩ ?_
      refine x_if_le (tgt := 72) dX8_answerOf_65 (by decide) (fun c1 => ?_) (fun c1 => ?_)
      · have c1 : ¬ 0 < mnOf A s 1 := fun q => nI_nle q (by omega) c1
        refine x_iconst (v := nI 0) dX8_answerOf_72 (by decide) ?_
        refine n_iadd dX8_answerOf_73 ?_
        refine x_iret dX8_answerOf_74 rfl rfl ⟨Nat.le_refl _, Nat.le_refl _⟩ ?_
        exact ⟨by rw [ansF, hx, if_neg c1], rfl, rfl⟩
      · have c1 : 0 < mnOf A s 1 := Nat.pos_of_ne_zero (fun q => c1 (by rw [q]; decide))
        refine x_iconst (v := nI 1) dX8_answerOf_68 (by decide) ?_
        refine x_goto (tgt := 73) dX8_answerOf_69 (by decide) ?_
        refine n_iadd dX8_answerOf_73 ?_
        refine x_iret dX8_answerOf_74 rfl rfl ⟨Nat.le_refl _, Nat.le_refl _⟩ ?_
        exact ⟨by rw [ansF, hx, if_pos c1], rfl, rfl⟩
    refine x_if_le (tgt := 58) dX8_answerOf_51 (by decide) (fun c1 => ?_) (fun c1 => ?_)
    · have c1 : ¬ 0 < mnOf A s 2 := fun q => nI_nle q (by omega) c1
      refine x_iconst (v := nI 0) dX8_answerOf_58 (by decide) ?_
      exact K59 0 (by rw [if_neg c1])
    · have c1 : 0 < mnOf A s 2 := Nat.pos_of_ne_zero (fun q => c1 (by rw [q]; decide))
      refine x_iconst (v := nI 2) dX8_answerOf_54 (by decide) ?_
      refine x_goto (tgt := 59) dX8_answerOf_55 (by decide) ?_
      exact K59 2 (by rw [if_pos c1])
  · refine n_tsw (off := 74) (tgt := 75) dX8_answerOf_1 (by decide) (by decide +kernel) (by decide) ?_
    refine x_iload_n dX8_answerOf_75 rfl ?_
    refine x_cSi1 dX8_answerOf_76 lkX8_159 mdX8_bits stX8_bits (by decide) (c_bits hs) (Nat.le_of_ble_eq_true rfl) ⟨Nat.le_refl _, Nat.le_refl _⟩ ?_
    refine x_aload_n dX8_answerOf_79 rfl ?_
    refine x_iload_n dX8_answerOf_80 rfl ?_
    refine x_iconst (v := nI 0) dX8_answerOf_81 (by decide) ?_
    refine x_cVi2 dX8_answerOf_82 lkX8_198 mdX8_manyOf isX8_manyOf rfl rfl mH_a (by decide) (c_manyOf s (by decide) k2 hkd) (Nat.le_of_ble_eq_true rfl) ⟨Nat.le_refl _, Nat.le_refl _⟩ ?_
    refine n_isub dX8_answerOf_85 (by omega) ?_
    refine x_iret dX8_answerOf_86 rfl rfl ⟨Nat.le_refl _, Nat.le_refl _⟩ ?_
    exact ⟨rfl, rfl, rfl⟩
  · refine n_tsw (off := 86) (tgt := 87) dX8_answerOf_1 (by decide) (by decide +kernel) (by decide) ?_
    refine x_iload_n dX8_answerOf_87 rfl ?_
    refine x_cSi1 dX8_answerOf_88 lkX8_159 mdX8_bits stX8_bits (by decide) (c_bits hs) (Nat.le_of_ble_eq_true rfl) ⟨Nat.le_refl _, Nat.le_refl _⟩ ?_
    refine x_aload_n dX8_answerOf_91 rfl ?_
    refine x_iload_n dX8_answerOf_92 rfl ?_
    refine x_iconst (v := nI 0) dX8_answerOf_93 (by decide) ?_
    refine x_cVi2 dX8_answerOf_94 lkX8_198 mdX8_manyOf isX8_manyOf rfl rfl mH_a (by decide) (c_manyOf s (by decide) k2 hkd) (Nat.le_of_ble_eq_true rfl) ⟨Nat.le_refl _, Nat.le_refl _⟩ ?_
    refine n_icmp_ne (tgt := 104) dX8_answerOf_97 (by decide) (by omega) (by omega) (fun c1 => ?_) (fun c1 => ?_)
    · refine x_iconst (v := nI 0) dX8_answerOf_104 (by decide) ?_
      refine x_iret dX8_answerOf_105 rfl rfl ⟨Nat.le_refl _, Nat.le_refl _⟩ ?_
      exact ⟨by rw [ansF, if_neg c1] <;> simp, rfl, rfl⟩
    · refine x_iconst (v := nI 1) dX8_answerOf_100 (by decide) ?_
      refine x_goto (tgt := 105) dX8_answerOf_101 (by decide) ?_
      refine x_iret dX8_answerOf_105 rfl rfl ⟨Nat.le_refl _, Nat.le_refl _⟩ ?_
      exact ⟨by rw [ansF, if_pos c1] <;> simp, rfl, rfl⟩
def fAnswer (A : Nat → Nat → Nat) (p sort set : Int32) : Int32 := if bR p (A 7 0) && bR sort 4 && bR set (2 ^ A 2 0) then nI (ansF A p.toNatClampNeg sort.toNatClampNeg set.toNatClampNeg 0) else -1
theorem c_answerM {x y z : Int32} (hk : tR A) (h1 : 1 ≤ A 7 0) : zI G MX8_answer 3 [.ref a, .int x, .int y, .int z] (mH h0 a I A B) n (fAnswer A x y z) := by
  refine zCt.of rfl (Nat.le_of_ble_eq_true rfl) rfl ?_
  have k2 := hk.1
  have k7 := hk.2.1
  have hpow : 2 ^ A 2 0 ≤ 256 := (Nat.pow_le_pow_right (by decide) k2 : 2 ^ A 2 0 ≤ 2 ^ 8)
  have hpow1 : 1 ≤ 2 ^ A 2 0 := Nat.one_le_two_pow
  refine x_aload_n dX8_answer_0 rfl ?_
  refine x_iload_n dX8_answer_1 rfl ?_
  refine x_cVi1 dX8_answer_2 lkX8_189 mdX8_isParcel isX8_isParcel rfl rfl mH_a (by decide) (c_isParcel h1 k7) (Nat.le_of_ble_eq_true rfl) ⟨Nat.le_refl _, Nat.le_refl _⟩ ?_
  refine b_if_eq (tgt := 51) dX8_answer_5 (by decide) (fun c1 => ?_) (fun c1 => ?_)
  · refine x_iconst (v := -1) dX8_answer_51 (by decide) ?_
    refine x_iret dX8_answer_52 rfl rfl ⟨Nat.le_refl _, Nat.le_refl _⟩ ?_
    exact ⟨by unfold fAnswer; rw [c1]; rfl, rfl, rfl⟩
  · refine x_iload_n dX8_answer_8 rfl ?_
    refine x_i2l dX8_answer_9 rfl ?_
    refine x_lconst (v := lN 0) dX8_answer_10 (by decide) ?_
    refine x_ldc2 (v := lN 3) dX8_answer_11 coX8_201 ?_
    refine x_cSi3 dX8_answer_14 lkX8_109 mdX8_in stX8_in (by decide) (c_inR y (by decide)) (Nat.le_of_ble_eq_true rfl) ⟨Nat.le_refl _, Nat.le_refl _⟩ ?_
    refine b_if_eq (tgt := 51) dX8_answer_17 (by decide) (fun c2 => ?_) (fun c2 => ?_)
    · have c2 : bR y 4 = false := c2
      refine x_iconst (v := -1) dX8_answer_51 (by decide) ?_
      refine x_iret dX8_answer_52 rfl rfl ⟨Nat.le_refl _, Nat.le_refl _⟩ ?_
      exact ⟨by unfold fAnswer; rw [c1, c2]; rfl, rfl, rfl⟩
    · have c2 : bR y 4 = true := c2
      refine x_iload_n dX8_answer_20 rfl ?_
      refine x_i2l dX8_answer_21 rfl ?_
      refine x_lconst (v := lN 0) dX8_answer_22 (by decide) ?_
      refine x_iconst (v := nI 1) dX8_answer_23 (by decide) ?_
      refine x_aload_n dX8_answer_24 rfl ?_
      refine x_getf dX8_answer_25 flX8_13 mH_a rfl ?_
      refine x_iconst (v := nI 0) dX8_answer_28 (by decide) ?_
      refine m_iald dX8_answer_29 rfl (by simp only [mLen]; omega) (by decide) ?_
      refine n_ishl dX8_answer_30 (by omega) ?_
      refine x_iconst (v := nI 1) dX8_answer_31 (by decide) ?_
      refine n_isub dX8_answer_32 (by omega) ?_
      refine n_i2l dX8_answer_33 (by omega) ?_
      refine x_cSi3 dX8_answer_34 lkX8_109 mdX8_in stX8_in (by decide) (c_inR z (by omega)) (Nat.le_of_ble_eq_true rfl) ⟨Nat.le_refl _, Nat.le_refl _⟩ ?_
      rw [show 1 * 2 ^ A 2 0 - 1 + 1 = 2 ^ A 2 0 by omega]
      refine b_if_eq (tgt := 51) dX8_answer_37 (by decide) (fun c3 => ?_) (fun c3 => ?_)
      · refine x_iconst (v := -1) dX8_answer_51 (by decide) ?_
        refine x_iret dX8_answer_52 rfl rfl ⟨Nat.le_refl _, Nat.le_refl _⟩ ?_
        exact ⟨by unfold fAnswer; rw [c1, c2, c3]; rfl, rfl, rfl⟩
      · obtain ⟨p, hp, rfl⟩ := inR_of (bR_true.mp c1) (by omega)
        obtain ⟨q, hq, rfl⟩ := inR_of (bR_true.mp c2) (by decide)
        obtain ⟨s, hs, rfl⟩ := inR_of (bR_true.mp c3) (by omega)
        refine x_aload_n dX8_answer_40 rfl ?_
        refine x_iload_n dX8_answer_41 rfl ?_
        refine x_iload_n dX8_answer_42 rfl ?_
        refine x_iload_n dX8_answer_43 rfl ?_
        refine x_iconst (v := nI 0) dX8_answer_44 (by decide) ?_
        refine x_cVi4 dX8_answer_45 lkX8_203 mdX8_answerOf isX8_answerOf rfl rfl mH_a (by decide) (c_answerOf hk hp hq (by omega) (by decide)) (Nat.le_of_ble_eq_true rfl) ⟨Nat.le_refl _, Nat.le_refl _⟩ ?_
        refine x_goto (tgt := 52) dX8_answer_48 (by decide) ?_
        refine x_iret dX8_answer_52 rfl rfl ⟨Nat.le_refl _, Nat.le_refl _⟩ ?_
        exact ⟨by unfold fAnswer; rw [c1, c2, c3, nI_clamp (by omega), nI_clamp (by omega), nI_clamp (by omega)]; rfl, rfl, rfl⟩
end ZM10
