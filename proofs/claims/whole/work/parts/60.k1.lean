section ZK1
variable {G : zG} {n : Nat} {h0 : zF} {L : zSh} {V : Nat → Nat → Nat} {c : Nat} {P J I : Nat → Nat} {X A : Nat → Nat → Nat}
/-- the class's heap behind a call -/
def kPo (h0 : zF) (L : zSh) (c : Nat) (P J : Nat → Nat) (X : Nat → Nat → Nat) (I : Nat → Nat) (A : Nat → Nat → Nat) (h' : zF) : Prop := ∃ V', h' = gH h0 L V' ∧ kV V' c P J X I A
theorem k_isThing {x : Int32} (hL : kL L c P) (hT : ∀ V, zTr (gH h0 L V) (P 0) J X) (hR : kTr J X A) : zI G MX7_isThing 1 [.ref c, .int x] (gH h0 L V) n (nI (bR x (A 2 0)).toNat) := by
  refine zCt.of rfl (Nat.le_of_ble_eq_true rfl) rfl ?_
  have hTb := fun V => (hT V).2.1
  have e24 : J 24 = A 2 0 := hR.1.1.1
  have k2 := hR.2.1.1
  refine x_iload_n dX7_isThing_0 rfl ?_
  refine x_aload_n dX7_isThing_1 rfl ?_
  refine x_getf dX7_isThing_2 flX7_19 (g_c (And.left hL)) rfl ?_
  refine x_getf dX7_isThing_5 flX7_112 (And.left (hT _)) rfl ?_
  refine x_getf dX7_isThing_8 flX7_167 (hTb _) rfl ?_
  rw [e24]
  refine x_cSi2 dX7_isThing_11 lkX7_170 mdX7_isBelow stX7_isBelow (by decide) (c_isBelow x (by omega)) (Nat.le_of_ble_eq_true rfl) ⟨Nat.le_refl _, Nat.le_refl _⟩ ?_
  refine x_iret dX7_isThing_14 rfl (nar_b _) ⟨Nat.le_refl _, Nat.le_refl _⟩ ?_
  exact ⟨rfl, rfl, rfl⟩
theorem k_isParcel {x : Int32} (hL : kL L c P) (hT : ∀ V, zTr (gH h0 L V) (P 0) J X) (hR : kTr J X A) : zI G MX7_isParcel 1 [.ref c, .int x] (gH h0 L V) n (nI (bR x (A 7 0)).toNat) := by
  refine zCt.of rfl (Nat.le_of_ble_eq_true rfl) rfl ?_
  have e4 : J 4 = A 7 0 := hR.1.1.2.1
  have k7 := hR.2.1.2.1
  refine x_iload_n dX7_isParcel_0 rfl ?_
  refine x_aload_n dX7_isParcel_1 rfl ?_
  refine x_getf dX7_isParcel_2 flX7_19 (g_c (And.left hL)) rfl ?_
  refine x_getf dX7_isParcel_5 flX7_287 (And.left (hT _)) rfl ?_
  rw [e4]
  refine x_cSi2 dX7_isParcel_8 lkX7_170 mdX7_isBelow stX7_isBelow (by decide) (c_isBelow x (by omega)) (Nat.le_of_ble_eq_true rfl) ⟨Nat.le_refl _, Nat.le_refl _⟩ ?_
  refine x_iret dX7_isParcel_11 rfl (nar_b _) ⟨Nat.le_refl _, Nat.le_refl _⟩ ?_
  exact ⟨rfl, rfl, rfl⟩
theorem pIn_of {S : Nat → Nat} {t p : Nat} : ∀ N, p < N → (S p).testBit t = true → (∀ q, q < N → q ≠ p → (S q).testBit t = false) → pIn S t N = nI p
  | 0, h, _, _ => absurd h (by omega)
  | N + 1, h, hb, ho => by
    unfold pIn
    by_cases e : p = N
    · subst e; rw [if_pos hb]
    · rw [if_neg (by rw [ho N (by omega) (Ne.symm e)]; decide)]
      exact pIn_of N (by omega) hb (fun q hq hn => ho q (by omega) hn)
theorem pIn_no {S : Nat → Nat} {t : Nat} : ∀ N, (∀ q, q < N → (S q).testBit t = false) → pIn S t N = -4
  | 0, _ => rfl
  | N + 1, h => by
    unfold pIn
    rw [if_neg (by rw [h N (by omega)]; decide)]
    exact pIn_no N (fun q hq => h q (by omega))
theorem and_pow {s t : Nat} : s &&& 1 * 2 ^ t = 0 ↔ s.testBit t = false := by
  rw [Nat.one_mul]
  constructor
  · intro h
    have := congrArg (fun z => z.testBit t) h
    simpa [Nat.testBit_and, Nat.testBit_two_pow] using this
  · intro h
    apply Nat.eq_of_testBit_eq
    intro i
    rw [Nat.testBit_and, Nat.testBit_two_pow, Nat.zero_testBit]
    by_cases e : t = i
    · subst e; rw [h]; rfl
    · simp [e]
theorem k_parcelWith {t : Nat} (hL : kL L c P) (hT : ∀ V, zTr (gH h0 L V) (P 0) J X) (hR : kTr J X A) (hN : kNw V c A) (ht : t < 8) : zI G MX7_parcelWith 1 [.ref c, .int (nI t)] (gH h0 L V) n (pIn (A 17) t (A 7 0)) := by
  refine zCt.of rfl (Nat.le_of_ble_eq_true rfl) rfl ?_
  have e4 : J 4 = A 7 0 := hR.1.1.2.1
  have k7 := hR.2.1.2.1
  have hS : zSc L (c + 44) := hL.2.2.2.2.2.2.1
  refine x_iconst (v := nI 0) dX7_parcelWith_0 (by decide) ?_
  refine x_is2 dX7_parcelWith_1 (by decide) rfl ?_
  refine z_up (A 7 0) (P := fun p => (∀ q, q < p → (A 17 q).testBit t = false) → zEx G MX7_parcelWith 1 0 0 2 [some (.ref c), some (.int (nI t)), some (.int (nI p))] [] (gH h0 L V) n (0, 0) _) ?_ 0 (Nat.zero_le _) (fun q hq => absurd hq (by omega))
  intro p hp ih hf
  refine x_iload_n dX7_parcelWith_2 rfl ?_
  refine x_aload_n dX7_parcelWith_3 rfl ?_
  refine x_getf dX7_parcelWith_4 flX7_19 (g_c (And.left hL)) rfl ?_
  refine x_getf dX7_parcelWith_7 flX7_287 (And.left (hT _)) rfl ?_
  rw [e4]
  refine n_icmp_ge (tgt := 39) dX7_parcelWith_10 (by decide) (by omega) (by omega) (fun c1 => ?_) (fun c1 => ?_)
  · refine x_bipush (v := -4) dX7_parcelWith_39 (by decide) ?_
    refine x_iret dX7_parcelWith_41 rfl rfl ⟨Nat.le_refl _, Nat.le_refl _⟩ ?_
    exact ⟨by rw [pIn_no _ (fun q hq => hf q (by omega))], rfl, rfl⟩
  · have es := (hN.1.2.1 p (by omega)).1
    have hsl : A 17 p < 256 := by rw [← es]; exact sI_lt _ _
    have hal : A 17 p &&& 1 * 2 ^ t ≤ A 17 p := Nat.and_le_left
    refine x_aload_n dX7_parcelWith_13 rfl ?_
    refine x_getf dX7_parcelWith_14 flX7_49 (g_c (And.left hL)) rfl ?_
    refine x_getf dX7_parcelWith_17 flX7_151 (g_c hS.1) rfl ?_
    refine x_iload_n dX7_parcelWith_20 rfl ?_
    refine x_cSi2 dX7_parcelWith_21 lkX7_154 mdX7_inside stX7_inside (by decide) (c_inside _ (by omega)) (Nat.le_of_ble_eq_true rfl) ⟨Nat.le_refl _, Nat.le_refl _⟩ ?_
    rw [es]
    refine x_iconst (v := nI 1) dX7_parcelWith_24 (by decide) ?_
    refine x_iload_n dX7_parcelWith_25 rfl ?_
    refine n_ishl dX7_parcelWith_26 (by omega) ?_
    refine n_iand dX7_parcelWith_27 ?_
    refine n_if_eq (tgt := 33) dX7_parcelWith_28 (by decide) (by omega) (fun c2 => ?_) (fun c2 => ?_)
    · have c2 := and_pow.mp c2
      refine n_ii2 (w := 1) dX7_parcelWith_33 (by decide) (by decide) rfl ?_
      refine x_goto (tgt := 2) dX7_parcelWith_36 (by decide) ?_
      refine ih (by omega) (fun q hq => ?_)
      by_cases e : q = p
      · subst e; exact c2
      · exact hf q (by omega)
    · have hb : (A 17 p).testBit t = true := by
        cases h : (A 17 p).testBit t with
        | true => rfl
        | false => exact absurd (and_pow.mpr h) c2
      refine x_iload_n dX7_parcelWith_31 rfl ?_
      refine x_iret dX7_parcelWith_32 rfl rfl ⟨Nat.le_refl _, Nat.le_refl _⟩ ?_
      refine ⟨?_, rfl, rfl⟩
      rw [pIn_of (p := p) (A 7 0) (by omega) hb]
      intro q hq hn
      have h0 := hN.2.2.2.1 p q (by omega) hq (Ne.symm hn)
      have := congrArg (fun z => z.testBit t) h0
      simp only [Nat.testBit_and, Nat.zero_testBit, hb, Bool.true_and] at this
      exact this
theorem k_thing {x y : Int32} (hL : kL L c P) (hT : ∀ V, zTr (gH h0 L V) (P 0) J X) (hV : kV V c P J X I A) : zI G MX7_thing 2 [.ref c, .int x, .int y] (gH h0 L V) n (fThing A x y) := by
  refine zCt.of rfl (Nat.le_of_ble_eq_true rfl) rfl ?_
  have hTb := fun V => (hT V).2.1
  have hR := hV.2.1
  have k2 := hR.2.1.1
  refine x_aload_n dX7_thing_0 rfl ?_
  refine x_iload_n dX7_thing_1 rfl ?_
  refine x_cVi1 dX7_thing_2 lkX7_109 mdX7_isThing isX7_isThing rfl rfl (g_c (And.left hL)) (by decide) (k_isThing hL hT hR) (Nat.le_of_ble_eq_true rfl) ⟨Nat.le_refl _, Nat.le_refl _⟩ ?_
  refine b_if_ne (tgt := 10) dX7_thing_5 (by decide) (fun c1 => ?_) (fun c1 => ?_)
  · obtain ⟨t, ht, rfl⟩ := inR_of (bR_true.mp c1) (by omega)
    have et := hR.1.2.1 t ht
    refine x_iload_n dX7_thing_10 rfl ?_
    by_cases c2 : bR y 5 = true
    · obtain ⟨w, hw, rfl⟩ := inR_of (bR_true.mp c2) (by decide)
      have ef : fThing A (nI t) (nI w) = sThing A t w := by unfold fThing; rw [c1, c2, nI_clamp (by omega), nI_clamp (by omega)]; rfl
      rw [ef]
      rcases (show w = 0 ∨ w = 1 ∨ w = 2 ∨ w = 3 ∨ w = 4 by omega) with rfl | rfl | rfl | rfl | rfl
      · refine n_tsw (off := 33) (tgt := 44) dX7_thing_11 (by decide) (by decide +kernel) (by decide) ?_
        refine x_aload_n dX7_thing_44 rfl ?_
        refine x_getf dX7_thing_45 flX7_19 (g_c (And.left hL)) rfl ?_
        refine x_getf dX7_thing_48 flX7_112 (And.left (hT _)) rfl ?_
        refine x_getf dX7_thing_51 flX7_116 (hTb _) rfl ?_
        refine x_iload_n dX7_thing_54 rfl ?_
        refine x_cSi2 dX7_thing_55 lkX7_122 mdX7_at stX7_at (by decide) (c_atN ((hT _).2.2 2 (by decide) (by decide)) (by decide) (by simp only [tLen]; omega)) (Nat.le_of_ble_eq_true rfl) ⟨Nat.le_refl _, Nat.le_refl _⟩ ?_
        refine x_iret dX7_thing_58 rfl rfl ⟨Nat.le_refl _, Nat.le_refl _⟩ ?_
        exact ⟨by rw [et.1]; rfl, rfl, rfl⟩
      · refine n_tsw (off := 48) (tgt := 59) dX7_thing_11 (by decide) (by decide +kernel) (by decide) ?_
        refine x_aload_n dX7_thing_59 rfl ?_
        refine x_getf dX7_thing_60 flX7_19 (g_c (And.left hL)) rfl ?_
        refine x_getf dX7_thing_63 flX7_112 (And.left (hT _)) rfl ?_
        refine x_getf dX7_thing_66 flX7_126 (hTb _) rfl ?_
        refine x_iload_n dX7_thing_69 rfl ?_
        refine x_cSi2 dX7_thing_70 lkX7_122 mdX7_at stX7_at (by decide) (c_atN ((hT _).2.2 3 (by decide) (by decide)) (by decide) (by simp only [tLen]; omega)) (Nat.le_of_ble_eq_true rfl) ⟨Nat.le_refl _, Nat.le_refl _⟩ ?_
        refine x_iret dX7_thing_73 rfl rfl ⟨Nat.le_refl _, Nat.le_refl _⟩ ?_
        exact ⟨by rw [et.2.1]; rfl, rfl, rfl⟩
      · refine n_tsw (off := 63) (tgt := 74) dX7_thing_11 (by decide) (by decide +kernel) (by decide) ?_
        refine x_aload_n dX7_thing_74 rfl ?_
        refine x_getf dX7_thing_75 flX7_19 (g_c (And.left hL)) rfl ?_
        refine x_getf dX7_thing_78 flX7_112 (And.left (hT _)) rfl ?_
        refine x_getf dX7_thing_81 flX7_129 (hTb _) rfl ?_
        refine x_iload_n dX7_thing_84 rfl ?_
        refine x_cSi2 dX7_thing_85 lkX7_122 mdX7_at stX7_at (by decide) (c_atN ((hT _).2.2 4 (by decide) (by decide)) (by decide) (by simp only [tLen]; omega)) (Nat.le_of_ble_eq_true rfl) ⟨Nat.le_refl _, Nat.le_refl _⟩ ?_
        refine x_iret dX7_thing_88 rfl rfl ⟨Nat.le_refl _, Nat.le_refl _⟩ ?_
        exact ⟨by rw [et.2.2.1]; rfl, rfl, rfl⟩
      · refine n_tsw (off := 78) (tgt := 89) dX7_thing_11 (by decide) (by decide +kernel) (by decide) ?_
        refine x_aload_n dX7_thing_89 rfl ?_
        refine x_getf dX7_thing_90 flX7_19 (g_c (And.left hL)) rfl ?_
        refine x_getf dX7_thing_93 flX7_112 (And.left (hT _)) rfl ?_
        refine x_getf dX7_thing_96 flX7_132 (hTb _) rfl ?_
        refine x_iload_n dX7_thing_99 rfl ?_
        refine x_cSi2 dX7_thing_100 lkX7_122 mdX7_at stX7_at (by decide) (c_atN ((hT _).2.2 5 (by decide) (by decide)) (by decide) (by simp only [tLen]; omega)) (Nat.le_of_ble_eq_true rfl) ⟨Nat.le_refl _, Nat.le_refl _⟩ ?_
        refine x_iret dX7_thing_103 rfl rfl ⟨Nat.le_refl _, Nat.le_refl _⟩ ?_
        exact ⟨by rw [et.2.2.2]; rfl, rfl, rfl⟩
      · refine n_tsw (off := 93) (tgt := 104) dX7_thing_11 (by decide) (by decide +kernel) (by decide) ?_
        refine x_aload_n dX7_thing_104 rfl ?_
        refine x_iload_n dX7_thing_105 rfl ?_
        refine x_cVi1 dX7_thing_106 lkX7_135 mdX7_parcelWith isX7_parcelWith rfl rfl (g_c (And.left hL)) (by decide) (k_parcelWith hL hT hR hV.2.2.2.1 (by omega)) (Nat.le_of_ble_eq_true rfl) ⟨Nat.le_refl _, Nat.le_refl _⟩ ?_
        refine x_iret dX7_thing_109 rfl rfl ⟨Nat.le_refl _, Nat.le_refl _⟩ ?_
        exact ⟨rfl, rfl, rfl⟩
    · have hno : ¬ inR y 5 := fun z => c2 (bR_true.mpr z)
      refine x_tsw (off := 99) (tgt := 110) dX7_thing_11 (by unfold zsw; rw [if_pos (by unfold inR at hno; omega)]) (by decide) ?_
      refine x_iconst (v := -1) dX7_thing_110 (by decide) ?_
      refine x_iret dX7_thing_111 rfl rfl ⟨Nat.le_refl _, Nat.le_refl _⟩ ?_
      exact ⟨by unfold fThing; rw [if_neg (by rw [Bool.and_eq_true]; exact fun z => c2 z.2)], rfl, rfl⟩
  · refine x_iconst (v := -1) dX7_thing_8 (by decide) ?_
    refine x_iret dX7_thing_9 rfl rfl ⟨Nat.le_refl _, Nat.le_refl _⟩ ?_
    exact ⟨by unfold fThing; rw [c1]; rfl, rfl, rfl⟩
theorem k_parcel {x y : Int32} (hL : kL L c P) (hT : ∀ V, zTr (gH h0 L V) (P 0) J X) (hV : kV V c P J X I A) : zI G MX7_parcel 2 [.ref c, .int x, .int y] (gH h0 L V) n (fParcel A x y) := by
  refine zCt.of rfl (Nat.le_of_ble_eq_true rfl) rfl ?_
  have hTb := fun V => (hT V).2.1
  have hR := hV.2.1
  have k7 := hR.2.1.2.1
  have hS : zSc L (c + 44) := hL.2.2.2.2.2.2.1
  refine x_aload_n dX7_parcel_0 rfl ?_
  refine x_iload_n dX7_parcel_1 rfl ?_
  refine x_cVi1 dX7_parcel_2 lkX7_139 mdX7_isParcel isX7_isParcel rfl rfl (g_c (And.left hL)) (by decide) (k_isParcel hL hT hR) (Nat.le_of_ble_eq_true rfl) ⟨Nat.le_refl _, Nat.le_refl _⟩ ?_
  refine b_if_ne (tgt := 10) dX7_parcel_5 (by decide) (fun c1 => ?_) (fun c1 => ?_)
  · obtain ⟨p, hp, rfl⟩ := inR_of (bR_true.mp c1) (by omega)
    have et := hR.1.2.2.1 p hp
    have es := hV.2.2.2.1.1.2.1 p (by omega)
    refine x_iload_n dX7_parcel_10 rfl ?_
    by_cases c2 : bR y 5 = true
    · obtain ⟨w, hw, rfl⟩ := inR_of (bR_true.mp c2) (by decide)
      have ef : fParcel A (nI p) (nI w) = sParcel A p w := by unfold fParcel; rw [c1, c2, nI_clamp (by omega), nI_clamp (by omega)]; rfl
      rw [ef]
      rcases (show w = 0 ∨ w = 1 ∨ w = 2 ∨ w = 3 ∨ w = 4 by omega) with rfl | rfl | rfl | rfl | rfl
      · refine n_tsw (off := 33) (tgt := 44) dX7_parcel_11 (by decide) (by decide +kernel) (by decide) ?_
        refine x_aload_n dX7_parcel_44 rfl ?_
        refine x_getf dX7_parcel_45 flX7_19 (g_c (And.left hL)) rfl ?_
        refine x_getf dX7_parcel_48 flX7_142 (And.left (hT _)) rfl ?_
        refine x_iload_n dX7_parcel_51 rfl ?_
        refine x_cSi2 dX7_parcel_52 lkX7_122 mdX7_at stX7_at (by decide) (c_atN ((hT _).2.2 9 (by decide) (by decide)) (by decide) (by simp only [tLen]; omega)) (Nat.le_of_ble_eq_true rfl) ⟨Nat.le_refl _, Nat.le_refl _⟩ ?_
        refine x_iret dX7_parcel_55 rfl rfl ⟨Nat.le_refl _, Nat.le_refl _⟩ ?_
        exact ⟨by rw [et.1]; rfl, rfl, rfl⟩
      · refine n_tsw (off := 45) (tgt := 56) dX7_parcel_11 (by decide) (by decide +kernel) (by decide) ?_
        refine x_aload_n dX7_parcel_56 rfl ?_
        refine x_getf dX7_parcel_57 flX7_19 (g_c (And.left hL)) rfl ?_
        refine x_getf dX7_parcel_60 flX7_145 (And.left (hT _)) rfl ?_
        refine x_iload_n dX7_parcel_63 rfl ?_
        refine x_cSi2 dX7_parcel_64 lkX7_122 mdX7_at stX7_at (by decide) (c_atN ((hT _).2.2 10 (by decide) (by decide)) (by decide) (by simp only [tLen]; omega)) (Nat.le_of_ble_eq_true rfl) ⟨Nat.le_refl _, Nat.le_refl _⟩ ?_
        refine x_iret dX7_parcel_67 rfl rfl ⟨Nat.le_refl _, Nat.le_refl _⟩ ?_
        exact ⟨by rw [et.2.1]; rfl, rfl, rfl⟩
      · refine n_tsw (off := 57) (tgt := 68) dX7_parcel_11 (by decide) (by decide +kernel) (by decide) ?_
        refine x_aload_n dX7_parcel_68 rfl ?_
        refine x_getf dX7_parcel_69 flX7_19 (g_c (And.left hL)) rfl ?_
        refine x_getf dX7_parcel_72 flX7_148 (And.left (hT _)) rfl ?_
        refine x_iload_n dX7_parcel_75 rfl ?_
        refine x_cSi2 dX7_parcel_76 lkX7_122 mdX7_at stX7_at (by decide) (c_atN ((hT _).2.2 11 (by decide) (by decide)) (by decide) (by simp only [tLen]; omega)) (Nat.le_of_ble_eq_true rfl) ⟨Nat.le_refl _, Nat.le_refl _⟩ ?_
        refine x_iret dX7_parcel_79 rfl rfl ⟨Nat.le_refl _, Nat.le_refl _⟩ ?_
        exact ⟨by rw [et.2.2]; rfl, rfl, rfl⟩
      · refine n_tsw (off := 69) (tgt := 80) dX7_parcel_11 (by decide) (by decide +kernel) (by decide) ?_
        refine x_aload_n dX7_parcel_80 rfl ?_
        refine x_getf dX7_parcel_81 flX7_49 (g_c (And.left hL)) rfl ?_
        refine x_getf dX7_parcel_84 flX7_151 (g_c hS.1) rfl ?_
        refine x_iload_n dX7_parcel_87 rfl ?_
        refine x_cSi2 dX7_parcel_88 lkX7_154 mdX7_inside stX7_inside (by decide) (c_inside _ (by omega)) (Nat.le_of_ble_eq_true rfl) ⟨Nat.le_refl _, Nat.le_refl _⟩ ?_
        refine x_iret dX7_parcel_91 rfl rfl ⟨Nat.le_refl _, Nat.le_refl _⟩ ?_
        exact ⟨by rw [es.1]; rfl, rfl, rfl⟩
      · refine n_tsw (off := 81) (tgt := 92) dX7_parcel_11 (by decide) (by decide +kernel) (by decide) ?_
        refine x_aload_n dX7_parcel_92 rfl ?_
        refine x_getf dX7_parcel_93 flX7_49 (g_c (And.left hL)) rfl ?_
        refine x_getf dX7_parcel_96 flX7_158 (g_c hS.1) rfl ?_
        refine x_iload_n dX7_parcel_99 rfl ?_
        refine x_cSi2 dX7_parcel_100 lkX7_122 mdX7_at stX7_at (by decide) (c_atN (g_c hS.2.1) (by decide) (by omega)) (Nat.le_of_ble_eq_true rfl) ⟨Nat.le_refl _, Nat.le_refl _⟩ ?_
        refine x_iret dX7_parcel_103 rfl rfl ⟨Nat.le_refl _, Nat.le_refl _⟩ ?_
        exact ⟨by rw [es.2]; rfl, rfl, rfl⟩
    · have hno : ¬ inR y 5 := fun z => c2 (bR_true.mpr z)
      refine x_tsw (off := 93) (tgt := 104) dX7_parcel_11 (by unfold zsw; rw [if_pos (by unfold inR at hno; omega)]) (by decide) ?_
      refine x_iconst (v := -1) dX7_parcel_104 (by decide) ?_
      refine x_iret dX7_parcel_105 rfl rfl ⟨Nat.le_refl _, Nat.le_refl _⟩ ?_
      exact ⟨by unfold fParcel; rw [if_neg (by rw [Bool.and_eq_true]; exact fun z => c2 z.2)], rfl, rfl⟩
  · refine x_iconst (v := -1) dX7_parcel_8 (by decide) ?_
    refine x_iret dX7_parcel_9 rfl rfl ⟨Nat.le_refl _, Nat.le_refl _⟩ ?_
    exact ⟨by unfold fParcel; rw [c1]; rfl, rfl, rfl⟩
theorem k_world {x y : Int32} (hL : kL L c P) (hT : ∀ V, zTr (gH h0 L V) (P 0) J X) (hV : kV V c P J X I A) : zI G MX7_world 2 [.ref c, .int x, .int y] (gH h0 L V) n (fWorld I A x y) := by
  refine zCt.of rfl (Nat.le_of_ble_eq_true rfl) rfl ?_
  have hR := hV.2.1
  have k7 := hR.2.1.2.1
  obtain ⟨w1, w2, w3, w4, w5, w6, w7⟩ := hV.2.2.1
  have hW := hL.2.2.1
  have hb5 := hL.2.2.2.2.2.2.2.2.2.2.2.2.2.1
  have hl5 := (wl_ok hR.2.1).1.2.2
  have hno : (x < 0 ∨ bR y (A 7 0) = false) → zEx G MX7_world 2 0 0 12 [some (.ref c), some (.int x), some (.int y)] [] (gH h0 L V) n (0, 0) (fun r h' n' => r = some (.int (fWorld I A x y)) ∧ h' = gH h0 L V ∧ n' = n) := by
    intro hc
    refine x_iconst (v := -1) dX7_world_12 (by decide) ?_
    refine x_iret dX7_world_13 rfl rfl ⟨Nat.le_refl _, Nat.le_refl _⟩ ?_
    exact ⟨by unfold fWorld; rw [if_pos hc], rfl, rfl⟩
  refine x_iload_n dX7_world_0 rfl ?_
  refine x_if_lt (tgt := 12) dX7_world_1 (by decide) (fun c1 => ?_) (fun c1 => ?_)
  · exact hno (Or.inl c1)
  · refine x_aload_n dX7_world_4 rfl ?_
    refine x_iload_n dX7_world_5 rfl ?_
    refine x_cVi1 dX7_world_6 lkX7_139 mdX7_isParcel isX7_isParcel rfl rfl (g_c (And.left hL)) (by decide) (k_isParcel hL hT hR) (Nat.le_of_ble_eq_true rfl) ⟨Nat.le_refl _, Nat.le_refl _⟩ ?_
    refine b_if_ne (tgt := 14) dX7_world_9 (by decide) (fun c2 => ?_) (fun c2 => ?_)
    · obtain ⟨p, hp, rfl⟩ := inR_of (bR_true.mp c2) (by omega)
      obtain ⟨j, hj, rfl⟩ := nI_of c1
      have hor : ¬ (nI j < 0 ∨ bR (nI p) (A 7 0) = false) := by
        rintro (z | z)
        · exact c1 z
        · rw [c2] at z; cases z
      refine x_iload_n dX7_world_14 rfl ?_
      refine x_aload_n dX7_world_15 rfl ?_
      refine x_getf dX7_world_16 flX7_29 (g_c (And.left hL)) rfl ?_
      refine x_getf dX7_world_19 flX7_106 (g_c hW.1) rfl ?_
      rw [w1.1, ← w2]
      refine n_icmp_ge (tgt := 40) dX7_world_22 (by decide) (by omega) (by omega) (fun c3 => ?_) (fun c3 => ?_)
      · refine x_bipush (v := -4) dX7_world_40 (by decide) ?_
        refine x_iret dX7_world_42 rfl rfl ⟨Nat.le_refl _, Nat.le_refl _⟩ ?_
        exact ⟨by unfold fWorld; rw [if_neg hor, nI_clamp hj, if_neg (by omega)], rfl, rfl⟩
      · refine x_aload_n dX7_world_25 rfl ?_
        refine x_getf dX7_world_26 flX7_29 (g_c (And.left hL)) rfl ?_
        refine x_iload_n dX7_world_29 rfl ?_
        refine x_cVi1 dX7_world_30 lkX7_161 mdX6_take isX6_take rfl rfl (g_c hW.1) (by decide) (c_take hW.1 hW.2 (by omega) (by omega)) (Nat.le_of_ble_eq_true rfl) ⟨Nat.le_refl _, Nat.le_refl _⟩ ?_
        rw [w1.2 j (by omega), ← w3 j (by omega)]
        refine x_iload_n dX7_world_33 rfl ?_
        refine x_cSi2 dX7_world_34 lkX7_154 mdX7_inside stX7_inside (by decide) (c_inside _ (by omega)) (Nat.le_of_ble_eq_true rfl) ⟨Nat.le_refl _, Nat.le_refl _⟩ ?_
        refine x_goto (tgt := 42) dX7_world_37 (by decide) ?_
        refine x_iret dX7_world_42 rfl rfl ⟨Nat.le_refl _, Nat.le_refl _⟩ ?_
        exact ⟨by unfold fWorld; rw [if_neg hor, nI_clamp hj, if_pos (by omega), nI_clamp (by omega)], rfl, rfl⟩
    · exact hno (Or.inr c2)
theorem k_answer {x y z : Int32} (hL : kL L c P) (hT : ∀ V, zTr (gH h0 L V) (P 0) J X) (hV : kV V c P J X I A) : zI G MX7_answer 3 [.ref c, .int x, .int y, .int z] (gH h0 L V) n (fAnswer A x y z) := by
  refine zCt.of rfl (Nat.le_of_ble_eq_true rfl) rfl ?_
  have hTb := fun V => (hT V).2.1
  have hR := hV.2.1
  have k7 := hR.2.1.2.1
  have k2 := hR.2.1.1
  have e24 : J 24 = A 2 0 := hR.1.1.1
  have hpow : 2 ^ A 2 0 ≤ 256 := (Nat.pow_le_pow_right (by decide) k2 : 2 ^ A 2 0 ≤ 2 ^ 8)
  have hno : (bR x (A 7 0) && bR y 4 && bR z (2 ^ A 2 0)) = false → zEx G MX7_answer 3 0 0 34 [some (.ref c), some (.int x), some (.int y), some (.int z)] [] (gH h0 L V) n (0, 0) (fun r h' n' => r = some (.int (fAnswer A x y z)) ∧ h' = gH h0 L V ∧ n' = n) := by
    intro hc
    refine x_iconst (v := -1) dX7_answer_34 (by decide) ?_
    refine x_iret dX7_answer_35 rfl rfl ⟨Nat.le_refl _, Nat.le_refl _⟩ ?_
    exact ⟨by unfold fAnswer; rw [hc]; rfl, rfl, rfl⟩
  refine x_aload_n dX7_answer_0 rfl ?_
  refine x_iload_n dX7_answer_1 rfl ?_
  refine x_cVi1 dX7_answer_2 lkX7_139 mdX7_isParcel isX7_isParcel rfl rfl (g_c (And.left hL)) (by decide) (k_isParcel hL hT hR) (Nat.le_of_ble_eq_true rfl) ⟨Nat.le_refl _, Nat.le_refl _⟩ ?_
  refine b_if_eq (tgt := 34) dX7_answer_5 (by decide) (fun c1 => ?_) (fun c1 => ?_)
  · exact hno (by rw [c1]; rfl)
  · refine x_iload_n dX7_answer_8 rfl ?_
    refine x_cSi1 dX7_answer_9 lkX7_164 mdX7_isSort stX7_isSort (by decide) (c_isSort y) (Nat.le_of_ble_eq_true rfl) ⟨Nat.le_refl _, Nat.le_refl _⟩ ?_
    refine b_if_eq (tgt := 34) dX7_answer_12 (by decide) (fun c2 => ?_) (fun c2 => ?_)
    · exact hno (by rw [c2]; simp)
    · refine x_iload_n dX7_answer_15 rfl ?_
      refine x_iconst (v := nI 1) dX7_answer_16 (by decide) ?_
      refine x_aload_n dX7_answer_17 rfl ?_
      refine x_getf dX7_answer_18 flX7_19 (g_c (And.left hL)) rfl ?_
      refine x_getf dX7_answer_21 flX7_112 (And.left (hT _)) rfl ?_
      refine x_getf dX7_answer_24 flX7_167 (hTb _) rfl ?_
      rw [e24]
      refine n_ishl dX7_answer_27 (by omega) ?_
      rw [Nat.one_mul]
      refine x_cSi2 dX7_answer_28 lkX7_170 mdX7_isBelow stX7_isBelow (by decide) (c_isBelow z (by omega)) (Nat.le_of_ble_eq_true rfl) ⟨Nat.le_refl _, Nat.le_refl _⟩ ?_
      refine b_if_ne (tgt := 36) dX7_answer_31 (by decide) (fun c3 => ?_) (fun c3 => ?_)
      · obtain ⟨p, hp, rfl⟩ := inR_of (bR_true.mp c1) (by omega)
        obtain ⟨so, hso, rfl⟩ := inR_of (bR_true.mp c2) (by decide)
        obtain ⟨s, hs, rfl⟩ := inR_of (bR_true.mp c3) (by omega)
        refine x_aload_n dX7_answer_36 rfl ?_
        refine x_getf dX7_answer_37 flX7_19 (g_c (And.left hL)) rfl ?_
        refine x_iload_n dX7_answer_40 rfl ?_
        refine x_iload_n dX7_answer_41 rfl ?_
        refine x_iload_n dX7_answer_42 rfl ?_
        refine x_iconst (v := nI 0) dX7_answer_43 (by decide) ?_
        refine x_cVi4 dX7_answer_44 lkX7_174 mdX5_reply isX5_reply rfl rfl (And.left (hT _)) (by decide) (c_reply (hT _) hR.1 hR.2.1 hp hso hs (by decide)) (Nat.le_of_ble_eq_true rfl) ⟨Nat.le_refl _, Nat.le_refl _⟩ ?_
        refine x_iret dX7_answer_47 rfl rfl ⟨Nat.le_refl _, Nat.le_refl _⟩ ?_
        exact ⟨by unfold fAnswer; rw [c1, c2, c3, nI_clamp (by omega), nI_clamp (by omega), nI_clamp (by omega)]; rfl, rfl, rfl⟩
      · exact hno (by rw [c3]; simp)
theorem k_count {x : Int32} (hL : kL L c P) (hT : ∀ V, zTr (gH h0 L V) (P 0) J X) (hV : kV V c P J X I A) : zI G MX7_count 0 [.ref c, .int x] (gH h0 L V) n (fCount I A x) := by
  refine zCt.of rfl (Nat.le_of_ble_eq_true rfl) rfl ?_
  have hTb := fun V => (hT V).2.1
  have hR := hV.2.1
  have hW := hL.2.2.1
  have hS : zSc L (c + 44) := hL.2.2.2.2.2.2.1
  have hX := hL.2.1.1
  refine x_iload_n dX7_count_0 rfl ?_
  by_cases c1 : bR x 7 = true
  · obtain ⟨w, hw, rfl⟩ := inR_of (bR_true.mp c1) (by decide)
    have ef : fCount I A (nI w) = sCount I A w := by unfold fCount; rw [if_pos c1, nI_clamp (by omega)]
    rw [ef]
    rcases (show w = 0 ∨ w = 1 ∨ w = 2 ∨ w = 3 ∨ w = 4 ∨ w = 5 ∨ w = 6 by omega) with rfl | rfl | rfl | rfl | rfl | rfl | rfl
    · refine n_tsw (off := 43) (tgt := 44) dX7_count_1 (by decide) (by decide +kernel) (by decide) ?_
      refine x_aload_n dX7_count_44 rfl ?_
      refine x_getf dX7_count_45 flX7_19 (g_c (And.left hL)) rfl ?_
      refine x_getf dX7_count_48 flX7_112 (And.left (hT _)) rfl ?_
      refine x_getf dX7_count_51 flX7_167 (hTb _) rfl ?_
      refine x_iret dX7_count_54 rfl rfl ⟨Nat.le_refl _, Nat.le_refl _⟩ ?_
      exact ⟨by rw [hR.1.1.1]; rfl, rfl, rfl⟩
    · refine n_tsw (off := 54) (tgt := 55) dX7_count_1 (by decide) (by decide +kernel) (by decide) ?_
      refine x_aload_n dX7_count_55 rfl ?_
      refine x_getf dX7_count_56 flX7_19 (g_c (And.left hL)) rfl ?_
      refine x_getf dX7_count_59 flX7_287 (And.left (hT _)) rfl ?_
      refine x_iret dX7_count_62 rfl rfl ⟨Nat.le_refl _, Nat.le_refl _⟩ ?_
      exact ⟨by rw [hR.1.1.2.1]; rfl, rfl, rfl⟩
    · refine n_tsw (off := 62) (tgt := 63) dX7_count_1 (by decide) (by decide +kernel) (by decide) ?_
      refine x_aload_n dX7_count_63 rfl ?_
      refine x_getf dX7_count_64 flX7_29 (g_c (And.left hL)) rfl ?_
      refine x_getf dX7_count_67 flX7_106 (g_c hW.1) rfl ?_
      refine x_iret dX7_count_70 rfl rfl ⟨Nat.le_refl _, Nat.le_refl _⟩ ?_
      exact ⟨by rw [hV.2.2.1.1.1, ← hV.2.2.1.2.1]; rfl, rfl, rfl⟩
    · refine n_tsw (off := 70) (tgt := 71) dX7_count_1 (by decide) (by decide +kernel) (by decide) ?_
      refine x_aload_n dX7_count_71 rfl ?_
      refine x_getf dX7_count_72 flX7_49 (g_c (And.left hL)) rfl ?_
      refine x_getf dX7_count_75 flX7_185 (g_c hS.1) rfl ?_
      refine x_iret dX7_count_78 rfl rfl ⟨Nat.le_refl _, Nat.le_refl _⟩ ?_
      exact ⟨by rw [hV.2.2.2.1.1.2.2.1]; rfl, rfl, rfl⟩
    · refine n_tsw (off := 78) (tgt := 79) dX7_count_1 (by decide) (by decide +kernel) (by decide) ?_
      refine x_aload_n dX7_count_79 rfl ?_
      refine x_getf dX7_count_80 flX7_58 (g_c (And.left hL)) rfl ?_
      refine x_getf dX7_count_83 flX7_207 (g_c hL.2.2.2.2.2.2.2.1.1) rfl ?_
      refine x_iret dX7_count_86 rfl rfl ⟨Nat.le_refl _, Nat.le_refl _⟩ ?_
      exact ⟨by rw [hV.2.2.2.2.1.1]; rfl, rfl, rfl⟩
    · refine n_tsw (off := 86) (tgt := 87) dX7_count_1 (by decide) (by decide +kernel) (by decide) ?_
      refine x_aload_n dX7_count_87 rfl ?_
      refine x_getf dX7_count_88 flX7_62 (g_c (And.left hL)) rfl ?_
      refine x_getf dX7_count_91 flX7_207 (g_c hL.2.2.2.2.2.2.2.2.1.1) rfl ?_
      refine x_iret dX7_count_94 rfl rfl ⟨Nat.le_refl _, Nat.le_refl _⟩ ?_
      exact ⟨by rw [hV.2.2.2.2.2.1.1]; rfl, rfl, rfl⟩
    · refine n_tsw (off := 94) (tgt := 95) dX7_count_1 (by decide) (by decide +kernel) (by decide) ?_
      refine x_aload_n dX7_count_95 rfl ?_
      refine x_getf dX7_count_96 flX7_12 (g_c (And.left hL)) rfl ?_
      refine x_getf dX7_count_99 flX7_100 (g_c hX) rfl ?_
      refine x_iret dX7_count_102 rfl rfl ⟨Nat.le_refl _, Nat.le_refl _⟩ ?_
      exact ⟨by rw [hV.1.1]; rfl, rfl, rfl⟩
  · have hno : ¬ inR x 7 := fun z => c1 (bR_true.mpr z)
    refine x_tsw (off := 102) (tgt := 103) dX7_count_1 (by unfold zsw; rw [if_pos (by unfold inR at hno; omega)]) (by decide) ?_
    refine x_iconst (v := -1) dX7_count_103 (by decide) ?_
    refine x_iret dX7_count_104 rfl rfl ⟨Nat.le_refl _, Nat.le_refl _⟩ ?_
    exact ⟨by unfold fCount; rw [if_neg c1], rfl, rfl⟩
theorem k_seconds (hL : kL L c P) (hT : ∀ V, zTr (gH h0 L V) (P 0) J X) (hV : kV V c P J X I A) : zI G MX7_seconds 1 [.ref c] (gH h0 L V) n (nI (fSeconds A)) := by
  refine zCt.of rfl (Nat.le_of_ble_eq_true rfl) rfl ?_
  have hR := hV.2.1
  obtain ⟨n1, n2⟩ := hV.2.2.2.1
  have n8 := n2.1.1
  have hS : zSc L (c + 44) := hL.2.2.2.2.2.2.1
  refine x_iconst (v := nI 0) dX7_seconds_0 (by decide) ?_
  refine x_is1 dX7_seconds_1 (by decide) rfl ?_
  refine x_iconst (v := nI 0) dX7_seconds_2 (by decide) ?_
  refine x_is2 dX7_seconds_3 (by decide) rfl ?_
  refine z_up (A 17 8) (P := fun i => zEx G MX7_seconds 1 0 0 4 [some (.ref c), some (.int (nI (zsum 0 (fun k => A 14 (A 17 (9 + k) % 4)) i))), some (.int (nI i))] [] (gH h0 L V) n (0, 0) _) ?_ 0 (Nat.zero_le _)
  intro i hi ih
  refine x_iload_n dX7_seconds_4 rfl ?_
  refine x_aload_n dX7_seconds_5 rfl ?_
  refine x_getf dX7_seconds_6 flX7_49 (g_c (And.left hL)) rfl ?_
  refine x_getf dX7_seconds_9 flX7_185 (g_c hS.1) rfl ?_
  rw [n1.2.2.1]
  refine n_icmp_ge (tgt := 48) dX7_seconds_12 (by decide) (by omega) (by omega) (fun c1 => ?_) (fun c1 => ?_)
  · have hie : i = A 17 8 := by omega
    subst hie
    refine x_iload_n dX7_seconds_48 rfl ?_
    refine x_iret dX7_seconds_49 rfl rfl ⟨Nat.le_refl _, Nat.le_refl _⟩ ?_
    exact ⟨rfl, rfl, rfl⟩
  · have et := (n1.2.2.2 i (by omega)).1
    have ih9 := ih (by omega)
    have ca := c_atN (G := G) (n := n) (h := gH h0 L V) (j := i) (g_c hS.2.2.1) (by decide) (by omega)
    rw [et] at ca
    have e14 := (hR.1.2.2.2.1 (A 17 (9 + i) % 4) (by omega)).2
    refine x_iload_n dX7_seconds_15 rfl ?_
    refine x_aload_n dX7_seconds_16 rfl ?_
    refine x_getf dX7_seconds_17 flX7_19 (g_c (And.left hL)) rfl ?_
    refine x_getf dX7_seconds_20 flX7_256 (And.left (hT _)) rfl ?_
    refine x_aload_n dX7_seconds_23 rfl ?_
    refine x_getf dX7_seconds_24 flX7_49 (g_c (And.left hL)) rfl ?_
    refine x_getf dX7_seconds_27 flX7_248 (g_c hS.1) rfl ?_
    refine x_iload_n dX7_seconds_30 rfl ?_
    refine x_cSi2 dX7_seconds_31 lkX7_122 mdX7_at stX7_at (by decide) (ca) (Nat.le_of_ble_eq_true rfl) ⟨Nat.le_refl _, Nat.le_refl _⟩ ?_
    refine x_cSi1 dX7_seconds_34 lkX7_251 mdX7_sortOf stX7_sortOf (by decide) (c_sortOf (by omega)) (Nat.le_of_ble_eq_true rfl) ⟨Nat.le_refl _, Nat.le_refl _⟩ ?_
    rw [show A 17 (9 + i) % 16 % 4 = A 17 (9 + i) % 4 by omega]
    refine x_cSi2 dX7_seconds_37 lkX7_122 mdX7_at stX7_at (by decide) (c_atN ((hT _).2.2 13 (by decide) (by decide)) (by decide) (by simp only [tLen]; omega)) (Nat.le_of_ble_eq_true rfl) ⟨Nat.le_refl _, Nat.le_refl _⟩ ?_
    rw [e14]
    refine n_iadd dX7_seconds_40 ?_
    refine x_is1 dX7_seconds_41 (by decide) rfl ?_
    refine n_ii2 (w := 1) dX7_seconds_42 (by decide) (by decide) rfl ?_
    refine x_goto (tgt := 4) dX7_seconds_45 (by decide) ?_
    exact ih9
theorem k_risk {x : Int32} (hL : kL L c P) (hT : ∀ V, zTr (gH h0 L V) (P 0) J X) (hV : kV V c P J X I A) : zJ G MX7_risk 1 [.ref c, .int x] (gH h0 L V) n (fRisk A x) := by
  refine zCt.of rfl (Nat.le_of_ble_eq_true rfl) rfl ?_
  have hR := hV.2.1
  obtain ⟨n1, n2⟩ := hV.2.2.2.1
  have n8 := n2.1.1
  have hS : zSc L (c + 44) := hL.2.2.2.2.2.2.1
  have rA := rkA_le (A 17 8) n8
  have rN := rk_le A (A 17 8)
  refine x_iload_n dX7_risk_0 rfl ?_
  refine x_iconst (v := nI 2) dX7_risk_1 (by decide) ?_
  refine x_cSi2 dX7_risk_2 lkX7_170 mdX7_isBelow stX7_isBelow (by decide) (c_isBelow x (by decide)) (Nat.le_of_ble_eq_true rfl) ⟨Nat.le_refl _, Nat.le_refl _⟩ ?_
  refine b_if_ne (tgt := 12) dX7_risk_5 (by decide) (fun c1 => ?_) (fun c1 => ?_)
  · refine x_lconst (v := lN 1) dX7_risk_12 (by decide) ?_
    refine x_ls2 dX7_risk_13 (by decide) rfl ?_
    refine x_lconst (v := lN 1) dX7_risk_14 (by decide) ?_
    refine x_ls4 dX7_risk_15 (by decide) rfl ?_
    refine x_iconst (v := nI 0) dX7_risk_17 (by decide) ?_
    refine x_is6 dX7_risk_18 (by decide) rfl ?_
    refine z_up (A 17 8) (P := fun i => zEx G MX7_risk 1 0 0 20 [some (.ref c), some (.int x), some (.long (lN (rkN A i))), none, some (.long (lN (rkA i))), none, some (.int (nI i))] [] (gH h0 L V) n (0, 0) _) ?_ 0 (Nat.zero_le _)
    intro i hi ih
    refine x_iload dX7_risk_20 rfl ?_
    refine x_aload_n dX7_risk_22 rfl ?_
    refine x_getf dX7_risk_23 flX7_49 (g_c (And.left hL)) rfl ?_
    refine x_getf dX7_risk_26 flX7_185 (g_c hS.1) rfl ?_
    rw [n1.2.2.1]
    refine n_icmp_ge (tgt := 78) dX7_risk_29 (by decide) (by omega) (by omega) (fun c2 => ?_) (fun c2 => ?_)
    · have hie : i = A 17 8 := by omega
      subst hie
      refine x_lload dX7_risk_78 rfl ?_
      refine x_lload_n dX7_risk_80 rfl ?_
      refine n_lsub dX7_risk_81 (by omega) ?_
      refine x_lload dX7_risk_82 rfl ?_
      refine x_iload_n dX7_risk_84 rfl ?_
      refine x_cSj3 dX7_risk_85 lkX7_219 mdX7_inLowestTerms stX7_inLowestTerms (by decide) (c_inLow (by omega) (by omega) (by omega)) (Nat.le_of_ble_eq_true rfl) ⟨Nat.le_refl _, Nat.le_refl _⟩ ?_
      refine x_lret dX7_risk_88 rfl ⟨Nat.le_refl _, Nat.le_refl _⟩ ?_
      refine ⟨?_, rfl, rfl⟩
      unfold fRisk
      rw [c1, if_pos rfl]
    · have et := (n1.2.2.2 i (by omega)).1
      have ih9 := ih (by omega)
      have ca := c_atN (G := G) (n := n) (h := gH h0 L V) (j := i) (g_c hS.2.2.1) (by decide) (by omega)
      rw [et] at ca
      have e13 := (hR.1.2.2.2.1 (A 17 (9 + i) % 4) (by omega)).1
      have l13 := (hR.2.1.2.2.2.2.2.2 (A 17 (9 + i) % 4) (by omega)).1
      refine x_lload_n dX7_risk_32 rfl ?_
      refine x_bipush (v := nI 10) dX7_risk_33 (by decide) ?_
      refine x_aload_n dX7_risk_35 rfl ?_
      refine x_getf dX7_risk_36 flX7_19 (g_c (And.left hL)) rfl ?_
      refine x_getf dX7_risk_39 flX7_245 (And.left (hT _)) rfl ?_
      refine x_aload_n dX7_risk_42 rfl ?_
      refine x_getf dX7_risk_43 flX7_49 (g_c (And.left hL)) rfl ?_
      refine x_getf dX7_risk_46 flX7_248 (g_c hS.1) rfl ?_
      refine x_iload dX7_risk_49 rfl ?_
      refine x_cSi2 dX7_risk_51 lkX7_122 mdX7_at stX7_at (by decide) (ca) (Nat.le_of_ble_eq_true rfl) ⟨Nat.le_refl _, Nat.le_refl _⟩ ?_
      refine x_cSi1 dX7_risk_54 lkX7_251 mdX7_sortOf stX7_sortOf (by decide) (c_sortOf (by omega)) (Nat.le_of_ble_eq_true rfl) ⟨Nat.le_refl _, Nat.le_refl _⟩ ?_
      rw [show A 17 (9 + i) % 16 % 4 = A 17 (9 + i) % 4 by omega]
      refine x_cSi2 dX7_risk_57 lkX7_122 mdX7_at stX7_at (by decide) (c_atN ((hT _).2.2 12 (by decide) (by decide)) (by decide) (by simp only [tLen]; omega)) (Nat.le_of_ble_eq_true rfl) ⟨Nat.le_refl _, Nat.le_refl _⟩ ?_
      rw [e13]
      refine n_isub dX7_risk_60 (by omega) ?_
      refine n_i2l dX7_risk_61 (by omega) ?_
      refine n_lmul dX7_risk_62 ?_
      refine x_ls2 dX7_risk_63 (by decide) rfl ?_
      refine x_lload dX7_risk_64 rfl ?_
      refine x_ldc2 (v := lN 10) dX7_risk_66 coX7_254 ?_
      refine n_lmul dX7_risk_69 ?_
      refine x_ls4 dX7_risk_70 (by decide) rfl ?_
      refine n_ii6 (w := 1) dX7_risk_72 (by decide) (by decide) rfl ?_
      refine x_goto (tgt := 20) dX7_risk_75 (by decide) ?_
      exact ih9
  · refine x_ldc2 (v := -1) dX7_risk_8 coX7_212 ?_
    refine x_lret dX7_risk_11 rfl ⟨Nat.le_refl _, Nat.le_refl _⟩ ?_
    exact ⟨by unfold fRisk; rw [c1]; rfl, rfl, rfl⟩
end ZK1
