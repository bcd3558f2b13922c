/-- a tree with its things stands at t -/
def zTr (h : zF) (t : Nat) (J : Nat → Nat) (X : Nat → Nat → Nat) : Prop := h t = some (.inr (5, tF t J)) ∧ h (t + 1) = some (.inr (4, tG t J)) ∧ ∀ q, 2 ≤ q → q < 14 → h (t + q) = some (iA (tLen q) (X q))
theorem zTr_tH {h0 : zF} {t : Nat} {J : Nat → Nat} {X : Nat → Nat → Nat} : zTr (tH h0 t J X) t J X := ⟨tH_0, tH_1, fun _ h1 h2 => tH_k h1 h2⟩
theorem tH_self {h : zF} {t : Nat} {J : Nat → Nat} {X : Nat → Nat → Nat} (hT : zTr h t J X) : tH h t J X = h := by
  funext b
  by_cases hb : t ≤ b ∧ b < t + 14
  · obtain ⟨q, rfl⟩ := Nat.exists_eq_add_of_le hb.1
    by_cases h0 : q = 0
    · subst h0; exact tH_0.trans hT.1.symm
    · by_cases h1 : q = 1
      · subst h1; exact tH_1.trans hT.2.1.symm
      · exact (tH_k (by omega) (by omega)).trans (hT.2.2 q (by omega) (by omega)).symm
  · exact tH_out (by omega)
section ZS6
variable {G : zG} {n : Nat} {h : zF} {t : Nat} {J : Nat → Nat} {X : Nat → Nat → Nat} {T : zT}
theorem c_inSteps {x : Nat} (hT : zTr h t J X) (hI : tI J X T) (hk : tR T) (hx : x < 2 ^ 31) : zI G MX5_inSteps 0 [.ref t, .int (nI x)] h n (nI (x / T 11 0)) := by
  refine zCt.of rfl (Nat.le_of_ble_eq_true rfl) rfl ?_
  obtain ⟨k2, k7, k3, k4, k5, k6, k8⟩ := hk
  rw [← hI.1.2.2.1] at k5 ⊢
  refine x_aload_n dX5_inSteps_0 rfl ?_
  refine x_getf dX5_inSteps_1 flX5_28 hT.1 rfl ?_
  refine x_if_le (tgt := 16) dX5_inSteps_4 (by decide) (fun c1 => absurd c1 (nI_nle (by omega) (by omega))) (fun c1 => ?_)
  refine x_iload_n dX5_inSteps_7 rfl ?_
  refine x_aload_n dX5_inSteps_8 rfl ?_
  refine x_getf dX5_inSteps_9 flX5_28 hT.1 rfl ?_
  refine n_idiv dX5_inSteps_12 (by omega) (by omega) (by omega) ?_
  refine x_goto (tgt := 17) dX5_inSteps_13 (by decide) ?_
  refine x_iret dX5_inSteps_17 rfl rfl ⟨Nat.le_refl _, Nat.le_refl _⟩ ?_
  exact ⟨rfl, rfl, rfl⟩
theorem c_weightWithBox {p s : Nat} (hT : zTr h t J X) (hI : tI J X T) (hk : tR T) (hp : p < T 7 0) (hs : s < 2 ^ T 2 0) : zI G MX5_weightWithBox 1 [.ref t, .int (nI p), .int (nI s)] h n (nI (wOf T p s)) := by
  refine zCt.of rfl (Nat.le_of_ble_eq_true rfl) rfl ?_
  obtain ⟨k2, k7, k3, k4, k5, k6, k8⟩ := hk
  have hpow : 2 ^ T 2 0 ≤ 256 := (Nat.pow_le_pow_right (by decide) k2 : 2 ^ T 2 0 ≤ 2 ^ 8)
  have e9 := (hI.2.2.1 p hp).1
  have e6 := (hI.2.2.2.2.1 s hs).1
  refine x_aload_n dX5_weightWithBox_0 rfl ?_
  refine x_getf dX5_weightWithBox_1 flX5_18 hT.1 rfl ?_
  refine x_iload_n dX5_weightWithBox_4 rfl ?_
  refine x_cSi2 dX5_weightWithBox_5 lkX5_63 mdX7_at stX7_at (by decide) (c_atN (hT.2.2 9 (by decide) (by decide)) (by decide) (by simp only [tLen]; omega)) (Nat.le_of_ble_eq_true rfl) ⟨Nat.le_refl _, Nat.le_refl _⟩ ?_
  refine x_aload_n dX5_weightWithBox_8 rfl ?_
  refine x_getf dX5_weightWithBox_9 flX5_12 hT.1 rfl ?_
  refine x_getf dX5_weightWithBox_12 flX5_132 hT.2.1 rfl ?_
  refine x_iload_n dX5_weightWithBox_15 rfl ?_
  refine x_cSi2 dX5_weightWithBox_16 lkX5_63 mdX7_at stX7_at (by decide) (c_atN (hT.2.2 6 (by decide) (by decide)) (by decide) (by simp only [tLen]; omega)) (Nat.le_of_ble_eq_true rfl) ⟨Nat.le_refl _, Nat.le_refl _⟩ ?_
  refine n_iadd dX5_weightWithBox_19 ?_
  refine x_iret dX5_weightWithBox_20 rfl rfl ⟨Nat.le_refl _, Nat.le_refl _⟩ ?_
  refine ⟨by rw [e9, e6, wOf, ← zsum_base], rfl, rfl⟩
theorem c_reply {p sort s f : Nat} (hT : zTr h t J X) (hI : tI J X T) (hk : tR T) (hp : p < T 7 0) (hso : sort < 4) (hs : s < 2 ^ T 2 0) (hf : f < 100) : zI G MX5_reply 2 [.ref t, .int (nI p), .int (nI sort), .int (nI s), .int (nI f)] h n (nI (ansF T p sort s f)) := by
  refine zCt.of rfl (Nat.le_of_ble_eq_true rfl) rfl ?_
  have k2 := hk.1
  have k7 := hk.2.1
  have hpow : 2 ^ T 2 0 ≤ 256 := (Nat.pow_le_pow_right (by decide) k2 : 2 ^ T 2 0 ≤ 2 ^ 8)
  have hw := wOf_le (p := p) (s := s) k2 (fun t ht => (hk.2.2.1 t ht).1.2)
  have hbx := (hk.2.2.2.1 p hp).1
  have e9 := (hI.2.2.1 p hp).1
  have e6 := (hI.2.2.2.2.1 s hs).1
  have ew : X 9 p + X 6 s = wOf T p s := by rw [e9, e6, wOf, ← zsum_base]
  have b9 : X 9 p ≤ 9 := by rw [e9]; omega
  have ct := c_tipped (G := G) (n := n) (h0 := h) (t := t) (J := J) (X := X) (s := s) (by omega)
  have cs := c_shaken (G := G) (n := n) (h0 := h) (t := t) (J := J) (X := X) (s := s) (by omega)
  have cp := c_pressed (G := G) (n := n) (h0 := h) (t := t) (J := J) (X := X) (s := s) (by omega)
  rw [tH_self hT] at ct cs cp
  have t2 := tI_tip hI (r := J 29) (kd := 2) hs (fun t ht => (hI.2.2.2.2.2.2 t ht).2.1)
  have t1 := tI_tip hI (r := J 28) (kd := 1) hs (fun t ht => (hI.2.2.2.2.2.2 t ht).1)
  have tf := tI_firm hI k2 hs
  refine x_iload_n dX5_reply_0 rfl ?_
  rcases (show sort = 0 ∨ sort = 1 ∨ sort = 2 ∨ sort = 3 by omega) with rfl | rfl | rfl | rfl
  · refine n_tsw (off := 27) (tgt := 28) dX5_reply_1 (by decide) (by decide +kernel) (by decide) ?_
    refine x_aload_n dX5_reply_28 rfl ?_
    refine x_aload_n dX5_reply_29 rfl ?_
    refine x_getf dX5_reply_30 flX5_18 hT.1 rfl ?_
    refine x_iload_n dX5_reply_33 rfl ?_
    refine x_cSi2 dX5_reply_34 lkX5_63 mdX7_at stX7_at (by decide) (c_atN (hT.2.2 9 (by decide) (by decide)) (by decide) (by simp only [tLen]; omega)) (Nat.le_of_ble_eq_true rfl) ⟨Nat.le_refl _, Nat.le_refl _⟩ ?_
    refine x_aload_n dX5_reply_37 rfl ?_
    refine x_getf dX5_reply_38 flX5_12 hT.1 rfl ?_
    refine x_getf dX5_reply_41 flX5_132 hT.2.1 rfl ?_
    refine x_iload_n dX5_reply_44 rfl ?_
    refine x_cSi2 dX5_reply_45 lkX5_63 mdX7_at stX7_at (by decide) (c_atN (hT.2.2 6 (by decide) (by decide)) (by decide) (by simp only [tLen]; omega)) (Nat.le_of_ble_eq_true rfl) ⟨Nat.le_refl _, Nat.le_refl _⟩ ?_
    refine n_iadd dX5_reply_48 ?_
    refine x_iload dX5_reply_49 rfl ?_
    refine n_iadd dX5_reply_51 ?_
    rw [ew]
    refine x_cVi1 dX5_reply_52 lkX5_135 mdX5_inSteps isX5_inSteps rfl rfl hT.1 (by decide) (c_inSteps hT hI hk (by omega)) (Nat.le_of_ble_eq_true rfl) ⟨Nat.le_refl _, Nat.le_refl _⟩ ?_
    refine x_iret dX5_reply_55 rfl rfl ⟨Nat.le_refl _, Nat.le_refl _⟩ ?_
    exact ⟨rfl, rfl, rfl⟩
  · refine n_tsw (off := 55) (tgt := 56) dX5_reply_1 (by decide) (by decide +kernel) (by decide) ?_
    refine x_aload_n dX5_reply_56 rfl ?_
    refine x_getf dX5_reply_57 flX5_12 hT.1 rfl ?_
    refine x_iload_n dX5_reply_60 rfl ?_
    refine x_cVi1 dX5_reply_61 lkX5_138 mdX4_tipped isX4_tipped rfl rfl hT.2.1 (by decide) (ct) (Nat.le_of_ble_eq_true rfl) ⟨Nat.le_refl _, Nat.le_refl _⟩ ?_
    refine x_iret dX5_reply_64 rfl rfl ⟨Nat.le_refl _, Nat.le_refl _⟩ ?_
    refine ⟨?_, rfl, rfl⟩
    simp only [ansF]
    congr 4
    · by_cases q : s &&& J 29 = 0
      · rw [if_pos q, if_neg (t2.mp q)]
      · rw [if_neg q, if_pos (Classical.byContradiction fun z => q (t2.mpr z))]
    · by_cases q : s &&& J 28 = 0
      · rw [if_pos q, if_neg (t1.mp q)]
      · rw [if_neg q, if_pos (Classical.byContradiction fun z => q (t1.mpr z))]
  · refine n_tsw (off := 64) (tgt := 65) dX5_reply_1 (by decide) (by decide +kernel) (by decide) ?_
    refine x_aload_n dX5_reply_65 rfl ?_
    refine x_getf dX5_reply_66 flX5_12 hT.1 rfl ?_
    refine x_iload_n dX5_reply_69 rfl ?_
    refine x_cVi1 dX5_reply_70 lkX5_141 mdX4_shaken isX4_shaken rfl rfl hT.2.1 (by decide) (cs) (Nat.le_of_ble_eq_true rfl) ⟨Nat.le_refl _, Nat.le_refl _⟩ ?_
    refine x_iret dX5_reply_73 rfl rfl ⟨Nat.le_refl _, Nat.le_refl _⟩ ?_
    exact ⟨by rw [tf.1]; rfl, rfl, rfl⟩
  · refine n_tsw (off := 73) (tgt := 74) dX5_reply_1 (by decide) (by decide +kernel) (by decide) ?_
    refine x_aload_n dX5_reply_74 rfl ?_
    refine x_getf dX5_reply_75 flX5_12 hT.1 rfl ?_
    refine x_iload_n dX5_reply_78 rfl ?_
    refine x_cVi1 dX5_reply_79 lkX5_144 mdX4_pressed isX4_pressed rfl rfl hT.2.1 (by decide) (cp) (Nat.le_of_ble_eq_true rfl) ⟨Nat.le_refl _, Nat.le_refl _⟩ ?_
    refine x_iret dX5_reply_82 rfl rfl ⟨Nat.le_refl _, Nat.le_refl _⟩ ?_
    refine ⟨?_, rfl, rfl⟩
    by_cases q : s &&& J 30 = 0
    · rw [if_pos q, ansF, if_pos (tf.2.mp q)] <;> simp
    · rw [if_neg q, ansF, if_neg (fun z => q (tf.2.mpr z))] <;> simp
/-- the union of a world's sets, all or of a child -/
def wu (T : zT) (w c : Nat) : Nat → Nat
  | 0 => 0
  | p + 1 => if T 9 p = c then wu T w c p ||| sI w p else wu T w c p
def au (w : Nat) : Nat → Nat
  | 0 => 0
  | p + 1 => au w p ||| sI w p
theorem wu_lt {T : zT} {w c m : Nat} : ∀ P, (∀ p, p < P → sI w p < 2 ^ m) → wu T w c P < 2 ^ m
  | 0, _ => Nat.two_pow_pos m
  | P + 1, h => by
    have h1 := wu_lt (T := T) (c := c) P (fun p hp => h p (by omega))
    have h2 := h P (by omega)
    unfold wu
    split
    · exact Nat.or_lt_two_pow h1 h2
    · exact h1
theorem au_lt {w m : Nat} : ∀ P, (∀ p, p < P → sI w p < 2 ^ m) → au w P < 2 ^ m
  | 0, _ => Nat.two_pow_pos m
  | P + 1, h => Nat.or_lt_two_pow (au_lt P (fun p hp => h p (by omega))) (h P (by omega))
theorem au_bit (w t : Nat) : ∀ P, (au w P).testBit t = inAny w t P
  | 0 => Nat.zero_testBit t
  | P + 1 => by rw [au, Nat.testBit_or, au_bit w t P]; rfl
theorem wu_dj {T : zT} {w c s : Nat} : ∀ P, (∀ p, p < P → s &&& sI w p = 0) → s &&& wu T w c P = 0
  | 0, _ => Nat.and_zero s
  | P + 1, h => by
    have h1 := wu_dj (T := T) (c := c) P (fun p hp => h p (by omega))
    unfold wu
    split
    · exact and_or_0.mpr ⟨h1, h P (by omega)⟩
    · exact h1
theorem au_dj {w s : Nat} : ∀ P, s &&& au w P = 0 ↔ ∀ p, p < P → s &&& sI w p = 0
  | 0 => ⟨fun _ p hp => absurd hp (by omega), fun _ => Nat.and_zero s⟩
  | P + 1 => by
    rw [au, and_or_0, au_dj P]
    constructor
    · rintro ⟨h1, h2⟩ p hp
      by_cases q : p = P
      · subst q; exact h2
      · exact h1 p (by omega)
    · intro h
      exact ⟨fun p hp => h p (by omega), h P (by omega)⟩
theorem wr_or (T : zT) {a b : Nat} (h : a &&& b = 0) (m : Nat) : wr T (a ||| b) m = wr T a m + wr T b m := by
  unfold wr
  rw [← zsum_add]
  refine zsum_congr 0 _ (fun t _ => ?_)
  rw [Nat.testBit_or]
  have hb := congrArg (fun z => z.testBit t) h
  simp only [Nat.testBit_and, Nat.zero_testBit] at hb
  cases h1 : a.testBit t <;> cases h2 : b.testBit t <;> simp_all
theorem wr_0 (T : zT) : ∀ m, wr T 0 m = 0
  | 0 => rfl
  | m + 1 => by
    have := wr_0 T m
    unfold wr at this ⊢
    rw [zsum, this, Nat.zero_testBit]; rfl
/-- the sets of a world do not meet -/
def djW (T : zT) (w : Nat) : Prop := (∀ p, p < T 7 0 → sI w p < 2 ^ T 2 0) ∧ ∀ p q, p < T 7 0 → q < T 7 0 → p ≠ q → sI w p &&& sI w q = 0
theorem wOK_dj {w : Nat} (h : wOK T (T 7 0) w) : djW T w := ⟨fun p hp => (h.2.1 p hp).1.2, h.2.2.1⟩
theorem wr_wu {w c : Nat} (h : djW T w) : ∀ P, P ≤ T 7 0 → wr T (wu T w c P) (T 2 0) = wC T w c P
  | 0, _ => wr_0 T _
  | P + 1, hP => by
    have ih := wr_wu h (c := c) P (by omega)
    show _ = wC T w c P + (if T 9 P = c then wr T (sI w P) (T 2 0) else 0)
    unfold wu
    split
    · rw [wr_or T, ih]
      rw [Nat.and_comm]
      exact wu_dj P (fun p hp => h.2 P p (by omega) (by omega) (by omega))
    · rw [ih]; rfl
theorem c_worthFor {w c : Nat} (hT : zTr h t J X) (hI : tI J X T) (hk : tR T) (hw : djW T w) (hc2 : c < 2) : zI G MX5_worthFor 1 [.ref t, .int (nI w), .int (nI c)] h n (nI (wC T w c (T 7 0))) := by
  refine zCt.of rfl (Nat.le_of_ble_eq_true rfl) rfl ?_
  obtain ⟨k2, k7, k3, k4, k5, k6, k8⟩ := hk
  have hpow : 2 ^ T 2 0 ≤ 256 := (Nat.pow_le_pow_right (by decide) k2 : 2 ^ T 2 0 ≤ 2 ^ 8)
  have e4 := hI.1.2.1
  refine x_iconst (v := nI 0) dX5_worthFor_0 (by decide) ?_
  refine x_is3 dX5_worthFor_1 (by decide) rfl ?_
  refine x_iconst (v := nI 0) dX5_worthFor_2 (by decide) ?_
  refine x_is4 dX5_worthFor_3 (by decide) rfl ?_
  refine z_up (T 7 0) (P := fun p => zEx G MX5_worthFor 1 0 0 5 [some (.ref t), some (.int (nI w)), some (.int (nI c)), some (.int (nI (wu T w c p))), some (.int (nI p))] [] h n (0, 0) _) ?_ 0 (Nat.zero_le _)
  intro p hp ih
  have hwl := wu_lt (T := T) (w := w) (c := c) (m := T 2 0) p (fun q hq => hw.1 q (by omega))
  refine x_iload dX5_worthFor_5 rfl ?_
  refine x_aload_n dX5_worthFor_7 rfl ?_
  refine x_getf dX5_worthFor_8 flX5_41 hT.1 rfl ?_
  rw [e4]
  refine n_icmp_ge (tgt := 42) dX5_worthFor_11 (by decide) (by omega) (by omega) (fun hc => ?_) (fun hc => ?_)
  · have hpe : p = T 7 0 := by omega
    subst hpe
    have e7 := (hI.2.2.2.2.1 _ hwl).2.1
    refine x_aload_n dX5_worthFor_42 rfl ?_
    refine x_getf dX5_worthFor_43 flX5_12 hT.1 rfl ?_
    refine x_getf dX5_worthFor_46 flX5_126 hT.2.1 rfl ?_
    refine x_iload_n dX5_worthFor_49 rfl ?_
    refine x_cSi2 dX5_worthFor_50 lkX5_63 mdX7_at stX7_at (by decide) (c_atN (hT.2.2 7 (by decide) (by decide)) (by decide) (by simp only [tLen]; omega)) (Nat.le_of_ble_eq_true rfl) ⟨Nat.le_refl _, Nat.le_refl _⟩ ?_
    refine x_iret dX5_worthFor_53 rfl rfl ⟨Nat.le_refl _, Nat.le_refl _⟩ ?_
    exact ⟨by rw [e7, wr_wu hw _ (Nat.le_refl _)], rfl, rfl⟩
  · have e10 := (hI.2.2.1 p (by omega)).2.1
    have h9 := (k4 p (by omega)).2.1
    have hsl := hw.1 p (by omega)
    have ih9 := ih (by omega)
    refine x_aload_n dX5_worthFor_14 rfl ?_
    refine x_getf dX5_worthFor_15 flX5_22 hT.1 rfl ?_
    refine x_iload dX5_worthFor_18 rfl ?_
    refine x_cSi2 dX5_worthFor_20 lkX5_63 mdX7_at stX7_at (by decide) (c_atN (hT.2.2 10 (by decide) (by decide)) (by decide) (by simp only [tLen]; omega)) (Nat.le_of_ble_eq_true rfl) ⟨Nat.le_refl _, Nat.le_refl _⟩ ?_
    refine x_iload_n dX5_worthFor_23 rfl ?_
    rw [e10]
    refine n_icmp_ne (tgt := 36) dX5_worthFor_24 (by decide) (by omega) (by omega) (fun hc3 => ?_) (fun hc3 => ?_)
    · refine n_ii4 (w := 1) dX5_worthFor_36 (by decide) (by decide) rfl ?_
      refine x_goto (tgt := 5) dX5_worthFor_39 (by decide) ?_
      rw [show wu T w c (p + 1) = wu T w c p from if_neg hc3] at ih9
      exact ih9
    · refine x_iload_n dX5_worthFor_27 rfl ?_
      refine x_iload_n dX5_worthFor_28 rfl ?_
      refine x_iload dX5_worthFor_29 rfl ?_
      refine x_cSi2 dX5_worthFor_31 lkX5_102 mdX7_inside stX7_inside (by decide) (c_inside _ (by omega)) (Nat.le_of_ble_eq_true rfl) ⟨Nat.le_refl _, Nat.le_refl _⟩ ?_
      refine n_ior dX5_worthFor_34 ?_
      refine x_is3 dX5_worthFor_35 (by decide) rfl ?_
      refine n_ii4 (w := 1) dX5_worthFor_36 (by decide) (by decide) rfl ?_
      refine x_goto (tgt := 5) dX5_worthFor_39 (by decide) ?_
      rw [show wu T w c (p + 1) = wu T w c p ||| sI w p from if_pos hc3] at ih9
      exact ih9
theorem c_chanceOf {w : Nat} (hT : zTr h t J X) (hI : tI J X T) (hk : tR T) (hw : ∀ p, p < T 7 0 → sI w p < 2 ^ T 2 0) : zI G MX5_chanceOf 1 [.ref t, .int (nI w)] h n (nI (wgt T w)) := by
  refine zCt.of rfl (Nat.le_of_ble_eq_true rfl) rfl ?_
  obtain ⟨k2, k7, k3, k4, k5, k6, k8⟩ := hk
  have hpow : 2 ^ T 2 0 ≤ 256 := (Nat.pow_le_pow_right (by decide) k2 : 2 ^ T 2 0 ≤ 2 ^ 8)
  have e4 := hI.1.2.1
  refine x_iconst (v := nI 0) dX5_chanceOf_0 (by decide) ?_
  refine x_is2 dX5_chanceOf_1 (by decide) rfl ?_
  refine x_iconst (v := nI 0) dX5_chanceOf_2 (by decide) ?_
  refine x_is3 dX5_chanceOf_3 (by decide) rfl ?_
  refine z_up (T 7 0) (P := fun p => zEx G MX5_chanceOf 1 0 0 4 [some (.ref t), some (.int (nI w)), some (.int (nI (au w p))), some (.int (nI p))] [] h n (0, 0) _) ?_ 0 (Nat.zero_le _)
  intro p hp ih
  have hwl := au_lt (w := w) (m := T 2 0) p (fun q hq => hw q (by omega))
  refine x_iload_n dX5_chanceOf_4 rfl ?_
  refine x_aload_n dX5_chanceOf_5 rfl ?_
  refine x_getf dX5_chanceOf_6 flX5_41 hT.1 rfl ?_
  rw [e4]
  refine n_icmp_ge (tgt := 26) dX5_chanceOf_9 (by decide) (by omega) (by omega) (fun hc => ?_) (fun hc => ?_)
  · have hpe : p = T 7 0 := by omega
    subst hpe
    have e7 := (hI.2.2.2.2.1 _ hwl).2.2
    refine x_aload_n dX5_chanceOf_26 rfl ?_
    refine x_getf dX5_chanceOf_27 flX5_12 hT.1 rfl ?_
    refine x_getf dX5_chanceOf_30 flX5_129 hT.2.1 rfl ?_
    refine x_iload_n dX5_chanceOf_33 rfl ?_
    refine x_cSi2 dX5_chanceOf_34 lkX5_63 mdX7_at stX7_at (by decide) (c_atN (hT.2.2 8 (by decide) (by decide)) (by decide) (by simp only [tLen]; omega)) (Nat.le_of_ble_eq_true rfl) ⟨Nat.le_refl _, Nat.le_refl _⟩ ?_
    refine x_iret dX5_chanceOf_37 rfl rfl ⟨Nat.le_refl _, Nat.le_refl _⟩ ?_
    exact ⟨by rw [e7]; simp only [au_bit]; rfl, rfl, rfl⟩
  · have hsl := hw p (by omega)
    have ih9 := ih (by omega)
    refine x_iload_n dX5_chanceOf_12 rfl ?_
    refine x_iload_n dX5_chanceOf_13 rfl ?_
    refine x_iload_n dX5_chanceOf_14 rfl ?_
    refine x_cSi2 dX5_chanceOf_15 lkX5_102 mdX7_inside stX7_inside (by decide) (c_inside _ (by omega)) (Nat.le_of_ble_eq_true rfl) ⟨Nat.le_refl _, Nat.le_refl _⟩ ?_
    refine n_ior dX5_chanceOf_18 ?_
    refine x_is2 dX5_chanceOf_19 (by decide) rfl ?_
    refine n_ii3 (w := 1) dX5_chanceOf_20 (by decide) (by decide) rfl ?_
    refine x_goto (tgt := 4) dX5_chanceOf_23 (by decide) ?_
    exact ih9
theorem c_hasParcels {c : Nat} (hT : zTr h t J X) (hI : tI J X T) (hk : tR T) (hc2 : c < 2) : zI G MX5_hasParcels 1 [.ref t, .int (nI c)] h n (nI (anyC T c (T 7 0)).toNat) := by
  refine zCt.of rfl (Nat.le_of_ble_eq_true rfl) rfl ?_
  obtain ⟨k2, k7, k3, k4, k5, k6, k8⟩ := hk
  have e4 := hI.1.2.1
  have ext : ∀ d p, anyC T c p = true → anyC T c (p + d) = true := by
    intro d p hh
    induction d with
    | zero => exact hh
    | succ d ih => show (anyC T c (p + d) || _) = true; rw [ih]; rfl
  refine x_iconst (v := nI 0) dX5_hasParcels_0 (by decide) ?_
  refine x_is2 dX5_hasParcels_1 (by decide) rfl ?_
  refine z_up (T 7 0) (P := fun p => anyC T c p = false → zEx G MX5_hasParcels 1 0 0 2 [some (.ref t), some (.int (nI c)), some (.int (nI p))] [] h n (0, 0) _) ?_ 0 (Nat.zero_le _) rfl
  intro p hp ih hf
  refine x_iload_n dX5_hasParcels_2 rfl ?_
  refine x_aload_n dX5_hasParcels_3 rfl ?_
  refine x_getf dX5_hasParcels_4 flX5_41 hT.1 rfl ?_
  rw [e4]
  refine n_icmp_ge (tgt := 30) dX5_hasParcels_7 (by decide) (by omega) (by omega) (fun hc => ?_) (fun hc => ?_)
  · have hpe : p = T 7 0 := by omega
    subst hpe
    refine x_iconst (v := nI 0) dX5_hasParcels_30 (by decide) ?_
    refine x_iret dX5_hasParcels_31 rfl (nar_b false) ⟨Nat.le_refl _, Nat.le_refl _⟩ ?_
    exact ⟨by rw [hf]; rfl, rfl, rfl⟩
  · have e10 := (hI.2.2.1 p (by omega)).2.1
    have h9 := (k4 p (by omega)).2.1
    refine x_aload_n dX5_hasParcels_10 rfl ?_
    refine x_getf dX5_hasParcels_11 flX5_22 hT.1 rfl ?_
    refine x_iload_n dX5_hasParcels_14 rfl ?_
    refine x_cSi2 dX5_hasParcels_15 lkX5_63 mdX7_at stX7_at (by decide) (c_atN (hT.2.2 10 (by decide) (by decide)) (by decide) (by simp only [tLen]; omega)) (Nat.le_of_ble_eq_true rfl) ⟨Nat.le_refl _, Nat.le_refl _⟩ ?_
    refine x_iload_n dX5_hasParcels_18 rfl ?_
    rw [e10]
    refine n_icmp_ne (tgt := 24) dX5_hasParcels_19 (by decide) (by omega) (by omega) (fun hc3 => ?_) (fun hc3 => ?_)
    · refine n_ii2 (w := 1) dX5_hasParcels_24 (by decide) (by decide) rfl ?_
      refine x_goto (tgt := 2) dX5_hasParcels_27 (by decide) ?_
      exact ih (by omega) (by show (anyC T c p || decide (T 9 p = c)) = false; rw [hf, decide_eq_false hc3]; rfl)
    · have := ext (T 7 0 - (p + 1)) (p + 1) (by show (anyC T c p || decide (T 9 p = c)) = true; rw [decide_eq_true hc3]; simp)
      rw [show p + 1 + (T 7 0 - (p + 1)) = T 7 0 by omega] at this
      refine x_iconst (v := nI 1) dX5_hasParcels_22 (by decide) ?_
      refine x_iret dX5_hasParcels_23 rfl (nar_b true) ⟨Nat.le_refl _, Nat.le_refl _⟩ ?_
      exact ⟨by rw [this]; rfl, rfl, rfl⟩
end ZS6
