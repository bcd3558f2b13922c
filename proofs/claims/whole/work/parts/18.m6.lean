section ZM7
variable {G : zG} {n : Nat} {h0 : zF} {a : Nat} {I : Nat → Nat} {A : Nat → Nat → Nat} {B : Nat → Nat}
theorem bt_gap (w : Nat) {p t : Nat} (hp : p < 4) (ht : t < 8) : bt (nI w >>> (nI (8 * p) &&& 31)) t = (sI w p).testBit t := by
  rw [b_sshr (8 * p) (by omega) _ (by omega), if_pos (by omega), bt_nI _ (by omega), sI, show (256 : Nat) = 2 ^ 8 from rfl, Nat.testBit_mod_two_pow, Nat.testBit_div_two_pow]
  simp [ht, Nat.add_comm]
theorem sub_add (x y v : Nat) : nI x - nI y + nI v = nI (x + v) - nI y := by
  rw [← nI_add]; rw [Int32.sub_eq_add_neg, Int32.sub_eq_add_neg, Int32.add_assoc, Int32.add_assoc, Int32.add_comm (-nI y)]
theorem sub_neg (x y v : Nat) : nI x - nI y + -(nI v) = nI x - nI (y + v) := by
  rw [← nI_add, Int32.sub_eq_add_neg, Int32.sub_eq_add_neg, Int32.neg_add, Int32.add_assoc, Int32.sub_eq_add_neg]
/-- worth of a set; of all that a child gets in the first p parcels -/
def wr (T : zT) (s : Nat) : Nat → Nat := zsum 0 (fun t => if s.testBit t then T 5 t else 0)
def wC (T : zT) (w c : Nat) : Nat → Nat := zsum 0 (fun p => if T 9 p = c then wr T (sI w p) (T 2 0) else 0)
theorem c_gap {b w : Nat} (hb : b < 2) (h2 : vw A b 2 0 ≤ 8) (h7 : vw A b 7 0 ≤ 4) (h9 : ∀ p, p < vw A b 7 0 → vw A b 9 p ≤ 1) : zI G MX8_gap 1 [.ref a, .int (nI b), .int (nI w)] (mH h0 a I A B) n (nI (wC (vw A b) w 0 (vw A b 7 0)) - nI (wC (vw A b) w 1 (vw A b 7 0))) := by
  refine zCt.of rfl (Nat.le_of_ble_eq_true rfl) rfl ?_
  generalize hT : vw A b = T at h2 h7 h9 ⊢
  have e2 : A 2 b = T 2 0 := by rw [← hT]; rfl
  have e7 : A 7 b = T 7 0 := by rw [← hT]; rfl
  refine x_iconst (v := nI 0) dX8_gap_0 (by decide) ?_
  refine x_is3 dX8_gap_1 (by decide) rfl ?_
  refine x_iconst (v := nI 0) dX8_gap_2 (by decide) ?_
  refine x_is4 dX8_gap_3 (by decide) rfl ?_
  have key : ∀ p, p ≤ T 7 0 → ∀ o5 o6, zEx G MX8_gap 1 0 0 5 [some (.ref a), some (.int (nI b)), some (.int (nI w)), some (.int (nI (wC T w 0 p) - nI (wC T w 1 p))), some (.int (nI p)), o5, o6] [] (mH h0 a I A B) n (0, 0) (fun r h' n' => r = some (.int (nI (wC T w 0 (T 7 0)) - nI (wC T w 1 (T 7 0)))) ∧ h' = mH h0 a I A B ∧ n' = n) := by
    refine z_up (T 7 0) ?_
    intro p hp ihp o5 o6
    refine x_iload dX8_gap_5 rfl ?_
    refine x_aload_n dX8_gap_7 rfl ?_
    refine x_getf dX8_gap_8 flX8_28 mH_a rfl ?_
    refine x_iload_n dX8_gap_11 rfl ?_
    refine m_iald dX8_gap_12 rfl (by simp only [mLen]; omega) (by decide) ?_
    rw [e7]
    refine n_icmp_ge (tgt := 100) dX8_gap_13 (by decide) (by omega) (by omega) (fun hc => ?_) (fun hc => ?_)
    · refine x_iload_n dX8_gap_100 rfl ?_
      refine x_iret dX8_gap_101 rfl rfl ⟨Nat.le_refl _, Nat.le_refl _⟩ ?_
      rw [show p = T 7 0 by omega]
      exact ⟨rfl, rfl, rfl⟩
    · have h9p := h9 p (by omega)
      have e9 : A 9 (4 * b + p) = T 9 p := by rw [← hT]; rfl
      refine x_iconst (v := nI 0) dX8_gap_16 (by decide) ?_
      refine x_is5 dX8_gap_17 (by decide) rfl ?_
      have inner : ∀ t, t ≤ T 2 0 → ∀ o6, zEx G MX8_gap 1 0 0 19 [some (.ref a), some (.int (nI b)), some (.int (nI w)), some (.int (nI (wC T w 0 p + (if T 9 p = 0 then wr T (sI w p) t else 0)) - nI (wC T w 1 p + (if T 9 p = 1 then wr T (sI w p) t else 0)))), some (.int (nI p)), some (.int (nI t)), o6] [] (mH h0 a I A B) n (0, 0) (fun r h' n' => r = some (.int (nI (wC T w 0 (T 7 0)) - nI (wC T w 1 (T 7 0)))) ∧ h' = mH h0 a I A B ∧ n' = n) := by
        refine z_up (T 2 0) ?_
        intro t ht iht o6
        refine x_iload dX8_gap_19 rfl ?_
        refine x_aload_n dX8_gap_21 rfl ?_
        refine x_getf dX8_gap_22 flX8_13 mH_a rfl ?_
        refine x_iload_n dX8_gap_25 rfl ?_
        refine m_iald dX8_gap_26 rfl (by simp only [mLen]; omega) (by decide) ?_
        rw [e2]
        refine n_icmp_ge (tgt := 94) dX8_gap_27 (by decide) (by omega) (by omega) (fun hc2 => ?_) (fun hc2 => ?_)
        · refine n_ii4 (w := 1) dX8_gap_94 (by decide) (by decide) rfl ?_
          refine x_goto (tgt := 5) dX8_gap_97 (by decide) ?_
          have ih9 := ihp (by omega) (some (.int (nI t))) o6
          rw [show t = T 2 0 by omega] at ih9 ⊢
          exact ih9
        · have e5 : A 5 (8 * b + t) = T 5 t := by rw [← hT]; rfl
          have K63 : ∀ v : Nat, v = (if (sI w p).testBit t then T 5 t else 0) → zEx G MX8_gap 1 0 0 63 [some (.ref a), some (.int (nI b)), some (.int (nI w)), some (.int (nI (wC T w 0 p + (if T 9 p = 0 then wr T (sI w p) t else 0)) - nI (wC T w 1 p + (if T 9 p = 1 then wr T (sI w p) t else 0)))), some (.int (nI p)), some (.int (nI t)), some (.int (nI v))] [] (mH h0 a I A B) n (0, 0) (fun r h' n' => r = some (.int (nI (wC T w 0 (T 7 0)) - nI (wC T w 1 (T 7 0)))) ∧ h' = mH h0 a I A B ∧ n' = n) := by
            intro v hv
            have ih9 := iht (by omega) (some (.int (nI v)))
            have ew : wr T (sI w p) (t + 1) = wr T (sI w p) t + v := by rw [hv]; rfl
            rw [ew] at ih9
            refine x_iload_n dX8_gap_63 rfl ?_
            refine x_aload_n dX8_gap_64 rfl ?_
            refine x_getf dX8_gap_65 flX8_34 mH_a rfl ?_
            refine x_iconst (v := nI 4) dX8_gap_68 (by decide) ?_
            refine x_iload_n dX8_gap_69 rfl ?_
            refine n_imul dX8_gap_70 ?_
            refine x_iload dX8_gap_71 rfl ?_
            refine n_iadd dX8_gap_73 ?_
            refine m_iald dX8_gap_74 rfl (by simp only [mLen]; omega) (by decide) ?_
            rw [e9]
            refine n_if_ne (tgt := 83) dX8_gap_75 (by decide) (by omega) (fun c3 => ?_) (fun c3 => ?_)
            · refine x_iload dX8_gap_83 rfl ?_
              refine x_ineg dX8_gap_85 ?_
              refine x_iadd dX8_gap_86 ?_
              rw [sub_neg]
              refine x_is3 dX8_gap_87 (by decide) rfl ?_
              refine n_ii5 (w := 1) dX8_gap_88 (by decide) (by decide) rfl ?_
              refine x_goto (tgt := 19) dX8_gap_91 (by decide) ?_
              rw [if_neg c3, if_pos (show T 9 p = 1 by omega)] at ih9 ⊢
              rw [Nat.add_assoc]
              exact ih9
            · refine x_iload dX8_gap_78 rfl ?_
              refine x_goto (tgt := 86) dX8_gap_80 (by decide) ?_
              refine x_iadd dX8_gap_86 ?_
              rw [sub_add]
              refine x_is3 dX8_gap_87 (by decide) rfl ?_
              refine n_ii5 (w := 1) dX8_gap_88 (by decide) (by decide) rfl ?_
              refine x_goto (tgt := 19) dX8_gap_91 (by decide) ?_
              rw [if_pos c3, if_neg (show ¬ T 9 p = 1 by omega)] at ih9 ⊢
              rw [Nat.add_assoc]
              exact ih9
          refine x_iload_n dX8_gap_30 rfl ?_
          refine x_bipush (v := nI 8) dX8_gap_31 (by decide) ?_
          refine x_iload dX8_gap_33 rfl ?_
          refine n_imul dX8_gap_35 ?_
          refine x_ishr dX8_gap_36 ?_
          refine x_iload dX8_gap_37 rfl ?_
          refine x_cSi2 dX8_gap_39 lkX8_151 mdX8_has stX8_has (by decide) (c_has _ (t := t) (by omega)) (Nat.le_of_ble_eq_true rfl) ⟨Nat.le_refl _, Nat.le_refl _⟩ ?_
          rw [bt_gap w (by omega) (by omega)]
          refine b_if_eq (tgt := 60) dX8_gap_42 (by decide) (fun c4 => ?_) (fun c4 => ?_)
          · refine x_iconst (v := nI 0) dX8_gap_60 (by decide) ?_
            refine x_is6 dX8_gap_61 (by decide) rfl ?_
            exact K63 0 (by rw [c4]; rfl)
          · refine x_aload_n dX8_gap_45 rfl ?_
            refine x_getf dX8_gap_46 flX8_22 mH_a rfl ?_
            refine x_bipush (v := nI 8) dX8_gap_49 (by decide) ?_
            refine x_iload_n dX8_gap_51 rfl ?_
            refine n_imul dX8_gap_52 ?_
            refine x_iload dX8_gap_53 rfl ?_
            refine n_iadd dX8_gap_55 ?_
            refine m_iald dX8_gap_56 rfl (by simp only [mLen]; omega) (by decide) ?_
            refine x_goto (tgt := 61) dX8_gap_57 (by decide) ?_
            refine x_is6 dX8_gap_61 (by decide) rfl ?_
            rw [e5]
            exact K63 (T 5 t) (by rw [c4]; rfl)
      have := inner 0 (Nat.zero_le _) o6
      simp only [wr, zsum, ite_self, Nat.add_zero] at this
      exact this
  have e : nI (wC T w 0 0) - nI (wC T w 1 0) = nI 0 := by show nI 0 - nI 0 = nI 0; decide
  have k0 := key 0 (Nat.zero_le _) none none
  rw [e] at k0
  exact k0
def anyC (T : zT) (c : Nat) : Nat → Bool
  | 0 => false
  | p + 1 => anyC T c p || decide (T 9 p = c)
/-- whether a world is fair -/
def fairT (T : zT) (w : Nat) : Bool := !(anyC T 0 (T 7 0) && anyC T 1 (T 7 0)) || decide (wC T w 0 (T 7 0) ≤ wC T w 1 (T 7 0) + T 12 0 ∧ wC T w 1 (T 7 0) ≤ wC T w 0 (T 7 0) + T 12 0)
theorem who_step : ∀ (x y : Bool), (x.toNat + 2 * y.toNat ||| 1 * 2 ^ 0) = (x || true).toNat + 2 * (y || false).toNat ∧ (x.toNat + 2 * y.toNat ||| 1 * 2 ^ 1) = (x || false).toNat + 2 * (y || true).toNat := by decide
theorem zsum_le {f : Nat → Nat} {m : Nat} : ∀ (N b : Nat), (∀ t, t < N → f t ≤ m) → zsum b f N ≤ b + m * N
  | 0, b, _ => Nat.le_refl _
  | N + 1, b, h => by
    have h1 := zsum_le N b (fun t ht => h t (by omega))
    have h2 := h N (by omega)
    show zsum b f N + f N ≤ _
    rw [Nat.mul_succ]
    omega
theorem wr_le {T : zT} (h : ∀ t, t < T 2 0 → T 5 t ≤ 9) (h2 : T 2 0 ≤ 8) (s : Nat) : wr T s (T 2 0) ≤ 72 := by
  have := zsum_le (f := fun t => if s.testBit t then T 5 t else 0) (m := 9) (T 2 0) 0 (fun t ht => by
    have := h t ht
    show (if s.testBit t then T 5 t else 0) ≤ 9
    split <;> omega)
  unfold wr
  omega
theorem wC_le {T : zT} (h : ∀ t, t < T 2 0 → T 5 t ≤ 9) (h2 : T 2 0 ≤ 8) (h7 : T 7 0 ≤ 4) (w c : Nat) : wC T w c (T 7 0) ≤ 288 := by
  have := zsum_le (f := fun p => if T 9 p = c then wr T (sI w p) (T 2 0) else 0) (m := 72) (T 7 0) 0 (fun t ht => by
    have := wr_le h h2 (sI w t)
    show (if T 9 t = c then wr T (sI w t) (T 2 0) else 0) ≤ 72
    split <;> omega)
  unfold wC
  omega
theorem in_gap {x y d : Nat} (hx : x < 1000) (hy : y < 1000) (hd : d < 1000) : (decide ((-(nI d)).toInt64 ≤ (nI x - nI y).toInt64) && decide ((nI x - nI y).toInt64 ≤ lN d)) = decide (x ≤ y + d ∧ y ≤ x + d) := by
  have h1 : (nI x - nI y).toInt = (x : Int) - y := by
    rw [Int32.toInt_sub, nI_toInt (by omega), nI_toInt (by omega)]
    rw [Int.bmod_eq_of_le] <;> omega
  have h2 : (-(nI d)).toInt = -(d : Int) := by
    rw [Int32.toInt_neg, nI_toInt (by omega)]
    rw [Int.bmod_eq_of_le] <;> omega
  have e1 : (-(nI d)).toInt64 ≤ (nI x - nI y).toInt64 ↔ y ≤ x + d := by
    rw [fa_wide_le, fa_le, h1, h2]; omega
  have e2 : (nI x - nI y).toInt64 ≤ lN d ↔ x ≤ y + d := by
    rw [fa_le64, Int32.toInt_toInt64, h1, lN_toInt (by omega)]; omega
  rw [decide_eq_decide.mpr e1, decide_eq_decide.mpr e2, ← Bool.decide_and]
  exact decide_eq_decide.mpr (by omega)
theorem c_isFair {b w : Nat} (hb : b < 2) (h2 : vw A b 2 0 ≤ 8) (h7 : vw A b 7 0 ≤ 4) (h5 : ∀ t, t < vw A b 2 0 → vw A b 5 t ≤ 9) (h9 : ∀ p, p < vw A b 7 0 → vw A b 9 p ≤ 1) (h12 : vw A b 12 0 ≤ 40) : zI G MX8_isFair 2 [.ref a, .int (nI b), .int (nI w)] (mH h0 a I A B) n (nI (fairT (vw A b) w).toNat) := by
  refine zCt.of rfl (Nat.le_of_ble_eq_true rfl) rfl ?_
  have cg := c_gap (G := G) (n := n) (h0 := h0) (a := a) (I := I) (B := B) (w := w) hb h2 h7 h9
  generalize hT : vw A b = T at h2 h7 h9 h5 h12 cg ⊢
  have e7 : A 7 b = T 7 0 := by rw [← hT]; rfl
  have e12 : A 12 b = T 12 0 := by rw [← hT]; rfl
  refine x_iconst (v := nI 0) dX8_isFair_0 (by decide) ?_
  refine x_is3 dX8_isFair_1 (by decide) rfl ?_
  refine x_iconst (v := nI 0) dX8_isFair_2 (by decide) ?_
  refine x_is4 dX8_isFair_3 (by decide) rfl ?_
  refine z_up (T 7 0) (P := fun p => zEx G MX8_isFair 2 0 0 5 [some (.ref a), some (.int (nI b)), some (.int (nI w)), some (.int (nI ((anyC T 0 p).toNat + 2 * (anyC T 1 p).toNat))), some (.int (nI p))] [] (mH h0 a I A B) n (0, 0) _) ?_ 0 (Nat.zero_le _)
  intro p hp ih
  refine x_iload dX8_isFair_5 rfl ?_
  refine x_aload_n dX8_isFair_7 rfl ?_
  refine x_getf dX8_isFair_8 flX8_28 mH_a rfl ?_
  refine x_iload_n dX8_isFair_11 rfl ?_
  refine m_iald dX8_isFair_12 rfl (by simp only [mLen]; omega) (by decide) ?_
  rw [e7]
  refine n_icmp_ge (tgt := 38) dX8_isFair_13 (by decide) (by omega) (by omega) (fun hc => ?_) (fun hc => ?_)
  · have hpe : p = T 7 0 := by omega
    subst hpe
    refine x_iload_n dX8_isFair_38 rfl ?_
    refine x_iconst (v := nI 3) dX8_isFair_39 (by decide) ?_
    have hw3 : (anyC T 0 (T 7 0)).toNat + 2 * (anyC T 1 (T 7 0)).toNat < 2 ^ 31 := by cases anyC T 0 (T 7 0) <;> cases anyC T 1 (T 7 0) <;> decide
    refine n_icmp_ne (tgt := 71) dX8_isFair_40 (by decide) hw3 (by decide) (fun c1 => ?_) (fun c1 => ?_)
    · refine x_iconst (v := nI 1) dX8_isFair_71 (by decide) ?_
      refine x_goto (tgt := 76) dX8_isFair_72 (by decide) ?_
      refine x_iret dX8_isFair_76 rfl rfl ⟨Nat.le_refl _, Nat.le_refl _⟩ ?_
      refine ⟨?_, rfl, rfl⟩
      have : fairT T w = true := by
        unfold fairT
        revert c1
        cases anyC T 0 (T 7 0) <;> cases anyC T 1 (T 7 0) <;> simp
      rw [this]; rfl
    · refine x_aload_n dX8_isFair_43 rfl ?_
      refine x_iload_n dX8_isFair_44 rfl ?_
      refine x_iload_n dX8_isFair_45 rfl ?_
      refine x_cVi2 dX8_isFair_46 lkX8_155 mdX8_gap isX8_gap rfl rfl mH_a (by decide) (cg) (Nat.le_of_ble_eq_true rfl) ⟨Nat.le_refl _, Nat.le_refl _⟩ ?_
      refine x_i2l dX8_isFair_49 rfl ?_
      refine x_aload_n dX8_isFair_50 rfl ?_
      refine x_getf dX8_isFair_51 flX8_43 mH_a rfl ?_
      refine x_iload_n dX8_isFair_54 rfl ?_
      refine m_iald dX8_isFair_55 rfl (by simp only [mLen]; omega) (by decide) ?_
      refine x_ineg dX8_isFair_56 ?_
      refine x_i2l dX8_isFair_57 rfl ?_
      refine x_aload_n dX8_isFair_58 rfl ?_
      refine x_getf dX8_isFair_59 flX8_43 mH_a rfl ?_
      refine x_iload_n dX8_isFair_62 rfl ?_
      refine m_iald dX8_isFair_63 rfl (by simp only [mLen]; omega) (by decide) ?_
      refine n_i2l dX8_isFair_64 (by rw [e12]; omega) ?_
      rw [e12]
      refine x_cSi3 dX8_isFair_65 lkX8_109 mdX8_in stX8_in (by decide) (c_in _ _ _) (Nat.le_of_ble_eq_true rfl) ⟨Nat.le_refl _, Nat.le_refl _⟩ ?_
      rw [in_gap (Nat.lt_of_le_of_lt (wC_le h5 h2 h7 w 0) (by decide)) (Nat.lt_of_le_of_lt (wC_le h5 h2 h7 w 1) (by decide)) (by omega)]
      have c2 : (anyC T 0 (T 7 0) && anyC T 1 (T 7 0)) = true := by
        revert c1
        cases anyC T 0 (T 7 0) <;> cases anyC T 1 (T 7 0) <;> simp
      refine b_if_eq (tgt := 75) dX8_isFair_68 (by decide) (fun c3 => ?_) (fun c3 => ?_)
      · refine x_iconst (v := nI 0) dX8_isFair_75 (by decide) ?_
        refine x_iret dX8_isFair_76 rfl rfl ⟨Nat.le_refl _, Nat.le_refl _⟩ ?_
        refine ⟨?_, rfl, rfl⟩
        unfold fairT
        rw [c2, c3]; rfl
      · refine x_iconst (v := nI 1) dX8_isFair_71 (by decide) ?_
        refine x_goto (tgt := 76) dX8_isFair_72 (by decide) ?_
        refine x_iret dX8_isFair_76 rfl rfl ⟨Nat.le_refl _, Nat.le_refl _⟩ ?_
        refine ⟨?_, rfl, rfl⟩
        unfold fairT
        rw [c2, c3]; rfl
  · have h9p := h9 p (by omega)
    have e9 : A 9 (4 * b + p) = T 9 p := by rw [← hT]; rfl
    have ih9 := ih (by omega)
    refine x_iload_n dX8_isFair_16 rfl ?_
    refine x_iconst (v := nI 1) dX8_isFair_17 (by decide) ?_
    refine x_aload_n dX8_isFair_18 rfl ?_
    refine x_getf dX8_isFair_19 flX8_34 mH_a rfl ?_
    refine x_iconst (v := nI 4) dX8_isFair_22 (by decide) ?_
    refine x_iload_n dX8_isFair_23 rfl ?_
    refine n_imul dX8_isFair_24 ?_
    refine x_iload dX8_isFair_25 rfl ?_
    refine n_iadd dX8_isFair_27 ?_
    refine m_iald dX8_isFair_28 rfl (by simp only [mLen]; omega) (by decide) ?_
    rw [e9]
    refine n_ishl dX8_isFair_29 (by omega) ?_
    refine n_ior dX8_isFair_30 ?_
    refine x_is3 dX8_isFair_31 (by decide) rfl ?_
    refine n_ii4 (w := 1) dX8_isFair_32 (by decide) (by decide) rfl ?_
    refine x_goto (tgt := 5) dX8_isFair_35 (by decide) ?_
    simp only [anyC] at ih9
    have hs := who_step (anyC T 0 p) (anyC T 1 p)
    rcases (show T 9 p = 0 ∨ T 9 p = 1 by omega) with q | q
    · rw [q] at ih9 ⊢
      rw [hs.1]
      exact ih9
    · rw [q] at ih9 ⊢
      rw [hs.2]
      exact ih9
def cdOf (x0 x1 x2 x3 : Nat) : Nat := ((x0 ||| x1 * 2 ^ 8) ||| x2 * 2 ^ 16) ||| x3 * 2 ^ 24
theorem c_codeOf {x0 x1 x2 x3 : Nat} : zI G MX8_codeOf 0 [.ref a, .int (nI x0), .int (nI x1), .int (nI x2), .int (nI x3)] (mH h0 a I A B) n (nI (cdOf x0 x1 x2 x3)) := by
  refine zCt.of rfl (Nat.le_of_ble_eq_true rfl) rfl ?_
  refine x_iload_n dX8_codeOf_0 rfl ?_
  refine x_iload_n dX8_codeOf_1 rfl ?_
  refine x_bipush (v := nI 8) dX8_codeOf_2 (by decide) ?_
  refine n_ishl dX8_codeOf_4 (by omega) ?_
  refine n_ior dX8_codeOf_5 ?_
  refine x_iload_n dX8_codeOf_6 rfl ?_
  refine x_bipush (v := nI 16) dX8_codeOf_7 (by decide) ?_
  refine n_ishl dX8_codeOf_9 (by omega) ?_
  refine n_ior dX8_codeOf_10 ?_
  refine x_iload dX8_codeOf_11 rfl ?_
  refine x_bipush (v := nI 24) dX8_codeOf_13 (by decide) ?_
  refine n_ishl dX8_codeOf_15 (by omega) ?_
  refine n_ior dX8_codeOf_16 ?_
  refine x_iret dX8_codeOf_17 rfl rfl ⟨Nat.le_refl _, Nat.le_refl _⟩ ?_
  exact ⟨rfl, rfl, rfl⟩
def tUsed (T : zT) : Nat → Nat
  | 0 => 0
  | p + 1 => tUsed T p ||| T 15 p
def tIs (T : zT) : Nat → Bool
  | 0 => true
  | p + 1 => tIs T p && decide (pop (T 15 p) = T 10 p) && decide (tUsed T p &&& T 15 p = 0)
def truthT (T : zT) : Bool := tIs T (T 7 0) && fairT T (cdOf (T 15 0) (T 15 1) (T 15 2) (T 15 3))
theorem pop_lt : ∀ s, s < 256 → pop s < 10 := by decide +kernel
theorem tUsed_lt {T : zT} (h : ∀ p, p < 4 → T 15 p < 256) : ∀ p, p ≤ 4 → tUsed T p < 256
  | 0, _ => (by decide : 0 < 256)
  | p + 1, hp => Nat.or_lt_two_pow (n := 8) (tUsed_lt h p (by omega)) (h p (by omega))
theorem c_isTruth (hk : tOK (vw A 1)) : zI G MX8_isTruth 3 [.ref a] (mH h0 a I A B) n (nI (truthT (vw A 1)).toNat) := by
  refine zCt.of rfl (Nat.le_of_ble_eq_true rfl) rfl ?_
  have cf := fun w => c_isFair (G := G) (n := n) (h0 := h0) (a := a) (I := I) (B := B) (w := w) (b := 1) (by decide) hk.1 hk.2.1 (fun t ht => (hk.2.2.1 t ht).2.2.1) (fun p hp => (hk.2.2.2.1 p hp).2.1) hk.2.2.2.2.2.1
  generalize hT : vw A 1 = T at hk cf ⊢
  have e7 : A 7 1 = T 7 0 := by rw [← hT]; rfl
  have e15 : ∀ p, A 15 p = T 15 p := fun p => by rw [← hT]; rfl
  obtain ⟨h2, h7, h3, h4, h5, h6, h7', h8, h9⟩ := hk
  have h15 : ∀ p, p < 4 → T 15 p < 256 := fun p hp => Nat.lt_of_lt_of_le (h8 p hp) (Nat.pow_le_pow_right (by decide) h2 : 2 ^ T 2 0 ≤ 2 ^ 8)
  have hU := tUsed_lt h15
  refine x_iconst (v := nI 0) dX8_isTruth_0 (by decide) ?_
  refine x_is1 dX8_isTruth_1 (by decide) rfl ?_
  refine x_iconst (v := nI 1) dX8_isTruth_2 (by decide) ?_
  refine x_is2 dX8_isTruth_3 (by decide) rfl ?_
  refine x_iconst (v := nI 0) dX8_isTruth_4 (by decide) ?_
  refine x_is3 dX8_isTruth_5 (by decide) rfl ?_
  refine z_up (T 7 0) (P := fun p => zEx G MX8_isTruth 3 0 0 6 [some (.ref a), some (.int (nI (tUsed T p))), some (.int (nI (tIs T p).toNat)), some (.int (nI p))] [] (mH h0 a I A B) n (0, 0) _) ?_ 0 (Nat.zero_le _)
  intro p hp ih
  have hUp := hU p (by omega)
  refine x_iload_n dX8_isTruth_6 rfl ?_
  refine x_aload_n dX8_isTruth_7 rfl ?_
  refine x_getf dX8_isTruth_8 flX8_28 mH_a rfl ?_
  refine x_iconst (v := nI 1) dX8_isTruth_11 (by decide) ?_
  refine m_iald dX8_isTruth_12 rfl (by simp only [mLen]; omega) (by decide) ?_
  rw [e7]
  refine n_icmp_ge (tgt := 72) dX8_isTruth_13 (by decide) (by omega) (by omega) (fun hc => ?_) (fun hc => ?_)
  · have hpe : p = T 7 0 := by omega
    subst hpe
    refine x_iload_n dX8_isTruth_72 rfl ?_
    refine b_if_eq (tgt := 116) dX8_isTruth_73 (by decide) (fun c1 => ?_) (fun c1 => ?_)
    · refine x_iconst (v := nI 0) dX8_isTruth_116 (by decide) ?_
      refine x_iret dX8_isTruth_117 rfl rfl ⟨Nat.le_refl _, Nat.le_refl _⟩ ?_
      refine ⟨?_, rfl, rfl⟩
      unfold truthT; rw [c1]; rfl
    · refine x_aload_n dX8_isTruth_76 rfl ?_
      refine x_iconst (v := nI 1) dX8_isTruth_77 (by decide) ?_
      refine x_aload_n dX8_isTruth_78 rfl ?_
      refine x_aload_n dX8_isTruth_79 rfl ?_
      refine x_getf dX8_isTruth_80 flX8_52 mH_a rfl ?_
      refine x_iconst (v := nI 0) dX8_isTruth_83 (by decide) ?_
      refine m_iald dX8_isTruth_84 rfl (by simp only [mLen]; omega) (by decide) ?_
      refine x_aload_n dX8_isTruth_85 rfl ?_
      refine x_getf dX8_isTruth_86 flX8_52 mH_a rfl ?_
      refine x_iconst (v := nI 1) dX8_isTruth_89 (by decide) ?_
      refine m_iald dX8_isTruth_90 rfl (by simp only [mLen]; omega) (by decide) ?_
      refine x_aload_n dX8_isTruth_91 rfl ?_
      refine x_getf dX8_isTruth_92 flX8_52 mH_a rfl ?_
      refine x_iconst (v := nI 2) dX8_isTruth_95 (by decide) ?_
      refine m_iald dX8_isTruth_96 rfl (by simp only [mLen]; omega) (by decide) ?_
      refine x_aload_n dX8_isTruth_97 rfl ?_
      refine x_getf dX8_isTruth_98 flX8_52 mH_a rfl ?_
      refine x_iconst (v := nI 3) dX8_isTruth_101 (by decide) ?_
      refine m_iald dX8_isTruth_102 rfl (by simp only [mLen]; omega) (by decide) ?_
      rw [e15, e15, e15, e15]
      refine x_cVi4 dX8_isTruth_103 lkX8_162 mdX8_codeOf isX8_codeOf rfl rfl mH_a (by decide) (c_codeOf) (Nat.le_of_ble_eq_true rfl) ⟨Nat.le_refl _, Nat.le_refl _⟩ ?_
      refine x_cVi2 dX8_isTruth_106 lkX8_166 mdX8_isFair isX8_isFair rfl rfl mH_a (by decide) (cf _) (Nat.le_of_ble_eq_true rfl) ⟨Nat.le_refl _, Nat.le_refl _⟩ ?_
      refine b_if_eq (tgt := 116) dX8_isTruth_109 (by decide) (fun c2 => ?_) (fun c2 => ?_)
      · refine x_iconst (v := nI 0) dX8_isTruth_116 (by decide) ?_
        refine x_iret dX8_isTruth_117 rfl rfl ⟨Nat.le_refl _, Nat.le_refl _⟩ ?_
        refine ⟨?_, rfl, rfl⟩
        unfold truthT; rw [c1, c2]; rfl
      · refine x_iconst (v := nI 1) dX8_isTruth_112 (by decide) ?_
        refine x_goto (tgt := 117) dX8_isTruth_113 (by decide) ?_
        refine x_iret dX8_isTruth_117 rfl rfl ⟨Nat.le_refl _, Nat.le_refl _⟩ ?_
        refine ⟨?_, rfl, rfl⟩
        unfold truthT; rw [c1, c2]; rfl
  · have hp4 : p < 4 := by omega
    have h10 := (h4 p (by omega)).2.2
    have e10 : A 10 (4 + p) = T 10 p := by rw [← hT]; rfl
    have h15p := h15 p hp4
    have hpop := pop_lt _ h15p
    have ih9 := ih (by omega)
    have K56 : ∀ b : Bool, b = (tIs T p && decide (pop (T 15 p) = T 10 p) && decide (tUsed T p &&& T 15 p = 0)) → zEx G MX8_isTruth 3 0 0 56 [some (.ref a), some (.int (nI (tUsed T p))), some (.int (nI (tIs T p).toNat)), some (.int (nI p))] [.int (nI b.toNat)] (mH h0 a I A B) n (0, 0) (fun r h' n' => r = some (.int (nI (truthT T).toNat)) ∧ h' = mH h0 a I A B ∧ n' = n) := by
      intro b hb
      subst hb
      refine x_is2 dX8_isTruth_56 (by decide) rfl ?_
      refine x_iload_n dX8_isTruth_57 rfl ?_
      refine x_aload_n dX8_isTruth_58 rfl ?_
      refine x_getf dX8_isTruth_59 flX8_52 mH_a rfl ?_
      refine x_iload_n dX8_isTruth_62 rfl ?_
      refine m_iald dX8_isTruth_63 rfl (by simp only [mLen]; omega) (by decide) ?_
      rw [e15]
      refine n_ior dX8_isTruth_64 ?_
      refine x_is1 dX8_isTruth_65 (by decide) rfl ?_
      refine n_ii3 (w := 1) dX8_isTruth_66 (by decide) (by decide) rfl ?_
      refine x_goto (tgt := 6) dX8_isTruth_69 (by decide) ?_
      exact ih9
    refine x_iload_n dX8_isTruth_16 rfl ?_
    refine b_if_eq (tgt := 55) dX8_isTruth_17 (by decide) (fun c1 => ?_) (fun c1 => ?_)
    · refine x_iconst (v := nI 0) dX8_isTruth_55 (by decide) ?_
      exact K56 false (by rw [c1]; rfl)
    · refine x_aload_n dX8_isTruth_20 rfl ?_
      refine x_getf dX8_isTruth_21 flX8_52 mH_a rfl ?_
      refine x_iload_n dX8_isTruth_24 rfl ?_
      refine m_iald dX8_isTruth_25 rfl (by simp only [mLen]; omega) (by decide) ?_
      rw [e15]
      refine x_cSi1 dX8_isTruth_26 lkX8_159 mdX8_bits stX8_bits (by decide) (c_bits h15p) (Nat.le_of_ble_eq_true rfl) ⟨Nat.le_refl _, Nat.le_refl _⟩ ?_
      refine x_aload_n dX8_isTruth_29 rfl ?_
      refine x_getf dX8_isTruth_30 flX8_37 mH_a rfl ?_
      refine x_iconst (v := nI 4) dX8_isTruth_33 (by decide) ?_
      refine x_iload_n dX8_isTruth_34 rfl ?_
      refine n_iadd dX8_isTruth_35 ?_
      refine m_iald dX8_isTruth_36 rfl (by simp only [mLen]; omega) (by decide) ?_
      rw [e10]
      refine n_icmp_ne (tgt := 55) dX8_isTruth_37 (by decide) (by omega) (by omega) (fun c2 => ?_) (fun c2 => ?_)
      · refine x_iconst (v := nI 0) dX8_isTruth_55 (by decide) ?_
        exact K56 false (by rw [c1, decide_eq_false c2]; rfl)
      · refine x_iload_n dX8_isTruth_40 rfl ?_
        refine x_aload_n dX8_isTruth_41 rfl ?_
        refine x_getf dX8_isTruth_42 flX8_52 mH_a rfl ?_
        refine x_iload_n dX8_isTruth_45 rfl ?_
        refine m_iald dX8_isTruth_46 rfl (by simp only [mLen]; omega) (by decide) ?_
        rw [e15]
        refine n_iand dX8_isTruth_47 ?_
        have hand : tUsed T p &&& T 15 p < 256 := Nat.lt_of_le_of_lt Nat.and_le_left hUp
        refine n_if_ne (tgt := 55) dX8_isTruth_48 (by decide) (by omega) (fun c3 => ?_) (fun c3 => ?_)
        · refine x_iconst (v := nI 0) dX8_isTruth_55 (by decide) ?_
          exact K56 false (by rw [decide_eq_false c3]; simp)
        · refine x_iconst (v := nI 1) dX8_isTruth_51 (by decide) ?_
          refine x_goto (tgt := 56) dX8_isTruth_52 (by decide) ?_
          exact K56 true (by rw [c1, decide_eq_true c2, decide_eq_true c3]; rfl)
end ZM7
