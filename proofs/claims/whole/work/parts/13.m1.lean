section ZM1
variable {G : zG} {n : Nat} {h : zF}
theorem one_lt31 : 1 < 2 ^ 31 := by decide
theorem bt_nI (s : Nat) {t : Nat} (ht : t < 32) : bt (nI s) t = s.testBit t := by
  unfold bt; rw [nI_bv, BitVec.getLsbD_ofNat]; simp [ht]
theorem and1 (y : Int32) : y &&& nI 1 = nI (bt y 0).toNat := by
  refine b_ext fun i hi => ?_
  rw [b_and, bt_nI _ hi, bt_nI _ hi]
  cases i with
  | zero => cases bt y 0 <;> rfl
  | succ i => cases bt y 0 <;> simp [Nat.testBit_succ]
theorem nI_byte (w : Nat) {p : Nat} (hp : p < 4) : nI w >>> (nI (8 * p) &&& 31) &&& nI 255 = nI (w / 2 ^ (8 * p) % 256) := by
  refine b_ext fun i hi => ?_
  rw [b_and, b_sshr (8 * p) (by omega) _ hi, bt_nI _ hi, bt_nI _ hi]
  rw [show (256 : Nat) = 2 ^ 8 from rfl, Nat.testBit_mod_two_pow, Nat.testBit_div_two_pow, show (255 : Nat) = 2 ^ 8 - 1 from rfl, Nat.testBit_two_pow_sub_one]
  by_cases h8 : i < 8
  · rw [if_pos (by omega), bt_nI _ (by omega)]
    simp [h8, Nat.add_comm]
  · simp [h8]
theorem c_in (v lo hi : Int64) : zI G MX8_in 0 [.long v, .long lo, .long hi] h n (nI (decide (lo ≤ v) && decide (v ≤ hi)).toNat) := by
  refine zCt.of rfl (Nat.le_of_ble_eq_true rfl) rfl ?_
  refine x_lload_n dX8_in_0 rfl ?_
  refine x_lload_n dX8_in_1 rfl ?_
  refine x_lcmp dX8_in_2 ?_
  refine l_if_lt (tgt := 17) dX8_in_3 (by decide) (fun hc => ?_) (fun hc => ?_)
  · refine x_iconst (v := nI 0) dX8_in_17 (by decide) ?_
    refine x_iret dX8_in_18 rfl rfl ⟨Nat.le_refl _, Nat.le_refl _⟩ ?_
    refine ⟨?_, rfl, rfl⟩
    have : ¬ lo ≤ v := Int64.not_le.mpr hc
    simp [this]
  · refine x_lload_n dX8_in_6 rfl ?_
    refine x_lload dX8_in_7 rfl ?_
    refine x_lcmp dX8_in_9 ?_
    refine l_if_gt (tgt := 17) dX8_in_10 (by decide) (fun hd => ?_) (fun hd => ?_)
    · refine x_iconst (v := nI 0) dX8_in_17 (by decide) ?_
      refine x_iret dX8_in_18 rfl rfl ⟨Nat.le_refl _, Nat.le_refl _⟩ ?_
      exact ⟨by simp [hd], rfl, rfl⟩
    · refine x_iconst (v := nI 1) dX8_in_13 (by decide) ?_
      refine x_goto (tgt := 18) dX8_in_14 (by decide) ?_
      refine x_iret dX8_in_18 rfl rfl ⟨Nat.le_refl _, Nat.le_refl _⟩ ?_
      exact ⟨by simp [hd, Int64.not_lt.mp hc], rfl, rfl⟩
theorem c_has (x : Int32) {t : Nat} (ht : t < 32) : zI G MX8_has 0 [.int x, .int (nI t)] h n (nI (bt x t).toNat) := by
  refine zCt.of rfl (Nat.le_of_ble_eq_true rfl) rfl ?_
  refine x_iload_n dX8_has_0 rfl ?_
  refine x_iload_n dX8_has_1 rfl ?_
  refine x_ishr dX8_has_2 ?_
  refine x_iconst (v := nI 1) dX8_has_3 (by decide) ?_
  refine x_iand dX8_has_4 ?_
  have e : bt (x >>> (nI t &&& 31)) 0 = bt x t := by
    rw [b_sshr t ht x (by decide)]; simp [ht]
  rw [and1, e]
  refine x_iconst (v := nI 1) dX8_has_5 (by decide) ?_
  refine n_icmp_ne (tgt := 13) dX8_has_6 (by decide) (by cases bt x t <;> decide) (by decide) (fun hc => ?_) (fun hc => ?_)
  · refine x_iconst (v := nI 0) dX8_has_13 (by decide) ?_
    refine x_iret dX8_has_14 rfl rfl ⟨Nat.le_refl _, Nat.le_refl _⟩ ?_
    refine ⟨?_, rfl, rfl⟩
    revert hc; cases bt x t <;> simp
  · refine x_iconst (v := nI 1) dX8_has_9 (by decide) ?_
    refine x_goto (tgt := 14) dX8_has_10 (by decide) ?_
    refine x_iret dX8_has_14 rfl rfl ⟨Nat.le_refl _, Nat.le_refl _⟩ ?_
    refine ⟨?_, rfl, rfl⟩
    revert hc; cases bt x t <;> simp
theorem c_hasN (s : Nat) {t : Nat} (ht : t < 32) : zI G MX8_has 0 [.int (nI s), .int (nI t)] h n (nI (s.testBit t).toNat) := by
  have := c_has (G := G) (n := n) (h := h) (nI s) ht
  rwa [bt_nI _ ht] at this
/-- what is in parcel p of a world's code -/
def sI (w p : Nat) : Nat := w / 2 ^ (8 * p) % 256
theorem sI_lt (w p : Nat) : sI w p < 256 := Nat.mod_lt _ (by decide)
theorem c_setIn (w : Nat) {p : Nat} (hp : p < 4) : zI G MX8_setIn 0 [.int (nI w), .int (nI p)] h n (nI (sI w p)) := by
  refine zCt.of rfl (Nat.le_of_ble_eq_true rfl) rfl ?_
  refine x_iload_n dX8_setIn_0 rfl ?_
  refine x_bipush (v := nI 8) dX8_setIn_1 (by decide) ?_
  refine x_iload_n dX8_setIn_3 rfl ?_
  refine n_imul dX8_setIn_4 ?_
  refine x_ishr dX8_setIn_5 ?_
  refine x_sipush (v := nI 255) dX8_setIn_6 (by decide) ?_
  refine x_iand dX8_setIn_9 ?_
  rw [nI_byte w hp]
  refine x_iret dX8_setIn_10 rfl rfl ⟨Nat.le_refl _, Nat.le_refl _⟩ ?_
  exact ⟨rfl, rfl, rfl⟩
/-- how many bits, as the reference counts -/
def popF : Nat → Nat → Nat
  | 0, _ => 0
  | f + 1, s => if s = 0 then 0 else popF f (s &&& (s - 1)) + 1
def pop (s : Nat) : Nat := popF 9 s
theorem popF_step : ∀ s, s < 256 → s ≠ 0 → s &&& (s - 1) < s ∧ pop s = pop (s &&& (s - 1)) + 1 := by decide +kernel
theorem pop_0 : pop 0 = 0 := rfl
theorem c_bits {s : Nat} (hs : s < 256) : zI G MX8_bits 0 [.int (nI s)] h n (nI (pop s)) := by
  refine zCt.of rfl (Nat.le_of_ble_eq_true rfl) rfl ?_
  refine x_iconst (v := nI 0) dX8_bits_0 (by decide) ?_
  refine x_is1 dX8_bits_1 (by decide) rfl ?_
  refine x_iload_n dX8_bits_2 rfl ?_
  refine x_is2 dX8_bits_3 (by decide) rfl ?_
  have loop : ∀ q c : Nat, q < 256 → c + pop q = pop s → zEx G MX8_bits 0 0 0 4 [some (.int (nI s)), some (.int (nI c)), some (.int (nI q))] [] h n (0, 0) (fun r h' n' => r = some (.int (nI (pop s))) ∧ h' = h ∧ n' = n) := by
    intro q
    induction q using Nat.strongRecOn with
    | _ q ih =>
      intro c hq hc
      refine x_iload_n dX8_bits_4 rfl ?_
      refine n_if_eq (tgt := 20) dX8_bits_5 (by decide) (by omega) (fun h0 => ?_) (fun h0 => ?_)
      · refine x_iload_n dX8_bits_20 rfl ?_
        refine x_iret dX8_bits_21 rfl rfl ⟨Nat.le_refl _, Nat.le_refl _⟩ ?_
        subst h0
        exact ⟨by rw [← hc, pop_0]; rfl, rfl, rfl⟩
      · have hst := popF_step q hq h0
        refine n_ii1 (w := 1) dX8_bits_8 (by decide) (by decide) rfl ?_
        refine x_iload_n dX8_bits_11 rfl ?_
        refine x_iload_n dX8_bits_12 rfl ?_
        refine x_iconst (v := nI 1) dX8_bits_13 (by decide) ?_
        refine n_isub dX8_bits_14 (by omega) ?_
        refine n_iand dX8_bits_15 ?_
        refine x_is2 dX8_bits_16 (by decide) rfl ?_
        refine x_goto (tgt := 4) dX8_bits_17 (by decide) ?_
        exact ih _ hst.1 _ (by omega) (by omega)
  exact loop s 0 hs (by omega)
end ZM1
section ZM2
variable {G : zG} {n : Nat} {h0 : zF} {a : Nat} {I : Nat → Nat} {A : Nat → Nat → Nat} {B : Nat → Nat}
def wOf (A : Nat → Nat → Nat) (p s : Nat) : Nat := zsum (A 8 p) (fun t => if s.testBit t then A 3 t else 0) (A 2 0)
theorem c_weightOf {p : Nat} (s : Nat) (hp : p < 8) (hm : A 2 0 ≤ 8) : zI G MX8_weightOf 1 [.ref a, .int (nI p), .int (nI s)] (mH h0 a I A B) n (nI (wOf A p s)) := by
  refine zCt.of rfl (Nat.le_of_ble_eq_true rfl) rfl ?_
  refine x_aload_n dX8_weightOf_0 rfl ?_
  refine x_getf dX8_weightOf_1 flX8_31 mH_a rfl ?_
  refine x_iload_n dX8_weightOf_4 rfl ?_
  refine m_iald dX8_weightOf_5 rfl (by simp only [mLen]; omega) (by decide) ?_
  refine x_is3 dX8_weightOf_6 (by decide) rfl ?_
  refine x_iconst (v := nI 0) dX8_weightOf_7 (by decide) ?_
  refine x_is4 dX8_weightOf_8 (by decide) rfl ?_
  refine z_up (A 2 0) (P := fun t => zEx G MX8_weightOf 1 0 0 10 [some (.ref a), some (.int (nI p)), some (.int (nI s)), some (.int (nI (zsum (A 8 p) (fun t => if s.testBit t then A 3 t else 0) t))), some (.int (nI t))] [] (mH h0 a I A B) n (0, 0) _) ?_ 0 (Nat.zero_le _)
  intro t ht ih
  refine x_iload dX8_weightOf_10 rfl ?_
  refine x_aload_n dX8_weightOf_12 rfl ?_
  refine x_getf dX8_weightOf_13 flX8_13 mH_a rfl ?_
  refine x_iconst (v := nI 0) dX8_weightOf_16 (by decide) ?_
  refine m_iald dX8_weightOf_17 rfl (by simp only [mLen]; omega) (by decide) ?_
  refine n_icmp_ge (tgt := 50) dX8_weightOf_18 (by decide) (by omega) (by omega) (fun hc => ?_) (fun hc => ?_)
  · refine x_iload_n dX8_weightOf_50 rfl ?_
    refine x_iret dX8_weightOf_51 rfl rfl ⟨Nat.le_refl _, Nat.le_refl _⟩ ?_
    exact ⟨by rw [show t = A 2 0 by omega]; rfl, rfl, rfl⟩
  · refine x_iload_n dX8_weightOf_21 rfl ?_
    refine x_iload_n dX8_weightOf_22 rfl ?_
    refine x_iload dX8_weightOf_23 rfl ?_
    refine x_cSi2 dX8_weightOf_25 lkX8_151 mdX8_has stX8_has (by decide) (c_hasN s (by omega)) (Nat.le_of_ble_eq_true rfl) ⟨Nat.le_refl _, Nat.le_refl _⟩ ?_
    have ih := ih (by omega)
    simp only [zsum] at ih
    refine b_if_eq (tgt := 41) dX8_weightOf_28 (by decide) (fun hb => ?_) (fun hb => ?_)
    · refine x_iconst (v := nI 0) dX8_weightOf_41 (by decide) ?_
      refine n_iadd dX8_weightOf_42 ?_
      refine x_is3 dX8_weightOf_43 (by decide) rfl ?_
      refine n_ii4 (w := 1) dX8_weightOf_44 (by decide) (by decide) rfl ?_
      refine x_goto (tgt := 10) dX8_weightOf_47 (by decide) ?_
      rw [hb] at ih
      exact ih
    · refine x_aload_n dX8_weightOf_31 rfl ?_
      refine x_getf dX8_weightOf_32 flX8_16 mH_a rfl ?_
      refine x_iload dX8_weightOf_35 rfl ?_
      refine m_iald dX8_weightOf_37 rfl (by simp only [mLen]; omega) (by decide) ?_
      refine x_goto (tgt := 42) dX8_weightOf_38 (by decide) ?_
      refine n_iadd dX8_weightOf_42 ?_
      refine x_is3 dX8_weightOf_43 (by decide) rfl ?_
      refine n_ii4 (w := 1) dX8_weightOf_44 (by decide) (by decide) rfl ?_
      refine x_goto (tgt := 10) dX8_weightOf_47 (by decide) ?_
      rw [hb] at ih
      exact ih
def mnOf (A : Nat → Nat → Nat) (s kd : Nat) : Nat := zsum 0 (fun t => if s.testBit t ∧ A 4 t = kd then 1 else 0) (A 2 0)
theorem c_manyOf {kd : Nat} (s : Nat) (hkd : kd < 4) (hm : A 2 0 ≤ 8) (hk : ∀ t, t < A 2 0 → A 4 t < 4) : zI G MX8_manyOf 1 [.ref a, .int (nI s), .int (nI kd)] (mH h0 a I A B) n (nI (mnOf A s kd)) := by
  refine zCt.of rfl (Nat.le_of_ble_eq_true rfl) rfl ?_
  refine x_iconst (v := nI 0) dX8_manyOf_0 (by decide) ?_
  refine x_is3 dX8_manyOf_1 (by decide) rfl ?_
  refine x_iconst (v := nI 0) dX8_manyOf_2 (by decide) ?_
  refine x_is4 dX8_manyOf_3 (by decide) rfl ?_
  refine z_up (A 2 0) (P := fun t => zEx G MX8_manyOf 1 0 0 5 [some (.ref a), some (.int (nI s)), some (.int (nI kd)), some (.int (nI (zsum 0 (fun t => if s.testBit t ∧ A 4 t = kd then 1 else 0) t))), some (.int (nI t))] [] (mH h0 a I A B) n (0, 0) _) ?_ 0 (Nat.zero_le _)
  intro t ht ih
  refine x_iload dX8_manyOf_5 rfl ?_
  refine x_aload_n dX8_manyOf_7 rfl ?_
  refine x_getf dX8_manyOf_8 flX8_13 mH_a rfl ?_
  refine x_iconst (v := nI 0) dX8_manyOf_11 (by decide) ?_
  refine m_iald dX8_manyOf_12 rfl (by simp only [mLen]; omega) (by decide) ?_
  refine n_icmp_ge (tgt := 50) dX8_manyOf_13 (by decide) (by omega) (by omega) (fun hc => ?_) (fun hc => ?_)
  · refine x_iload_n dX8_manyOf_50 rfl ?_
    refine x_iret dX8_manyOf_51 rfl rfl ⟨Nat.le_refl _, Nat.le_refl _⟩ ?_
    exact ⟨by rw [show t = A 2 0 by omega]; rfl, rfl, rfl⟩
  · have hkt := hk t (by omega)
    have ih := ih (by omega)
    simp only [zsum] at ih
    refine x_iload_n dX8_manyOf_16 rfl ?_
    refine x_iload_n dX8_manyOf_17 rfl ?_
    refine x_iload dX8_manyOf_18 rfl ?_
    refine x_cSi2 dX8_manyOf_20 lkX8_151 mdX8_has stX8_has (by decide) (c_hasN s (by omega)) (Nat.le_of_ble_eq_true rfl) ⟨Nat.le_refl _, Nat.le_refl _⟩ ?_
    refine b_if_eq (tgt := 41) dX8_manyOf_23 (by decide) (fun hb => ?_) (fun hb => ?_)
    · refine x_iconst (v := nI 0) dX8_manyOf_41 (by decide) ?_
      refine n_iadd dX8_manyOf_42 ?_
      refine x_is3 dX8_manyOf_43 (by decide) rfl ?_
      refine n_ii4 (w := 1) dX8_manyOf_44 (by decide) (by decide) rfl ?_
      refine x_goto (tgt := 5) dX8_manyOf_47 (by decide) ?_
      rw [if_neg (by simp [hb])] at ih
      exact ih
    · refine x_aload_n dX8_manyOf_26 rfl ?_
      refine x_getf dX8_manyOf_27 flX8_19 mH_a rfl ?_
      refine x_iload dX8_manyOf_30 rfl ?_
      refine m_iald dX8_manyOf_32 rfl (by simp only [mLen]; omega) (by decide) ?_
      refine x_iload_n dX8_manyOf_33 rfl ?_
      refine n_icmp_ne (tgt := 41) dX8_manyOf_34 (by decide) (by omega) (by omega) (fun he => ?_) (fun he => ?_)
      · refine x_iconst (v := nI 0) dX8_manyOf_41 (by decide) ?_
        refine n_iadd dX8_manyOf_42 ?_
        refine x_is3 dX8_manyOf_43 (by decide) rfl ?_
        refine n_ii4 (w := 1) dX8_manyOf_44 (by decide) (by decide) rfl ?_
        refine x_goto (tgt := 5) dX8_manyOf_47 (by decide) ?_
        rw [if_neg (by simp [he])] at ih
        exact ih
      · refine x_iconst (v := nI 1) dX8_manyOf_37 (by decide) ?_
        refine x_goto (tgt := 42) dX8_manyOf_38 (by decide) ?_
        refine n_iadd dX8_manyOf_42 ?_
        refine x_is3 dX8_manyOf_43 (by decide) rfl ?_
        refine n_ii4 (w := 1) dX8_manyOf_44 (by decide) (by decide) rfl ?_
        refine x_goto (tgt := 5) dX8_manyOf_47 (by decide) ?_
        rw [if_pos ⟨hb, he⟩] at ih
        exact ih
end ZM2
