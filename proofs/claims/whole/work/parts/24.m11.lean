theorem lN63 {x : Nat} (h : x < 2 ^ 63) : (lN x).toInt = (x : Int) := lg_ofNat_toInt h
theorem lN_div {x y : Nat} (hx : x < 2 ^ 63) (hy : y < 2 ^ 63) : lN x / lN y = lN (x / y) := by
  have hd : x / y < 2 ^ 63 := Nat.lt_of_le_of_lt (Nat.div_le_self x y) hx
  apply Int64.toInt_inj.mp
  rw [Int64.toInt_div, lN63 hx, lN63 hy, lN63 hd, Int.tdiv_eq_ediv_of_nonneg (by omega), show (x : Int) / (y : Int) = ((x / y : Nat) : Int) from (Int.natCast_ediv x y).symm]
  have key : ∀ z : Nat, z < 2 ^ 63 → ((z : Int)).bmod (2 ^ 64) = z := fun z hz => Int.bmod_eq_of_le (by omega) (by omega)
  exact key _ hd
theorem lN_ne0 {y : Nat} (h0 : 0 < y) (hy : y < 2 ^ 63) : ¬ lN y = 0 := by
  intro h
  have := congrArg Int64.toInt h
  rw [lN63 hy] at this
  have h0' : (0 : Int64).toInt = 0 := rfl
  omega
theorem lN_rem {x y : Nat} (hx : x < 2 ^ 63) (hy : y < 2 ^ 63) : lN x - lN x / lN y * lN y = lN (x % y) := by
  rw [lN_div hx hy, lN_mul, lN_sub (by rw [Nat.mul_comm]; exact Nat.mul_div_le x y)]
  congr 1
  have := Nat.div_add_mod x y
  rw [Nat.mul_comm y] at this
  omega
section ZM12
variable {G : zG} {M : zM} {k mc ms pc n : Nat} {lv : List (Option Value)} {st : List Value} {h : zF} {u : Nat × Nat} {Q : zQ}
theorem n_ldiv {x y : Nat} (hd : decode M.2.1 pc = .ok (.ldiv, 1)) (hx : x < 2 ^ 63) (h0 : 0 < y) (hy : y < 2 ^ 63) (K : zEx G M k mc ms (pc + 1) lv (.long (lN (x / y)) :: st) h n u Q) : zEx G M k mc ms pc lv (.long (lN y) :: .long (lN x) :: st) h n u Q := x_ldiv hd (lN_ne0 h0 hy) (by rw [lN_div hx hy]; exact K)
theorem n_lrem {x y : Nat} (hd : decode M.2.1 pc = .ok (.lrem, 1)) (hx : x < 2 ^ 63) (h0 : 0 < y) (hy : y < 2 ^ 63) (K : zEx G M k mc ms (pc + 1) lv (.long (lN (x % y)) :: st) h n u Q) : zEx G M k mc ms pc lv (.long (lN y) :: .long (lN x) :: st) h n u Q := x_lrem hd (lN_ne0 h0 hy) (by rw [lN_rem hx hy]; exact K)
theorem lN_inj0 {y : Nat} (hy : y < 2 ^ 63) : lN y = lN 0 ↔ y = 0 := by
  constructor
  · intro h
    have := congrArg Int64.toInt h
    rw [lN63 hy, lN63 (by decide)] at this
    omega
  · intro h; rw [h]
theorem c_common {x y : Nat} (hx : x < 2 ^ 63) (hy : y < 2 ^ 63) : zJ G MX8_common 0 [.long (lN x), .long (lN y)] h n (lN (Nat.gcd y x)) := by
  refine zCt.of rfl (Nat.le_of_ble_eq_true rfl) rfl ?_
  refine x_lload_n dX8_common_0 rfl ?_
  refine x_ls4 dX8_common_1 (by decide) rfl ?_
  refine x_lload_n dX8_common_3 rfl ?_
  refine x_ls6 dX8_common_4 (by decide) rfl ?_
  have loop : ∀ q r : Nat, q < 2 ^ 63 → r < 2 ^ 63 → Nat.gcd q r = Nat.gcd y x → ∀ o8 o9, zEx G MX8_common 0 0 0 6 [some (.long (lN x)), none, some (.long (lN y)), none, some (.long (lN r)), none, some (.long (lN q)), none, o8, o9] [] h n (0, 0) (fun r h' n' => r = some (.long (lN (Nat.gcd y x))) ∧ h' = h ∧ n' = n) := by
    intro q
    induction q using Nat.strongRecOn with
    | _ q ih =>
      intro r hq hr hg o8 o9
      refine x_lload dX8_common_6 rfl ?_
      refine x_lconst (v := lN 0) dX8_common_8 (by decide) ?_
      refine x_lcmp dX8_common_9 ?_
      refine l_if_eq (tgt := 31) dX8_common_10 (by decide) (fun c1 => ?_) (fun c1 => ?_)
      · have c1 := (lN_inj0 hq).mp c1
        refine x_lload dX8_common_31 rfl ?_
        refine x_lret dX8_common_33 rfl ⟨Nat.le_refl _, Nat.le_refl _⟩ ?_
        rw [c1, Nat.gcd_zero_left] at hg
        exact ⟨by rw [hg], rfl, rfl⟩
      · have c1 : 0 < q := Nat.pos_of_ne_zero (fun z => c1 ((lN_inj0 hq).mpr z))
        refine x_lload dX8_common_13 rfl ?_
        refine x_lload dX8_common_15 rfl ?_
        refine n_lrem dX8_common_17 hr c1 hq ?_
        refine x_ls8 dX8_common_18 (by decide) rfl ?_
        refine x_lload dX8_common_20 rfl ?_
        refine x_ls4 dX8_common_22 (by decide) rfl ?_
        refine x_lload dX8_common_24 rfl ?_
        refine x_ls6 dX8_common_26 (by decide) rfl ?_
        refine x_goto (tgt := 6) dX8_common_28 (by decide) ?_
        have hlt : r % q < q := Nat.mod_lt _ c1
        exact ih (r % q) hlt q (by omega) hq (by rw [← Nat.gcd_rec]; exact hg) _ _
  exact loop y x hy hx rfl _ _
end ZM12
section ZM13
variable {G : zG} {n : Nat} {h0 : zF} {a : Nat} {I : Nat → Nat} {A : Nat → Nat → Nat} {B : Nat → Nat}
/-- what a scene's answers may be -/
def sOK (A : Nat → Nat → Nat) (S : Nat → Nat) : Prop := S 8 ≤ 12 ∧ ∀ k, k < S 8 → S (9 + k) < 4000 ∧ S (9 + k) / 4 % 4 < A 7 0
def fSeconds (A : Nat → Nat → Nat) : Nat := zsum 0 (fun k => A 14 (A 17 (9 + k) % 4)) (A 17 8)
theorem c_secondsM (hs : sOK A (A 17)) : zI G MX8_seconds 0 [.ref a] (mH h0 a I A B) n (nI (fSeconds A)) := by
  refine zCt.of rfl (Nat.le_of_ble_eq_true rfl) rfl ?_
  refine x_iconst (v := nI 0) dX8_seconds_0 (by decide) ?_
  refine x_is1 dX8_seconds_1 (by decide) rfl ?_
  refine x_iconst (v := nI 0) dX8_seconds_2 (by decide) ?_
  refine x_is2 dX8_seconds_3 (by decide) rfl ?_
  refine z_up (A 17 8) (P := fun i => zEx G MX8_seconds 0 0 0 4 [some (.ref a), some (.int (nI (zsum 0 (fun k => A 14 (A 17 (9 + k) % 4)) i))), some (.int (nI i))] [] (mH h0 a I A B) n (0, 0) _) ?_ 0 (Nat.zero_le _)
  intro i hi ih
  have h12 := hs.1
  refine x_iload_n dX8_seconds_4 rfl ?_
  refine x_aload_n dX8_seconds_5 rfl ?_
  refine x_getf dX8_seconds_6 flX8_58 mH_a rfl ?_
  refine x_bipush (v := nI 8) dX8_seconds_9 (by decide) ?_
  refine m_iald dX8_seconds_11 rfl (by simp only [mLen]; omega) (by decide) ?_
  refine n_icmp_ge (tgt := 40) dX8_seconds_12 (by decide) (by omega) (by omega) (fun hc => ?_) (fun hc => ?_)
  · refine x_iload_n dX8_seconds_40 rfl ?_
    refine x_iret dX8_seconds_41 rfl rfl ⟨Nat.le_refl _, Nat.le_refl _⟩ ?_
    exact ⟨by rw [show i = A 17 8 by omega]; rfl, rfl, rfl⟩
  · have h9 := (hs.2 i (by omega)).1
    refine x_iload_n dX8_seconds_15 rfl ?_
    refine x_aload_n dX8_seconds_16 rfl ?_
    refine x_getf dX8_seconds_17 flX8_49 mH_a rfl ?_
    refine x_aload_n dX8_seconds_20 rfl ?_
    refine x_getf dX8_seconds_21 flX8_58 mH_a rfl ?_
    refine x_bipush (v := nI 9) dX8_seconds_24 (by decide) ?_
    refine x_iload_n dX8_seconds_26 rfl ?_
    refine n_iadd dX8_seconds_27 ?_
    refine m_iald dX8_seconds_28 rfl (by simp only [mLen]; omega) (by decide) ?_
    refine x_iconst (v := nI 4) dX8_seconds_29 (by decide) ?_
    refine n_irem dX8_seconds_30 (by omega) (by omega) (by omega) ?_
    refine m_iald dX8_seconds_31 rfl (by simp only [mLen]; omega) (by decide) ?_
    refine n_iadd dX8_seconds_32 ?_
    refine x_is1 dX8_seconds_33 (by decide) rfl ?_
    refine n_ii2 (w := 1) dX8_seconds_34 (by decide) (by decide) rfl ?_
    refine x_goto (tgt := 4) dX8_seconds_37 (by decide) ?_
    exact ih (by omega)
def rkN (A : Nat → Nat → Nat) : Nat → Nat := zprod 1 (fun k => 10 - A 13 (A 17 (9 + k) % 4))
def rkA : Nat → Nat := zprod 1 (fun _ => 10)
theorem rkA_le : ∀ m, m ≤ 12 → 1 ≤ rkA m ∧ rkA m ≤ 10 ^ 12 := by decide
theorem rk_le (A : Nat → Nat → Nat) : ∀ m, rkN A m ≤ rkA m
  | 0 => Nat.le_refl _
  | m + 1 => Nat.mul_le_mul (rk_le A m) (Nat.sub_le _ _)
def fRisk (A : Nat → Nat → Nat) (part : Int32) : Int64 := if bR part 2 then (if part = 0 then lN ((rkA (A 17 8) - rkN A (A 17 8)) / Nat.gcd (rkA (A 17 8)) (rkA (A 17 8) - rkN A (A 17 8))) else lN (rkA (A 17 8) / Nat.gcd (rkA (A 17 8)) (rkA (A 17 8) - rkN A (A 17 8)))) else -1
theorem c_riskM {x : Int32} (hs : sOK A (A 17)) (h13 : ∀ k, k < 4 → A 13 k ≤ 9) : zJ G MX8_risk 1 [.ref a, .int x] (mH h0 a I A B) n (fRisk A x) := by
  refine zCt.of rfl (Nat.le_of_ble_eq_true rfl) rfl ?_
  refine x_iload_n dX8_risk_0 rfl ?_
  refine x_i2l dX8_risk_1 rfl ?_
  refine x_lconst (v := lN 0) dX8_risk_2 (by decide) ?_
  refine x_lconst (v := lN 1) dX8_risk_3 (by decide) ?_
  refine x_cSi3 dX8_risk_4 lkX8_109 mdX8_in stX8_in (by decide) (c_inR x (by decide)) (Nat.le_of_ble_eq_true rfl) ⟨Nat.le_refl _, Nat.le_refl _⟩ ?_
  refine b_if_ne (tgt := 14) dX8_risk_7 (by decide) (fun c1 => ?_) (fun c1 => ?_)
  · have c1 : bR x 2 = true := c1
    refine x_lconst (v := lN 1) dX8_risk_14 (by decide) ?_
    refine x_ls2 dX8_risk_15 (by decide) rfl ?_
    refine x_lconst (v := lN 1) dX8_risk_16 (by decide) ?_
    refine x_ls4 dX8_risk_17 (by decide) rfl ?_
    refine x_iconst (v := nI 0) dX8_risk_19 (by decide) ?_
    refine x_is6 dX8_risk_20 (by decide) rfl ?_
    refine z_up (A 17 8) (P := fun i => zEx G MX8_risk 1 0 0 22 [some (.ref a), some (.int x), some (.long (lN (rkN A i))), none, some (.long (lN (rkA i))), none, some (.int (nI i)), none] [] (mH h0 a I A B) n (0, 0) _) ?_ 0 (Nat.zero_le _)
    intro i hi ih
    have h12 := hs.1
    have hra := rkA_le i (by omega)
    have hrn := rk_le A i
    refine x_iload dX8_risk_22 rfl ?_
    refine x_aload_n dX8_risk_24 rfl ?_
    refine x_getf dX8_risk_25 flX8_58 mH_a rfl ?_
    refine x_bipush (v := nI 8) dX8_risk_28 (by decide) ?_
    refine m_iald dX8_risk_30 rfl (by simp only [mLen]; omega) (by decide) ?_
    refine n_icmp_ge (tgt := 72) dX8_risk_31 (by decide) (by omega) (by omega) (fun hc => ?_) (fun hc => ?_)
    · have hie : i = A 17 8 := by omega
      rw [hie] at hra hrn ⊢
      have hr63 : rkA (A 17 8) < 2 ^ 63 := Nat.lt_of_le_of_lt hra.2 (by decide)
      have hgp : 0 < Nat.gcd (rkA (A 17 8)) (rkA (A 17 8) - rkN A (A 17 8)) := Nat.gcd_pos_of_pos_left _ hra.1
      have hgl : Nat.gcd (rkA (A 17 8)) (rkA (A 17 8) - rkN A (A 17 8)) ≤ rkA (A 17 8) := Nat.gcd_le_left _ hra.1
      refine x_lload dX8_risk_72 rfl ?_
      refine x_lload_n dX8_risk_74 rfl ?_
      refine n_lsub dX8_risk_75 (by omega) ?_
      refine x_lload dX8_risk_76 rfl ?_
      refine x_cSj2 dX8_risk_78 lkX8_232 mdX8_common stX8_common (by decide) (c_common (by omega) hr63) (Nat.le_of_ble_eq_true rfl) ⟨Nat.le_refl _, Nat.le_refl _⟩ ?_
      refine x_ls6 dX8_risk_81 (by decide) rfl ?_
      refine x_iload_n dX8_risk_83 rfl ?_
      refine x_if_ne (tgt := 97) dX8_risk_84 (by decide) (fun c2 => ?_) (fun c2 => ?_)
      · refine x_lload dX8_risk_97 rfl ?_
        refine x_lload dX8_risk_99 rfl ?_
        refine n_ldiv dX8_risk_101 hr63 hgp (by omega) ?_
        refine x_lret dX8_risk_102 rfl ⟨Nat.le_refl _, Nat.le_refl _⟩ ?_
        exact ⟨by unfold fRisk; rw [if_pos c1, if_neg c2], rfl, rfl⟩
      · refine x_lload dX8_risk_87 rfl ?_
        refine x_lload_n dX8_risk_89 rfl ?_
        refine n_lsub dX8_risk_90 (by omega) ?_
        refine x_lload dX8_risk_91 rfl ?_
        refine n_ldiv dX8_risk_93 (by omega) hgp (by omega) ?_
        refine x_goto (tgt := 102) dX8_risk_94 (by decide) ?_
        refine x_lret dX8_risk_102 rfl ⟨Nat.le_refl _, Nat.le_refl _⟩ ?_
        exact ⟨by unfold fRisk; rw [if_pos c1, if_pos c2], rfl, rfl⟩
    · have h9 := (hs.2 i (by omega)).1
      have h13k := h13 (A 17 (9 + i) % 4) (Nat.mod_lt _ (by decide))
      refine x_lload_n dX8_risk_34 rfl ?_
      refine x_bipush (v := nI 10) dX8_risk_35 (by decide) ?_
      refine x_aload_n dX8_risk_37 rfl ?_
      refine x_getf dX8_risk_38 flX8_46 mH_a rfl ?_
      refine x_aload_n dX8_risk_41 rfl ?_
      refine x_getf dX8_risk_42 flX8_58 mH_a rfl ?_
      refine x_bipush (v := nI 9) dX8_risk_45 (by decide) ?_
      refine x_iload dX8_risk_47 rfl ?_
      refine n_iadd dX8_risk_49 ?_
      refine m_iald dX8_risk_50 rfl (by simp only [mLen]; omega) (by decide) ?_
      refine x_iconst (v := nI 4) dX8_risk_51 (by decide) ?_
      refine n_irem dX8_risk_52 (by omega) (by omega) (by omega) ?_
      refine m_iald dX8_risk_53 rfl (by simp only [mLen]; omega) (by decide) ?_
      refine n_isub dX8_risk_54 (by omega) ?_
      refine n_i2l dX8_risk_55 (by omega) ?_
      refine n_lmul dX8_risk_56 ?_
      refine x_ls2 dX8_risk_57 (by decide) rfl ?_
      refine x_lload dX8_risk_58 rfl ?_
      refine x_ldc2 (v := lN 10) dX8_risk_60 coX8_264 ?_
      refine n_lmul dX8_risk_63 ?_
      refine x_ls4 dX8_risk_64 (by decide) rfl ?_
      refine n_ii6 (w := 1) dX8_risk_66 (by decide) (by decide) rfl ?_
      refine x_goto (tgt := 22) dX8_risk_69 (by decide) ?_
      exact ih (by omega)
  · have c1 : bR x 2 = false := c1
    refine x_ldc2 (v := -1) dX8_risk_10 coX8_224 ?_
    refine x_lret dX8_risk_13 rfl ⟨Nat.le_refl _, Nat.le_refl _⟩ ?_
    exact ⟨by unfold fRisk; rw [c1]; rfl, rfl, rfl⟩
/-- whether a code fits the first k answers of a scene -/
def fitT (A : Nat → Nat → Nat) (S : Nat → Nat) (w : Nat) : Nat → Bool
  | 0 => true
  | k + 1 => fitT A S w k && decide (ansF A (S (9 + k) / 4 % 4) (S (9 + k) % 4) (sI w (S (9 + k) / 4 % 4)) 0 = S (9 + k) / 16)
theorem fitT_false {A : Nat → Nat → Nat} {S : Nat → Nat} {w k : Nat} (h : fitT A S w k = false) : ∀ d, fitT A S w (k + d) = false
  | 0 => h
  | d + 1 => by rw [show k + (d + 1) = k + d + 1 from rfl, fitT, fitT_false h d]; rfl
theorem ansF_lt {A : Nat → Nat → Nat} {p sort s f : Nat} (hk : tR A) (hp : p < A 7 0) (hs : s < 256) (hf : f < 100) : ansF A p sort s f < 300 := by
  obtain ⟨k2, k7, k3, k4, k5, k6, k8⟩ := hk
  have hw := wOf_le (p := p) (s := s) k2 (fun t ht => (k3 t ht).1.2)
  have hbx := (k4 p hp).1
  have hpl := pop_lt s hs
  have hdv : (wOf A p s + f) / A 11 0 ≤ wOf A p s + f := Nat.div_le_self _ _
  unfold ansF
  split
  · omega
  · split <;> split <;> omega
  · omega
  · split <;> omega
theorem ansF_up {A : Nat → Nat → Nat} {q : Nat} {f : Nat → Nat} (hq : 15 ≤ q) (p so s x : Nat) : ansF (va_up A q f) p so s x = ansF A p so s x := by
  unfold ansF wOf mnOf
  simp only [up_ne A f (show (8 : Nat) ≠ q by omega), up_ne A f (show (3 : Nat) ≠ q by omega), up_ne A f (show (2 : Nat) ≠ q by omega), up_ne A f (show (4 : Nat) ≠ q by omega), up_ne A f (show (11 : Nat) ≠ q by omega)]
theorem fitT_up {A : Nat → Nat → Nat} {q : Nat} {f : Nat → Nat} (hq : 15 ≤ q) (S : Nat → Nat) (w : Nat) : ∀ k, fitT (va_up A q f) S w k = fitT A S w k
  | 0 => rfl
  | k + 1 => by rw [fitT, fitT, fitT_up hq S w k, ansF_up hq]
theorem c_fits {w m : Nat} (hk : tR A) (hs : sOK A (A 17)) (hw : w < 5040) (hm : m ≤ A 17 8) : zI G MX8_fits 3 [.ref a, .int (nI w), .int (nI m)] (mH h0 a I A B) n (nI (fitT A (A 17) (A 16 w) m).toNat) := by
  refine zCt.of rfl (Nat.le_of_ble_eq_true rfl) rfl ?_
  refine x_iconst (v := nI 1) dX8_fits_0 (by decide) ?_
  refine x_is3 dX8_fits_1 (by decide) rfl ?_
  refine x_iconst (v := nI 0) dX8_fits_2 (by decide) ?_
  refine x_is4 dX8_fits_3 (by decide) rfl ?_
  have key : ∀ i, i ≤ m → ∀ o5, zEx G MX8_fits 3 0 0 5 [some (.ref a), some (.int (nI w)), some (.int (nI m)), some (.int (nI (fitT A (A 17) (A 16 w) i).toNat)), some (.int (nI i)), o5] [] (mH h0 a I A B) n (0, 0) (fun r h' n' => r = some (.int (nI (fitT A (A 17) (A 16 w) m).toNat)) ∧ h' = mH h0 a I A B ∧ n' = n) := by
    refine z_up m ?_
    intro i hi ih o5
    have h12 := hs.1
    refine x_iload dX8_fits_5 rfl ?_
    refine x_iload_n dX8_fits_7 rfl ?_
    refine n_icmp_ge (tgt := 89) dX8_fits_8 (by decide) (by omega) (by omega) (fun hc => ?_) (fun hc => ?_)
    · refine x_iload_n dX8_fits_89 rfl ?_
      refine x_iret dX8_fits_90 rfl (nar_b _) ⟨Nat.le_refl _, Nat.le_refl _⟩ ?_
      exact ⟨by rw [show i = m by omega], rfl, rfl⟩
    · refine x_iload_n dX8_fits_11 rfl ?_
      refine b_if_eq (tgt := 89) dX8_fits_12 (by decide) (fun c1 => ?_) (fun c1 => ?_)
      · rw [c1]
        refine x_iload_n dX8_fits_89 rfl ?_
        refine x_iret dX8_fits_90 rfl rfl ⟨Nat.le_refl _, Nat.le_refl _⟩ ?_
        refine ⟨?_, rfl, rfl⟩
        have := fitT_false c1 (m - i)
        rw [show i + (m - i) = m by omega] at this
        rw [this]
      · have h9 := hs.2 i (by omega)
        have hal := ansF_lt (sort := A 17 (9 + i) % 4) (f := 0) hk h9.2 (sI_lt (A 16 w) (A 17 (9 + i) / 4 % 4)) (by decide)
        have hp4 : A 17 (9 + i) / 4 % 4 < 4 := Nat.mod_lt _ (by decide)
        rw [c1]
        refine x_aload_n dX8_fits_15 rfl ?_
        refine x_getf dX8_fits_16 flX8_58 mH_a rfl ?_
        refine x_bipush (v := nI 9) dX8_fits_19 (by decide) ?_
        refine x_iload dX8_fits_21 rfl ?_
        refine n_iadd dX8_fits_23 ?_
        refine m_iald dX8_fits_24 rfl (by simp only [mLen]; omega) (by decide) ?_
        refine x_iconst (v := nI 4) dX8_fits_25 (by decide) ?_
        refine n_idiv dX8_fits_26 (by omega) (by omega) (by omega) ?_
        refine x_iconst (v := nI 4) dX8_fits_27 (by decide) ?_
        refine n_irem dX8_fits_28 (by omega) (by omega) (by omega) ?_
        refine x_is5 dX8_fits_29 (by decide) rfl ?_
        refine x_aload_n dX8_fits_31 rfl ?_
        refine x_iload dX8_fits_32 rfl ?_
        refine x_aload_n dX8_fits_34 rfl ?_
        refine x_getf dX8_fits_35 flX8_58 mH_a rfl ?_
        refine x_bipush (v := nI 9) dX8_fits_38 (by decide) ?_
        refine x_iload dX8_fits_40 rfl ?_
        refine n_iadd dX8_fits_42 ?_
        refine m_iald dX8_fits_43 rfl (by simp only [mLen]; omega) (by decide) ?_
        refine x_iconst (v := nI 4) dX8_fits_44 (by decide) ?_
        refine n_irem dX8_fits_45 (by omega) (by omega) (by omega) ?_
        refine x_aload_n dX8_fits_46 rfl ?_
        refine x_getf dX8_fits_47 flX8_55 mH_a rfl ?_
        refine x_iload_n dX8_fits_50 rfl ?_
        refine m_iald dX8_fits_51 rfl (by simp only [mLen]; omega) (by decide) ?_
        refine x_iload dX8_fits_52 rfl ?_
        refine x_cSi2 dX8_fits_54 lkX8_192 mdX8_setIn stX8_setIn (by decide) (c_setIn _ hp4) (Nat.le_of_ble_eq_true rfl) ⟨Nat.le_refl _, Nat.le_refl _⟩ ?_
        refine x_iconst (v := nI 0) dX8_fits_57 (by decide) ?_
        refine x_cVi4 dX8_fits_58 lkX8_203 mdX8_answerOf isX8_answerOf rfl rfl mH_a (by decide) (c_answerOf hk h9.2 (Nat.mod_lt _ (by decide)) (sI_lt _ _) (by decide)) (Nat.le_of_ble_eq_true rfl) ⟨Nat.le_refl _, Nat.le_refl _⟩ ?_
        refine x_aload_n dX8_fits_61 rfl ?_
        refine x_getf dX8_fits_62 flX8_58 mH_a rfl ?_
        refine x_bipush (v := nI 9) dX8_fits_65 (by decide) ?_
        refine x_iload dX8_fits_67 rfl ?_
        refine n_iadd dX8_fits_69 ?_
        refine m_iald dX8_fits_70 rfl (by simp only [mLen]; omega) (by decide) ?_
        refine x_bipush (v := nI 16) dX8_fits_71 (by decide) ?_
        refine n_idiv dX8_fits_73 (by omega) (by omega) (by omega) ?_
        have ih9 := ih (by omega)
        refine n_icmp_ne (tgt := 81) dX8_fits_74 (by decide) (by omega) (by omega) (fun c2 => ?_) (fun c2 => ?_)
        · refine x_iconst (v := nI 0) dX8_fits_81 (by decide) ?_
          refine x_is3 dX8_fits_82 (by decide) rfl ?_
          refine n_ii4 (w := 1) dX8_fits_83 (by decide) (by decide) rfl ?_
          refine x_goto (tgt := 5) dX8_fits_86 (by decide) ?_
          have := ih9 (some (.int (nI (A 17 (9 + i) / 4 % 4))))
          rw [fitT, c1, decide_eq_false c2] at this
          exact this
        · refine x_iconst (v := nI 1) dX8_fits_77 (by decide) ?_
          refine x_goto (tgt := 82) dX8_fits_78 (by decide) ?_
          refine x_is3 dX8_fits_82 (by decide) rfl ?_
          refine n_ii4 (w := 1) dX8_fits_83 (by decide) (by decide) rfl ?_
          refine x_goto (tgt := 5) dX8_fits_86 (by decide) ?_
          have := ih9 (some (.int (nI (A 17 (9 + i) / 4 % 4))))
          rw [fitT, c1, decide_eq_true c2] at this
          exact this
  exact key 0 (Nat.zero_le _) _
/-- which worlds are left behind k answers, and how many -/
def lf (A : Nat → Nat → Nat) (k w : Nat) : Bool := fitT A (A 17) (A 16 w) k
def mayF (A : Nat → Nat → Nat) (k i : Nat) : Nat → Nat := fun w => if w < i then (lf A k w).toNat else A 22 w
def nLeft (A : Nat → Nat → Nat) (k : Nat) : Nat → Nat := zsum 0 (fun w => (lf A k w).toNat)
theorem nLeft_le (A : Nat → Nat → Nat) (k : Nat) : ∀ N, nLeft A k N ≤ N
  | 0 => Nat.le_refl _
  | N + 1 => by
    have := nLeft_le A k N
    show nLeft A k N + (lf A k N).toNat ≤ _
    cases lf A k N <;> simp <;> omega
theorem lf_up {A : Nat → Nat → Nat} {q : Nat} {f : Nat → Nat} (hq : 18 ≤ q) (k w : Nat) : lf (va_up A q f) k w = lf A k w := by
  unfold lf
  rw [fitT_up (by omega), up_ne A f (show (17 : Nat) ≠ q by omega), up_ne A f (show (16 : Nat) ≠ q by omega)]
theorem nLeft_up {A : Nat → Nat → Nat} {q : Nat} {f : Nat → Nat} (hq : 18 ≤ q) (k N : Nat) : nLeft (va_up A q f) k N = nLeft A k N := by
  unfold nLeft
  congr 1
  funext w
  rw [lf_up hq]
theorem mayF_up {A : Nat → Nat → Nat} {f : Nat → Nat} (k N : Nat) (w : Nat) (hw : w < N) : mayF (va_up A 22 f) k N w = (lf A k w).toNat := by
  unfold mayF
  rw [if_pos hw, lf_up (by decide)]
theorem c_layLeft {m : Nat} (hk : tR A) (hs : sOK A (A 17)) (hm : m ≤ A 17 8) (h17 : I 17 ≤ 5040) : zPi G MX8_layLeft 4 [.ref a, .int (nI m)] (mH h0 a I A B) n (fun v h' => v = nI (nLeft A m (I 17)) ∧ h' = mH h0 a I (va_up A 22 (mayF A m (I 17))) B) := by
  refine zCt.of rfl (Nat.le_of_ble_eq_true rfl) rfl ?_
  refine x_iconst (v := nI 0) dX8_layLeft_0 (by decide) ?_
  refine x_is2 dX8_layLeft_1 (by decide) rfl ?_
  refine x_iconst (v := nI 0) dX8_layLeft_2 (by decide) ?_
  refine x_is3 dX8_layLeft_3 (by decide) rfl ?_
  refine x_eqA (A' := va_up A 22 (mayF A m 0)) (by funext k j; simp only [va_up, ite_app, mayF]; grind) ?_
  refine z_up (I 17) (P := fun i => zEx G MX8_layLeft 4 0 0 4 [some (.ref a), some (.int (nI m)), some (.int (nI (nLeft A m i))), some (.int (nI i))] [] (mH h0 a I (va_up A 22 (mayF A m i)) B) n (0, 0) _) ?_ 0 (Nat.zero_le _)
  intro i hi ih
  refine x_iload_n dX8_layLeft_4 rfl ?_
  refine x_aload_n dX8_layLeft_5 rfl ?_
  refine x_getf dX8_layLeft_6 flX8_172 mH_a rfl ?_
  refine n_icmp_ge (tgt := 47) dX8_layLeft_9 (by decide) (by omega) (by omega) (fun hc => ?_) (fun hc => ?_)
  · have hie : i = I 17 := by omega
    subst hie
    refine x_iload_n dX8_layLeft_47 rfl ?_
    refine x_iret dX8_layLeft_48 rfl rfl ⟨Nat.le_refl _, Nat.le_refl _⟩ ?_
    exact ⟨_, rfl, ⟨rfl, rfl⟩, rfl⟩
  · have cfit : zI G MX8_fits 3 [.ref a, .int (nI i), .int (nI m)] (mH h0 a I (va_up A 22 (mayF A m i)) B) n (nI (lf A m i).toNat) := by
      have := c_fits (G := G) (n := n) (h0 := h0) (a := a) (I := I) (B := B) (A := va_up A 22 (mayF A m i)) (w := i) hk hs (by omega) hm
      rw [fitT_up (by decide)] at this
      exact this
    have ih9 := ih (by omega)
    have eA : va_up (va_up A 22 (mayF A m i)) 22 (va_up ((va_up A 22 (mayF A m i)) 22) i (lf A m i).toNat) = va_up A 22 (mayF A m (i + 1)) := by
      funext k j; simp only [va_up, ite_app, mayF]; grind
    have eN : nLeft A m (i + 1) = nLeft A m i + (lf A m i).toNat := rfl
    rw [eN] at ih9
    refine x_aload_n dX8_layLeft_12 rfl ?_
    refine x_getf dX8_layLeft_13 flX8_73 mH_a rfl ?_
    refine x_iload_n dX8_layLeft_16 rfl ?_
    refine x_aload_n dX8_layLeft_17 rfl ?_
    refine x_iload_n dX8_layLeft_18 rfl ?_
    refine x_iload_n dX8_layLeft_19 rfl ?_
    refine x_cVi2 dX8_layLeft_20 lkX8_218 mdX8_fits isX8_fits rfl rfl mH_a (by decide) (cfit) (Nat.le_of_ble_eq_true rfl) ⟨Nat.le_refl _, Nat.le_refl _⟩ ?_
    refine m_zast dX8_layLeft_23 rfl (by simp only [mLen]; omega) (by decide) ?_
    refine x_eqA eA ?_
    refine x_iload_n dX8_layLeft_24 rfl ?_
    refine x_aload_n dX8_layLeft_25 rfl ?_
    refine x_getf dX8_layLeft_26 flX8_73 mH_a rfl ?_
    refine x_iload_n dX8_layLeft_29 rfl ?_
    refine m_zald (j := i) dX8_layLeft_30 rfl (by simp only [mLen]; omega) (by decide) ?_
    have em : (va_up A 22 (mayF A m (i + 1))) 22 i = (lf A m i).toNat := by
      show mayF A m (i + 1) i = _
      unfold mayF; rw [if_pos (by omega)]
    rw [em]
    refine b_if_eq (tgt := 38) dX8_layLeft_31 (by decide) (fun c1 => ?_) (fun c1 => ?_)
    · refine x_iconst (v := nI 0) dX8_layLeft_38 (by decide) ?_
      refine n_iadd dX8_layLeft_39 ?_
      refine x_is2 dX8_layLeft_40 (by decide) rfl ?_
      refine n_ii3 (w := 1) dX8_layLeft_41 (by decide) (by decide) rfl ?_
      refine x_goto (tgt := 4) dX8_layLeft_44 (by decide) ?_
      rw [c1] at ih9
      exact ih9
    · refine x_iconst (v := nI 1) dX8_layLeft_34 (by decide) ?_
      refine x_goto (tgt := 39) dX8_layLeft_35 (by decide) ?_
      refine n_iadd dX8_layLeft_39 ?_
      refine x_is2 dX8_layLeft_40 (by decide) rfl ?_
      refine n_ii3 (w := 1) dX8_layLeft_41 (by decide) (by decide) rfl ?_
      refine x_goto (tgt := 4) dX8_layLeft_44 (by decide) ?_
      rw [c1] at ih9
      exact ih9
theorem c_leftM (hk : tR A) (hs : sOK A (A 17)) (h17 : I 17 ≤ 5040) : zPi G MX8_left 5 [.ref a] (mH h0 a I A B) n (fun v h' => v = nI (nLeft A (A 17 8) (I 17)) ∧ h' = mH h0 a I (va_up A 22 (mayF A (A 17 8) (I 17))) B) := by
  refine zCt.of rfl (Nat.le_of_ble_eq_true rfl) rfl ?_
  refine x_aload_n dX8_left_0 rfl ?_
  refine x_aload_n dX8_left_1 rfl ?_
  refine x_getf dX8_left_2 flX8_58 mH_a rfl ?_
  refine x_bipush (v := nI 8) dX8_left_5 (by decide) ?_
  refine m_iald dX8_left_7 rfl (by simp only [mLen]; omega) (by decide) ?_
  refine x_cVI1 dX8_left_8 lkX8_221 mdX8_layLeft isX8_layLeft rfl rfl mH_a (by decide) (c_layLeft hk hs (Nat.le_refl _) h17) (Nat.le_of_ble_eq_true rfl) ⟨Nat.le_refl _, Nat.le_refl _⟩ ?_
  rintro v h' ⟨rfl, rfl⟩
  refine x_iret dX8_left_11 rfl rfl ⟨Nat.le_refl _, Nat.le_refl _⟩ ?_
  exact ⟨_, rfl, ⟨rfl, rfl⟩, rfl⟩
/-- the first answer behind which none is left, from the k-th on -/
def jdF (I : Nat → Nat) (A : Nat → Nat → Nat) : Nat → Nat → Int32
  | 0, _ => -4
  | r + 1, k => if nLeft A (k + 1) (I 17) = 0 then nI k else jdF I A r (k + 1)
theorem c_judgeM (hk : tR A) (hs : sOK A (A 17)) (h17 : I 17 ≤ 5040) : zPi G MX8_judge 5 [.ref a] (mH h0 a I A B) n (fun v h' => v = jdF I A (A 17 8) 0 ∧ ∃ f, h' = mH h0 a I (va_up A 22 f) B) := by
  refine zCt.of rfl (Nat.le_of_ble_eq_true rfl) rfl ?_
  refine x_iconst (v := nI 1) dX8_judge_0 (by decide) ?_
  refine x_is1 dX8_judge_1 (by decide) rfl ?_
  have key : ∀ r k : Nat, r + k = A 17 8 → ∀ f : Nat → Nat, zEx G MX8_judge 5 0 0 2 [some (.ref a), some (.int (nI (k + 1)))] [] (mH h0 a I (va_up A 22 f) B) n (0, 0) (fun r1 h' n' => ∃ v, r1 = some (.int v) ∧ (v = jdF I A r k ∧ ∃ f, h' = mH h0 a I (va_up A 22 f) B) ∧ n' = n) := by
    have h12 := hs.1
    intro r
    induction r with
    | zero =>
      intro k hrk f
      refine x_iload_n dX8_judge_2 rfl ?_
      refine x_aload_n dX8_judge_3 rfl ?_
      refine x_getf dX8_judge_4 flX8_58 mH_a rfl ?_
      refine x_bipush (v := nI 8) dX8_judge_7 (by decide) ?_
      refine m_iald (A := va_up A 22 f) (j := 8) dX8_judge_9 rfl (by simp only [mLen]; omega) (by decide) ?_
      have e8 : (va_up A 22 f) 17 8 = A 17 8 := rfl
      rw [e8]
      refine n_icmp_gt (tgt := 31) dX8_judge_10 (by decide) (by omega) (by omega) (fun c1 => ?_) (fun c1 => ?_)
      · refine x_bipush (v := -4) dX8_judge_31 (by decide) ?_
        refine x_iret dX8_judge_33 rfl rfl ⟨Nat.le_refl _, Nat.le_refl _⟩ ?_
        exact ⟨_, rfl, ⟨rfl, f, rfl⟩, rfl⟩
      · exact absurd hrk (by omega)
    | succ r ih =>
      intro k hrk f
      refine x_iload_n dX8_judge_2 rfl ?_
      refine x_aload_n dX8_judge_3 rfl ?_
      refine x_getf dX8_judge_4 flX8_58 mH_a rfl ?_
      refine x_bipush (v := nI 8) dX8_judge_7 (by decide) ?_
      refine m_iald (A := va_up A 22 f) (j := 8) dX8_judge_9 rfl (by simp only [mLen]; omega) (by decide) ?_
      have e8 : (va_up A 22 f) 17 8 = A 17 8 := rfl
      rw [e8]
      refine n_icmp_gt (tgt := 31) dX8_judge_10 (by decide) (by omega) (by omega) (fun c1 => ?_) (fun c1 => ?_)
      · exact absurd hrk (by omega)
      · have cl : zPi G MX8_layLeft 4 [.ref a, .int (nI (k + 1))] (mH h0 a I (va_up A 22 f) B) n (fun v h' => v = nI (nLeft A (k + 1) (I 17)) ∧ h' = mH h0 a I (va_up (va_up A 22 f) 22 (mayF (va_up A 22 f) (k + 1) (I 17))) B) := by
          have := c_layLeft (G := G) (h0 := h0) (a := a) (B := B) (n := n) (A := va_up A 22 f) (I := I) (m := k + 1) hk hs (show k + 1 ≤ A 17 8 by omega) h17
          rw [nLeft_up (by decide)] at this
          exact this
        refine x_aload_n dX8_judge_13 rfl ?_
        refine x_iload_n dX8_judge_14 rfl ?_
        refine x_cVI1 dX8_judge_15 lkX8_221 mdX8_layLeft isX8_layLeft rfl rfl mH_a (by decide) (cl) (Nat.le_of_ble_eq_true rfl) ⟨Nat.le_refl _, Nat.le_refl _⟩ ?_
        rintro v h' ⟨rfl, rfl⟩
        have hnl := nLeft_le A (k + 1) (I 17)
        rw [up_up]
        refine n_if_ne (tgt := 25) dX8_judge_18 (by decide) (by omega) (fun c2 => ?_) (fun c2 => ?_)
        · refine n_ii1 (w := 1) dX8_judge_25 (by decide) (by decide) rfl ?_
          refine x_goto (tgt := 2) dX8_judge_28 (by decide) ?_
          refine zEx.post (ih (k + 1) (by omega) _) ?_
          rintro r1 h' n' ⟨v, rfl, ⟨rfl, hf⟩, rfl⟩
          exact ⟨_, rfl, ⟨by rw [jdF, if_neg c2], hf⟩, rfl⟩
        · refine x_iload_n dX8_judge_21 rfl ?_
          refine x_iconst (v := nI 1) dX8_judge_22 (by decide) ?_
          refine n_isub dX8_judge_23 (by omega) ?_
          refine x_iret dX8_judge_24 rfl rfl ⟨Nat.le_refl _, Nat.le_refl _⟩ ?_
          exact ⟨_, rfl, ⟨by rw [jdF, if_pos c2]; rfl, _, rfl⟩, rfl⟩
  have := key (A 17 8) 0 rfl (A 22)
  rw [up_self] at this
  exact this
end ZM13
