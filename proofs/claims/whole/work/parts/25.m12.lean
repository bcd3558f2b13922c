section ZM14
variable {G : zG} {n : Nat} {h0 : zF} {a : Nat} {I : Nat → Nat} {A : Nat → Nat → Nat} {B : Nat → Nat}
def inAny (c t : Nat) : Nat → Bool
  | 0 => false
  | p + 1 => inAny c t p || (sI c p).testBit t
/-- what a world weighs -/
def wgt (A : Nat → Nat → Nat) (c : Nat) : Nat := zprod 1 (fun t => if inAny c t (A 7 0) then A 6 t else 1) (A 2 0)
theorem zprod_le {f : Nat → Nat} {m : Nat} : ∀ (N : Nat), (∀ t, t < N → 1 ≤ f t ∧ f t ≤ m) → 1 ≤ zprod 1 f N ∧ zprod 1 f N ≤ m ^ N
  | 0, _ => ⟨Nat.le_refl _, Nat.le_refl _⟩
  | N + 1, h => by
    have h1 := zprod_le N (fun t ht => h t (by omega))
    have h2 := h N (by omega)
    exact ⟨Nat.le_trans (by decide : 1 ≤ 1 * 1) (Nat.mul_le_mul h1.1 h2.1), Nat.le_trans (Nat.mul_le_mul h1.2 h2.2) (by rw [Nat.pow_succ]; exact Nat.le_refl _)⟩
theorem wgt_le {A : Nat → Nat → Nat} (hk : tR A) (c : Nat) : 1 ≤ wgt A c ∧ wgt A c ≤ 43046721 := by
  have h1 := zprod_le (f := fun t => if inAny c t (A 7 0) then A 6 t else 1) (m := 9) (A 2 0) (fun t ht => by
    have := (hk.2.2.1 t ht).2.2.2
    show 1 ≤ (if inAny c t (A 7 0) then A 6 t else 1) ∧ (if inAny c t (A 7 0) then A 6 t else 1) ≤ 9
    split <;> omega)
  exact ⟨h1.1, Nat.le_trans h1.2 (Nat.le_trans (Nat.pow_le_pow_right (by decide) hk.1) (by decide : 9 ^ 8 ≤ 43046721))⟩
theorem c_weighs {w : Nat} (hk : tR A) (hw : w < 5040) : zJ G MX8_weighs 1 [.ref a, .int (nI w)] (mH h0 a I A B) n (lN (wgt A (A 16 w))) := by
  refine zCt.of rfl (Nat.le_of_ble_eq_true rfl) rfl ?_
  obtain ⟨k2, k7, k3, k4, k5, k6, k8⟩ := hk
  refine x_lconst (v := lN 1) dX8_weighs_0 (by decide) ?_
  refine x_ls2 dX8_weighs_1 (by decide) rfl ?_
  refine x_iconst (v := nI 0) dX8_weighs_2 (by decide) ?_
  refine x_is4 dX8_weighs_3 (by decide) rfl ?_
  have key : ∀ t, t ≤ A 2 0 → ∀ o5 o6, zEx G MX8_weighs 1 0 0 5 [some (.ref a), some (.int (nI w)), some (.long (lN (zprod 1 (fun t => if inAny (A 16 w) t (A 7 0) then A 6 t else 1) t))), none, some (.int (nI t)), o5, o6] [] (mH h0 a I A B) n (0, 0) (fun r h' n' => r = some (.long (lN (wgt A (A 16 w)))) ∧ h' = mH h0 a I A B ∧ n' = n) := by
    refine z_up (A 2 0) ?_
    intro t ht ih o5 o6
    refine x_iload dX8_weighs_5 rfl ?_
    refine x_aload_n dX8_weighs_7 rfl ?_
    refine x_getf dX8_weighs_8 flX8_13 mH_a rfl ?_
    refine x_iconst (v := nI 0) dX8_weighs_11 (by decide) ?_
    refine m_iald dX8_weighs_12 rfl (by simp only [mLen]; omega) (by decide) ?_
    refine n_icmp_ge (tgt := 96) dX8_weighs_13 (by decide) (by omega) (by omega) (fun hc => ?_) (fun hc => ?_)
    · refine x_lload_n dX8_weighs_96 rfl ?_
      refine x_lret dX8_weighs_97 rfl ⟨Nat.le_refl _, Nat.le_refl _⟩ ?_
      exact ⟨by rw [show t = A 2 0 by omega]; rfl, rfl, rfl⟩
    · refine x_iconst (v := nI 0) dX8_weighs_16 (by decide) ?_
      refine x_is5 dX8_weighs_17 (by decide) rfl ?_
      refine x_iconst (v := nI 0) dX8_weighs_19 (by decide) ?_
      refine x_is6 dX8_weighs_20 (by decide) rfl ?_
      refine z_up (A 7 0) (P := fun p => zEx G MX8_weighs 1 0 0 22 [some (.ref a), some (.int (nI w)), some (.long (lN (zprod 1 (fun t => if inAny (A 16 w) t (A 7 0) then A 6 t else 1) t))), none, some (.int (nI t)), some (.int (nI (inAny (A 16 w) t p).toNat)), some (.int (nI p))] [] (mH h0 a I A B) n (0, 0) _) ?_ 0 (Nat.zero_le _)
      intro p hp ihp
      refine x_iload dX8_weighs_22 rfl ?_
      refine x_aload_n dX8_weighs_24 rfl ?_
      refine x_getf dX8_weighs_25 flX8_28 mH_a rfl ?_
      refine x_iconst (v := nI 0) dX8_weighs_28 (by decide) ?_
      refine m_iald dX8_weighs_29 rfl (by simp only [mLen]; omega) (by decide) ?_
      refine n_icmp_ge (tgt := 70) dX8_weighs_30 (by decide) (by omega) (by omega) (fun hc2 => ?_) (fun hc2 => ?_)
      · have hpe : p = A 7 0 := by omega
        subst hpe
        have h6 := (k3 t (by omega)).2.2.2
        have ih9 := ih (by omega) (some (.int (nI (inAny (A 16 w) t (A 7 0)).toNat))) (some (.int (nI (A 7 0))))
        simp only [zprod] at ih9
        refine x_lload_n dX8_weighs_70 rfl ?_
        refine x_iload dX8_weighs_71 rfl ?_
        refine b_if_eq (tgt := 87) dX8_weighs_73 (by decide) (fun c1 => ?_) (fun c1 => ?_)
        · refine x_lconst (v := lN 1) dX8_weighs_87 (by decide) ?_
          refine n_lmul dX8_weighs_88 ?_
          refine x_ls2 dX8_weighs_89 (by decide) rfl ?_
          refine n_ii4 (w := 1) dX8_weighs_90 (by decide) (by decide) rfl ?_
          refine x_goto (tgt := 5) dX8_weighs_93 (by decide) ?_
          rw [c1] at ih9 ⊢
          exact ih9
        · refine x_aload_n dX8_weighs_76 rfl ?_
          refine x_getf dX8_weighs_77 flX8_25 mH_a rfl ?_
          refine x_iload dX8_weighs_80 rfl ?_
          refine m_iald dX8_weighs_82 rfl (by simp only [mLen]; omega) (by decide) ?_
          refine n_i2l dX8_weighs_83 (by omega) ?_
          refine x_goto (tgt := 88) dX8_weighs_84 (by decide) ?_
          refine n_lmul dX8_weighs_88 ?_
          refine x_ls2 dX8_weighs_89 (by decide) rfl ?_
          refine n_ii4 (w := 1) dX8_weighs_90 (by decide) (by decide) rfl ?_
          refine x_goto (tgt := 5) dX8_weighs_93 (by decide) ?_
          rw [c1] at ih9 ⊢
          exact ih9
      · have ih9 := ihp (by omega)
        simp only [inAny] at ih9
        refine x_iload dX8_weighs_33 rfl ?_
        refine b_if_ne (tgt := 57) dX8_weighs_35 (by decide) (fun c1 => ?_) (fun c1 => ?_)
        · refine x_iconst (v := nI 1) dX8_weighs_57 (by decide) ?_
          refine x_goto (tgt := 62) dX8_weighs_58 (by decide) ?_
          refine x_is5 dX8_weighs_62 (by decide) rfl ?_
          refine n_ii6 (w := 1) dX8_weighs_64 (by decide) (by decide) rfl ?_
          refine x_goto (tgt := 22) dX8_weighs_67 (by decide) ?_
          rw [c1] at ih9
          exact ih9
        · refine x_aload_n dX8_weighs_38 rfl ?_
          refine x_getf dX8_weighs_39 flX8_55 mH_a rfl ?_
          refine x_iload_n dX8_weighs_42 rfl ?_
          refine m_iald dX8_weighs_43 rfl (by simp only [mLen]; omega) (by decide) ?_
          refine x_iload dX8_weighs_44 rfl ?_
          refine x_cSi2 dX8_weighs_46 lkX8_192 mdX8_setIn stX8_setIn (by decide) (c_setIn _ (by omega)) (Nat.le_of_ble_eq_true rfl) ⟨Nat.le_refl _, Nat.le_refl _⟩ ?_
          refine x_iload dX8_weighs_49 rfl ?_
          refine x_cSi2 dX8_weighs_51 lkX8_151 mdX8_has stX8_has (by decide) (c_hasN _ (by omega)) (Nat.le_of_ble_eq_true rfl) ⟨Nat.le_refl _, Nat.le_refl _⟩ ?_
          rw [c1] at ih9
          refine b_if_eq (tgt := 61) dX8_weighs_54 (by decide) (fun c2 => ?_) (fun c2 => ?_)
          · refine x_iconst (v := nI 0) dX8_weighs_61 (by decide) ?_
            refine x_is5 dX8_weighs_62 (by decide) rfl ?_
            refine n_ii6 (w := 1) dX8_weighs_64 (by decide) (by decide) rfl ?_
            refine x_goto (tgt := 22) dX8_weighs_67 (by decide) ?_
            rw [c2] at ih9
            exact ih9
          · refine x_iconst (v := nI 1) dX8_weighs_57 (by decide) ?_
            refine x_goto (tgt := 62) dX8_weighs_58 (by decide) ?_
            refine x_is5 dX8_weighs_62 (by decide) rfl ?_
            refine n_ii6 (w := 1) dX8_weighs_64 (by decide) (by decide) rfl ?_
            refine x_goto (tgt := 22) dX8_weighs_67 (by decide) ?_
            rw [c2] at ih9
            exact ih9
  exact key 0 (Nat.zero_le _) _ _
/-- what a world weighs, if it is left -/
def xw (A : Nat → Nat → Nat) (w : Nat) : Nat := if lf A (A 17 8) w then wgt A (A 16 w) else 0
def lkAll (A : Nat → Nat → Nat) : Nat → Nat := zsum 0 (xw A)
def lkAbv (A : Nat → Nat → Nat) (p t : Nat) : Nat → Nat := zsum 0 (fun w => if (sI (A 16 w) p).testBit t then xw A w else 0)
theorem xw_le {A : Nat → Nat → Nat} (hk : tR A) (w : Nat) : xw A w ≤ 43046721 := by
  have := wgt_le hk (A 16 w)
  unfold xw; split <;> omega
theorem lkAll_le {A : Nat → Nat → Nat} (hk : tR A) {N : Nat} (hN : N ≤ 5040) : lkAll A N ≤ 216955473840 := by
  have := zsum_le (f := xw A) (m := 43046721) N 0 (fun t _ => xw_le hk t)
  have h2 : 43046721 * N ≤ 43046721 * 5040 := Nat.mul_le_mul_left _ hN
  unfold lkAll
  omega
theorem lkAbv_le (A : Nat → Nat → Nat) (p t N : Nat) : lkAbv A p t N ≤ lkAll A N := by
  refine zsum_mono N (fun w _ => ?_)
  show (if (sI (A 16 w) p).testBit t then xw A w else 0) ≤ xw A w
  split <;> omega
theorem lkAll_pos {A : Nat → Nat → Nat} (hk : tR A) : ∀ N, nLeft A (A 17 8) N ≠ 0 → 0 < lkAll A N
  | 0, h => absurd rfl h
  | N + 1, h => by
    show 0 < lkAll A N + xw A N
    by_cases h1 : nLeft A (A 17 8) N = 0
    · have h2 : nLeft A (A 17 8) N + (lf A (A 17 8) N).toNat ≠ 0 := h
      have h3 : lf A (A 17 8) N = true := by
        cases hl : lf A (A 17 8) N with
        | true => rfl
        | false => rw [hl] at h2; simp at h2; omega
      have := (wgt_le hk (A 16 N)).1
      unfold xw
      rw [h3]
      simp
      omega
    · have := lkAll_pos hk N h1
      omega
def fLikely (I : Nat → Nat) (A : Nat → Nat → Nat) (p t part : Int32) : Int64 := if bR p (A 7 0) && bR t (A 2 0) && bR part 2 then (if nLeft A (A 17 8) (I 17) = 0 then -4 else if part = 0 then lN (lkAbv A p.toNatClampNeg t.toNatClampNeg (I 17) / Nat.gcd (lkAll A (I 17)) (lkAbv A p.toNatClampNeg t.toNatClampNeg (I 17))) else lN (lkAll A (I 17) / Nat.gcd (lkAll A (I 17)) (lkAbv A p.toNatClampNeg t.toNatClampNeg (I 17)))) else -1
set_option maxRecDepth 100000 in
theorem c_likelyM {x y z : Int32} (hk : tR A) (h1 : 1 ≤ A 7 0) (h21 : 1 ≤ A 2 0) (hs : sOK A (A 17)) (h17 : I 17 ≤ 5040) : zPj G MX8_likely 5 [.ref a, .int x, .int y, .int z] (mH h0 a I A B) n (fun v h' => v = fLikely I A x y z ∧ ∃ f, h' = mH h0 a I (va_up A 22 f) B) := by
  refine zCt.of rfl (Nat.le_of_ble_eq_true rfl) rfl ?_
  have k7 := hk.2.1
  have k2 := hk.1
  have self : mH h0 a I A B = mH h0 a I (va_up A 22 (A 22)) B := by rw [up_self]
  refine x_aload_n dX8_likely_0 rfl ?_
  refine x_iload_n dX8_likely_1 rfl ?_
  refine x_cVi1 dX8_likely_2 lkX8_189 mdX8_isParcel isX8_isParcel rfl rfl mH_a (by decide) (c_isParcel h1 k7) (Nat.le_of_ble_eq_true rfl) ⟨Nat.le_refl _, Nat.le_refl _⟩ ?_
  refine b_if_eq (tgt := 26) dX8_likely_5 (by decide) (fun c1 => ?_) (fun c1 => ?_)
  · refine x_ldc2 (v := -1) dX8_likely_26 coX8_224 ?_
    refine x_lret dX8_likely_29 rfl ⟨Nat.le_refl _, Nat.le_refl _⟩ ?_
    exact ⟨_, rfl, ⟨by unfold fLikely; rw [c1]; rfl, _, self⟩, rfl⟩
  · refine x_aload_n dX8_likely_8 rfl ?_
    refine x_iload_n dX8_likely_9 rfl ?_
    refine x_cVi1 dX8_likely_10 lkX8_184 mdX8_isThing isX8_isThing rfl rfl mH_a (by decide) (c_isThing h21 k2) (Nat.le_of_ble_eq_true rfl) ⟨Nat.le_refl _, Nat.le_refl _⟩ ?_
    refine b_if_eq (tgt := 26) dX8_likely_13 (by decide) (fun c2 => ?_) (fun c2 => ?_)
    · refine x_ldc2 (v := -1) dX8_likely_26 coX8_224 ?_
      refine x_lret dX8_likely_29 rfl ⟨Nat.le_refl _, Nat.le_refl _⟩ ?_
      exact ⟨_, rfl, ⟨by unfold fLikely; rw [c1, c2]; rfl, _, self⟩, rfl⟩
    · refine x_iload_n dX8_likely_16 rfl ?_
      refine x_i2l dX8_likely_17 rfl ?_
      refine x_lconst (v := lN 0) dX8_likely_18 (by decide) ?_
      refine x_lconst (v := lN 1) dX8_likely_19 (by decide) ?_
      refine x_cSi3 dX8_likely_20 lkX8_109 mdX8_in stX8_in (by decide) (c_inR z (by decide)) (Nat.le_of_ble_eq_true rfl) ⟨Nat.le_refl _, Nat.le_refl _⟩ ?_
      refine b_if_ne (tgt := 30) dX8_likely_23 (by decide) (fun c3 => ?_) (fun c3 => ?_)
      · have c3 : bR z 2 = true := c3
        obtain ⟨p, hp, rfl⟩ := inR_of (bR_true.mp c1) (by omega)
        obtain ⟨t, ht, rfl⟩ := inR_of (bR_true.mp c2) (by omega)
        have hnl := nLeft_le A (A 17 8) (I 17)
        have hF : fLikely I A (nI p) (nI t) z = if nLeft A (A 17 8) (I 17) = 0 then -4 else if z = 0 then lN (lkAbv A p t (I 17) / Nat.gcd (lkAll A (I 17)) (lkAbv A p t (I 17))) else lN (lkAll A (I 17) / Nat.gcd (lkAll A (I 17)) (lkAbv A p t (I 17))) := by
          unfold fLikely; rw [c1, c2, c3, nI_clamp (by omega), nI_clamp (by omega)]; rfl
        refine x_aload_n dX8_likely_30 rfl ?_
        refine x_aload_n dX8_likely_31 rfl ?_
        refine x_getf dX8_likely_32 flX8_58 mH_a rfl ?_
        refine x_bipush (v := nI 8) dX8_likely_35 (by decide) ?_
        refine m_iald dX8_likely_37 rfl (by simp only [mLen]; omega) (by decide) ?_
        refine x_cVI1 dX8_likely_38 lkX8_221 mdX8_layLeft isX8_layLeft rfl rfl mH_a (by decide) (c_layLeft hk hs (Nat.le_refl _) h17) (Nat.le_of_ble_eq_true rfl) ⟨Nat.le_refl _, Nat.le_refl _⟩ ?_
        rintro v h' ⟨rfl, rfl⟩
        refine n_if_ne (tgt := 48) dX8_likely_41 (by decide) (by omega) (fun c4 => ?_) (fun c4 => ?_)
        · have cw : ∀ w, w < 5040 → zJ G MX8_weighs 1 [.ref a, .int (nI w)] (mH h0 a I (va_up A 22 (mayF A (A 17 8) (I 17))) B) n (lN (wgt A (A 16 w))) := fun w hw => c_weighs (A := va_up A 22 (mayF A (A 17 8) (I 17))) hk hw
          have em : ∀ w, w < I 17 → (va_up A 22 (mayF A (A 17 8) (I 17))) 22 w = (lf A (A 17 8) w).toNat := fun w hw => by
            show mayF A (A 17 8) (I 17) w = _
            unfold mayF; rw [if_pos hw]
          refine x_lconst (v := lN 0) dX8_likely_48 (by decide) ?_
          refine x_ls4 dX8_likely_49 (by decide) rfl ?_
          refine x_lconst (v := lN 0) dX8_likely_51 (by decide) ?_
          refine x_ls6 dX8_likely_52 (by decide) rfl ?_
          refine x_iconst (v := nI 0) dX8_likely_54 (by decide) ?_
          refine x_is8 dX8_likely_55 (by decide) rfl ?_
          have key : ∀ w, w ≤ I 17 → ∀ o9, zEx G MX8_likely 5 0 0 57 [some (.ref a), some (.int (nI p)), some (.int (nI t)), some (.int z), some (.long (lN (lkAbv A p t w))), none, some (.long (lN (lkAll A w))), none, some (.int (nI w)), o9, none] [] (mH h0 a I (va_up A 22 (mayF A (A 17 8) (I 17))) B) n (0, 0) (fun r h' n' => ∃ v, r = some (.long v) ∧ (v = fLikely I A (nI p) (nI t) z ∧ ∃ f, h' = mH h0 a I (va_up A 22 f) B) ∧ n' = n) := by
            refine z_up (I 17) ?_
            intro w hw ih o9
            refine x_iload dX8_likely_57 rfl ?_
            refine x_aload_n dX8_likely_59 rfl ?_
            refine x_getf dX8_likely_60 flX8_172 mH_a rfl ?_
            refine n_icmp_ge (tgt := 130) dX8_likely_63 (by decide) (by omega) (by omega) (fun hc => ?_) (fun hc => ?_)
            · have hwe : w = I 17 := by omega
              subst hwe
              have hal := lkAll_le hk h17
              have hab := lkAbv_le A p t (I 17)
              have hap := lkAll_pos hk (I 17) c4
              have hgp : 0 < Nat.gcd (lkAll A (I 17)) (lkAbv A p t (I 17)) := Nat.gcd_pos_of_pos_left _ hap
              have hgl : Nat.gcd (lkAll A (I 17)) (lkAbv A p t (I 17)) ≤ lkAll A (I 17) := Nat.gcd_le_left _ hap
              refine x_lload dX8_likely_130 rfl ?_
              refine x_lload dX8_likely_132 rfl ?_
              refine x_cSj2 dX8_likely_134 lkX8_232 mdX8_common stX8_common (by decide) (c_common (by omega) (by omega)) (Nat.le_of_ble_eq_true rfl) ⟨Nat.le_refl _, Nat.le_refl _⟩ ?_
              refine x_ls8 dX8_likely_137 (by decide) rfl ?_
              refine x_iload_n dX8_likely_139 rfl ?_
              refine x_if_ne (tgt := 151) dX8_likely_140 (by decide) (fun c5 => ?_) (fun c5 => ?_)
              · refine x_lload dX8_likely_151 rfl ?_
                refine x_lload dX8_likely_153 rfl ?_
                refine n_ldiv dX8_likely_155 (by omega) hgp (by omega) ?_
                refine x_lret dX8_likely_156 rfl ⟨Nat.le_refl _, Nat.le_refl _⟩ ?_
                exact ⟨_, rfl, ⟨by rw [hF, if_neg c4, if_neg c5], _, rfl⟩, rfl⟩
              · refine x_lload dX8_likely_143 rfl ?_
                refine x_lload dX8_likely_145 rfl ?_
                refine n_ldiv dX8_likely_147 (by omega) hgp (by omega) ?_
                refine x_goto (tgt := 156) dX8_likely_148 (by decide) ?_
                refine x_lret dX8_likely_156 rfl ⟨Nat.le_refl _, Nat.le_refl _⟩ ?_
                exact ⟨_, rfl, ⟨by rw [hF, if_neg c4, if_pos c5], _, rfl⟩, rfl⟩
            · have hwl : w < I 17 := by omega
              have K86 : ∀ v : Nat, v = xw A w → zEx G MX8_likely 5 0 0 86 [some (.ref a), some (.int (nI p)), some (.int (nI t)), some (.int z), some (.long (lN (lkAbv A p t w))), none, some (.long (lN (lkAll A w))), none, some (.int (nI w)), o9, none] [.long (lN v)] (mH h0 a I (va_up A 22 (mayF A (A 17 8) (I 17))) B) n (0, 0) (fun r h' n' => ∃ v, r = some (.long v) ∧ (v = fLikely I A (nI p) (nI t) z ∧ ∃ f, h' = mH h0 a I (va_up A 22 f) B) ∧ n' = n) := by
                intro v hv
                have ih9 := ih hwl (some (.long (lN v)))
                have e1 : lkAll A (w + 1) = lkAll A w + v := by rw [hv]; rfl
                have e2 : lkAbv A p t (w + 1) = lkAbv A p t w + (if (sI (A 16 w) p).testBit t then v else 0) := by rw [hv]; rfl
                rw [e1, e2] at ih9
                refine x_ls9 dX8_likely_86 (by decide) rfl ?_
                refine x_lload dX8_likely_88 rfl ?_
                refine x_lload dX8_likely_90 rfl ?_
                refine n_ladd dX8_likely_92 ?_
                refine x_ls6 dX8_likely_93 (by decide) rfl ?_
                refine x_lload dX8_likely_95 rfl ?_
                refine x_aload_n dX8_likely_97 rfl ?_
                refine x_getf dX8_likely_98 flX8_55 mH_a rfl ?_
                refine x_iload dX8_likely_101 rfl ?_
                refine m_iald dX8_likely_103 rfl (by simp only [mLen]; omega) (by decide) ?_
                refine x_iload_n dX8_likely_104 rfl ?_
                refine x_cSi2 dX8_likely_105 lkX8_192 mdX8_setIn stX8_setIn (by decide) (c_setIn _ (by omega)) (Nat.le_of_ble_eq_true rfl) ⟨Nat.le_refl _, Nat.le_refl _⟩ ?_
                refine x_iload_n dX8_likely_108 rfl ?_
                refine x_cSi2 dX8_likely_109 lkX8_151 mdX8_has stX8_has (by decide) (c_hasN _ (by omega)) (Nat.le_of_ble_eq_true rfl) ⟨Nat.le_refl _, Nat.le_refl _⟩ ?_
                refine b_if_eq (b := (sI (A 16 w) p).testBit t) (tgt := 120) dX8_likely_112 (by decide) (fun c6 => ?_) (fun c6 => ?_)
                · refine x_lconst (v := lN 0) dX8_likely_120 (by decide) ?_
                  refine n_ladd dX8_likely_121 ?_
                  refine x_ls4 dX8_likely_122 (by decide) rfl ?_
                  refine n_ii8 (w := 1) dX8_likely_124 (by decide) (by decide) rfl ?_
                  refine x_goto (tgt := 57) dX8_likely_127 (by decide) ?_
                  rw [c6] at ih9
                  exact ih9
                · refine x_lload dX8_likely_115 rfl ?_
                  refine x_goto (tgt := 121) dX8_likely_117 (by decide) ?_
                  refine n_ladd dX8_likely_121 ?_
                  refine x_ls4 dX8_likely_122 (by decide) rfl ?_
                  refine n_ii8 (w := 1) dX8_likely_124 (by decide) (by decide) rfl ?_
                  refine x_goto (tgt := 57) dX8_likely_127 (by decide) ?_
                  rw [c6] at ih9
                  exact ih9
              refine x_aload_n dX8_likely_66 rfl ?_
              refine x_getf dX8_likely_67 flX8_73 mH_a rfl ?_
              refine x_iload dX8_likely_70 rfl ?_
              refine m_zald dX8_likely_72 rfl (by simp only [mLen]; omega) (by decide) ?_
              rw [em w hwl]
              refine b_if_eq (tgt := 85) dX8_likely_73 (by decide) (fun c5 => ?_) (fun c5 => ?_)
              · refine x_lconst (v := lN 0) dX8_likely_85 (by decide) ?_
                exact K86 0 (by unfold xw; rw [c5]; rfl)
              · refine x_aload_n dX8_likely_76 rfl ?_
                refine x_iload dX8_likely_77 rfl ?_
                refine x_cVj1 dX8_likely_79 lkX8_228 mdX8_weighs isX8_weighs rfl rfl mH_a (by decide) (cw w (by omega)) (Nat.le_of_ble_eq_true rfl) ⟨Nat.le_refl _, Nat.le_refl _⟩ ?_
                refine x_goto (tgt := 86) dX8_likely_82 (by decide) ?_
                exact K86 _ (by unfold xw; rw [c5]; rfl)
          exact key 0 (Nat.zero_le _) _
        · refine x_ldc2 (v := -4) dX8_likely_44 coX8_226 ?_
          refine x_lret dX8_likely_47 rfl ⟨Nat.le_refl _, Nat.le_refl _⟩ ?_
          exact ⟨_, rfl, ⟨by rw [hF, if_pos c4], _, rfl⟩, rfl⟩
      · have c3 : bR z 2 = false := c3
        refine x_ldc2 (v := -1) dX8_likely_26 coX8_224 ?_
        refine x_lret dX8_likely_29 rfl ⟨Nat.le_refl _, Nat.le_refl _⟩ ?_
        exact ⟨_, rfl, ⟨by unfold fLikely; rw [c1, c2, c3]; rfl, _, self⟩, rfl⟩
/-- what is sure, or never, in the first N worlds -/
def srF (A : Nat → Nat → Nat) (never : Bool) (p : Nat) : Nat → Nat
  | 0 => 2 ^ A 2 0 - 1
  | w + 1 => if lf A (A 17 8) w then (if never then srF A never p w ^^^ (srF A never p w &&& sI (A 16 w) p) else srF A never p w &&& sI (A 16 w) p) else srF A never p w
theorem and_m1 (x : Nat) : nI x &&& (-1 : Int32) = nI x := by
  refine b_ext fun i hi => ?_
  rw [b_and, b_m1 i hi, Bool.and_true]
theorem and_not (s x : Nat) : nI s &&& (nI x ^^^ (-1 : Int32)) = nI (s ^^^ (s &&& x)) := by
  refine b_ext fun i hi => ?_
  rw [b_and, b_xor, b_m1 i hi, bt_nI _ hi, bt_nI _ hi, bt_nI _ hi, Nat.testBit_xor, Nat.testBit_and]
  cases s.testBit i <;> cases x.testBit i <;> rfl
def fSure (I : Nat → Nat) (A : Nat → Nat → Nat) (p : Int32) (never : Bool) : Int32 := if bR p (A 7 0) then nI (srF A never p.toNatClampNeg (I 17)) else -1
theorem c_sureM {x : Int32} {nv : Bool} (hk : tR A) (h1 : 1 ≤ A 7 0) (hs : sOK A (A 17)) (h17 : I 17 ≤ 5040) : zPi G MX8_sure 5 [.ref a, .int x, .int (nI nv.toNat)] (mH h0 a I A B) n (fun v h' => v = fSure I A x nv ∧ ∃ f, h' = mH h0 a I (va_up A 22 f) B) := by
  refine zCt.of rfl (Nat.le_of_ble_eq_true rfl) rfl ?_
  have k7 := hk.2.1
  have k2 := hk.1
  have self : mH h0 a I A B = mH h0 a I (va_up A 22 (A 22)) B := by rw [up_self]
  refine x_aload_n dX8_sure_0 rfl ?_
  refine x_iload_n dX8_sure_1 rfl ?_
  refine x_cVi1 dX8_sure_2 lkX8_189 mdX8_isParcel isX8_isParcel rfl rfl mH_a (by decide) (c_isParcel h1 k7) (Nat.le_of_ble_eq_true rfl) ⟨Nat.le_refl _, Nat.le_refl _⟩ ?_
  refine b_if_ne (tgt := 10) dX8_sure_5 (by decide) (fun c1 => ?_) (fun c1 => ?_)
  · obtain ⟨p, hp, rfl⟩ := inR_of (bR_true.mp c1) (by omega)
    have hF : fSure I A (nI p) nv = nI (srF A nv p (I 17)) := by unfold fSure; rw [if_pos c1, nI_clamp (by omega)]
    rw [hF]
    refine x_aload_n dX8_sure_10 rfl ?_
    refine x_aload_n dX8_sure_11 rfl ?_
    refine x_getf dX8_sure_12 flX8_58 mH_a rfl ?_
    refine x_bipush (v := nI 8) dX8_sure_15 (by decide) ?_
    refine m_iald dX8_sure_17 rfl (by simp only [mLen]; omega) (by decide) ?_
    refine x_cVI1 dX8_sure_18 lkX8_221 mdX8_layLeft isX8_layLeft rfl rfl mH_a (by decide) (c_layLeft hk hs (Nat.le_refl _) h17) (Nat.le_of_ble_eq_true rfl) ⟨Nat.le_refl _, Nat.le_refl _⟩ ?_
    rintro v h' ⟨rfl, rfl⟩
    have em : ∀ w, w < I 17 → (va_up A 22 (mayF A (A 17 8) (I 17))) 22 w = (lf A (A 17 8) w).toNat := fun w hw => by
      show mayF A (A 17 8) (I 17) w = _
      unfold mayF; rw [if_pos hw]
    have hpw : 1 ≤ 2 ^ A 2 0 := Nat.one_le_two_pow
    refine x_pop dX8_sure_21 rfl ?_
    refine x_iconst (v := nI 1) dX8_sure_22 (by decide) ?_
    refine x_aload_n dX8_sure_23 rfl ?_
    refine x_getf dX8_sure_24 flX8_13 mH_a rfl ?_
    refine x_iconst (v := nI 0) dX8_sure_27 (by decide) ?_
    refine m_iald (j := 0) dX8_sure_28 rfl (by simp only [mLen]; omega) (by decide) ?_
    refine n_ishl (y := A 2 0) dX8_sure_29 (by omega) ?_
    rw [Nat.one_mul]
    refine x_iconst (v := nI 1) dX8_sure_30 (by decide) ?_
    refine n_isub dX8_sure_31 (by omega) ?_
    refine x_is3 dX8_sure_32 (by decide) rfl ?_
    refine x_iconst (v := nI 0) dX8_sure_33 (by decide) ?_
    refine x_is4 dX8_sure_34 (by decide) rfl ?_
    have key : ∀ w, w ≤ I 17 → ∀ o5, zEx G MX8_sure 5 0 0 36 [some (.ref a), some (.int (nI p)), some (.int (nI nv.toNat)), some (.int (nI (srF A nv p w))), some (.int (nI w)), o5] [] (mH h0 a I (va_up A 22 (mayF A (A 17 8) (I 17))) B) n (0, 0) (fun r h' n' => ∃ v, r = some (.int v) ∧ (v = nI (srF A nv p (I 17)) ∧ ∃ f, h' = mH h0 a I (va_up A 22 f) B) ∧ n' = n) := by
      refine z_up (I 17) ?_
      intro w hw ih o5
      refine x_iload dX8_sure_36 rfl ?_
      refine x_aload_n dX8_sure_38 rfl ?_
      refine x_getf dX8_sure_39 flX8_172 mH_a rfl ?_
      refine n_icmp_ge (tgt := 94) dX8_sure_42 (by decide) (by omega) (by omega) (fun hc => ?_) (fun hc => ?_)
      · refine x_iload_n dX8_sure_94 rfl ?_
        refine x_iret dX8_sure_95 rfl rfl ⟨Nat.le_refl _, Nat.le_refl _⟩ ?_
        exact ⟨_, rfl, ⟨by rw [show w = I 17 by omega], _, rfl⟩, rfl⟩
      · have hwl : w < I 17 := by omega
        have ih9 := ih hwl (some (.int (nI (sI (A 16 w) p))))
        refine x_aload_n dX8_sure_45 rfl ?_
        refine x_getf dX8_sure_46 flX8_55 mH_a rfl ?_
        refine x_iload dX8_sure_49 rfl ?_
        refine m_iald dX8_sure_51 rfl (by simp only [mLen]; omega) (by decide) ?_
        refine x_iload_n dX8_sure_52 rfl ?_
        refine x_cSi2 dX8_sure_53 lkX8_192 mdX8_setIn stX8_setIn (by decide) (c_setIn _ (by omega)) (Nat.le_of_ble_eq_true rfl) ⟨Nat.le_refl _, Nat.le_refl _⟩ ?_
        refine x_is5 dX8_sure_56 (by decide) rfl ?_
        refine x_iload_n dX8_sure_58 rfl ?_
        refine x_aload_n dX8_sure_59 rfl ?_
        refine x_getf dX8_sure_60 flX8_73 mH_a rfl ?_
        refine x_iload dX8_sure_63 rfl ?_
        refine m_zald dX8_sure_65 rfl (by simp only [mLen]; omega) (by decide) ?_
        rw [em w hwl]
        refine b_if_eq (tgt := 85) dX8_sure_66 (by decide) (fun c2 => ?_) (fun c2 => ?_)
        · refine x_iconst (v := -1) dX8_sure_85 (by decide) ?_
          refine x_iand dX8_sure_86 ?_
          rw [and_m1]
          refine x_is3 dX8_sure_87 (by decide) rfl ?_
          refine n_ii4 (w := 1) dX8_sure_88 (by decide) (by decide) rfl ?_
          refine x_goto (tgt := 36) dX8_sure_91 (by decide) ?_
          rw [srF, c2] at ih9
          exact ih9
        · refine x_iload_n dX8_sure_69 rfl ?_
          refine b_if_eq (tgt := 80) dX8_sure_70 (by decide) (fun c3 => ?_) (fun c3 => ?_)
          · subst c3
            refine x_iload dX8_sure_80 rfl ?_
            refine x_goto (tgt := 86) dX8_sure_82 (by decide) ?_
            refine n_iand dX8_sure_86 ?_
            refine x_is3 dX8_sure_87 (by decide) rfl ?_
            refine n_ii4 (w := 1) dX8_sure_88 (by decide) (by decide) rfl ?_
            refine x_goto (tgt := 36) dX8_sure_91 (by decide) ?_
            rw [srF, c2] at ih9
            exact ih9
          · subst c3
            refine x_iload dX8_sure_73 rfl ?_
            refine x_iconst (v := -1) dX8_sure_75 (by decide) ?_
            refine x_ixor dX8_sure_76 ?_
            refine x_goto (tgt := 86) dX8_sure_77 (by decide) ?_
            refine x_iand dX8_sure_86 ?_
            have e : (va_up A 22 (mayF A (A 17 8) (I 17))) 16 w = A 16 w := rfl
            rw [e, and_not]
            refine x_is3 dX8_sure_87 (by decide) rfl ?_
            refine n_ii4 (w := 1) dX8_sure_88 (by decide) (by decide) rfl ?_
            refine x_goto (tgt := 36) dX8_sure_91 (by decide) ?_
            rw [srF, c2] at ih9
            exact ih9
    exact key 0 (Nat.zero_le _) _
  · refine x_iconst (v := -1) dX8_sure_8 (by decide) ?_
    refine x_iret dX8_sure_9 rfl rfl ⟨Nat.le_refl _, Nat.le_refl _⟩ ?_
    exact ⟨_, rfl, ⟨by unfold fSure; rw [c1]; rfl, _, self⟩, rfl⟩
end ZM14
