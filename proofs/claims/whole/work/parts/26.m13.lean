section ZM15
variable {G : zG} {n : Nat} {h0 : zF} {a : Nat} {I : Nat → Nat} {A : Nat → Nat → Nat} {B : Nat → Nat}
/-- what the worlds left that have a set in a parcel weigh -/
def gB (A : Nat → Nat → Nat) (p N : Nat) : Nat → Nat := fun s => zsum 0 (fun w => if sI (A 16 w) p = s then xw A w else 0) N
def bst (g : Nat → Nat) : Nat → Nat
  | 0 => 0
  | k + 1 => if g (bst g k) < g k then k else bst g k
theorem bst_lt (g : Nat → Nat) : ∀ k, bst g k ≤ k
  | 0 => Nat.le_refl _
  | k + 1 => by
    have := bst_lt g k
    unfold bst; split <;> omega
theorem gB_le (A : Nat → Nat → Nat) (p N s : Nat) : gB A p N s ≤ lkAll A N := by
  refine zsum_mono N (fun w _ => ?_)
  show (if sI (A 16 w) p = s then xw A w else 0) ≤ xw A w
  split <;> omega
def fGuess (I : Nat → Nat) (A : Nat → Nat → Nat) (p what : Int32) : Int64 := if bR p (A 7 0) && bR what 3 then (if nLeft A (A 17 8) (I 17) = 0 then -4 else if what = 0 then lN (bst (gB A p.toNatClampNeg (I 17)) 256) else if what = nI 1 then lN (gB A p.toNatClampNeg (I 17) (bst (gB A p.toNatClampNeg (I 17)) 256) / Nat.gcd (lkAll A (I 17)) (gB A p.toNatClampNeg (I 17) (bst (gB A p.toNatClampNeg (I 17)) 256))) else lN (lkAll A (I 17) / Nat.gcd (lkAll A (I 17)) (gB A p.toNatClampNeg (I 17) (bst (gB A p.toNatClampNeg (I 17)) 256)))) else -1
theorem lN_le63 {x y : Nat} (hx : x < 2 ^ 63) (hy : y < 2 ^ 63) : lN x ≤ lN y ↔ x ≤ y := by
  rw [fa_le64, lN63 hx, lN63 hy]; omega
set_option maxRecDepth 100000 in
theorem c_guessM {x y : Int32} (hk : tR A) (h1 : 1 ≤ A 7 0) (hs : sOK A (A 17)) (h17 : I 17 ≤ 5040) : zPj G MX8_guess 5 [.ref a, .int x, .int y] (mH h0 a I A B) n (fun v h' => v = fGuess I A x y ∧ ∃ f B', h' = mH h0 a I (va_up A 22 f) B') := by
  refine zCt.of rfl (Nat.le_of_ble_eq_true rfl) rfl ?_
  have k7 := hk.2.1
  have k2 := hk.1
  have self : mH h0 a I A B = mH h0 a I (va_up A 22 (A 22)) B := by rw [up_self]
  refine x_aload_n dX8_guess_0 rfl ?_
  refine x_iload_n dX8_guess_1 rfl ?_
  refine x_cVi1 dX8_guess_2 lkX8_189 mdX8_isParcel isX8_isParcel rfl rfl mH_a (by decide) (c_isParcel h1 k7) (Nat.le_of_ble_eq_true rfl) ⟨Nat.le_refl _, Nat.le_refl _⟩ ?_
  refine b_if_eq (tgt := 20) dX8_guess_5 (by decide) (fun c1 => ?_) (fun c1 => ?_)
  · refine x_ldc2 (v := -1) dX8_guess_20 coX8_224 ?_
    refine x_lret dX8_guess_23 rfl ⟨Nat.le_refl _, Nat.le_refl _⟩ ?_
    exact ⟨_, rfl, ⟨by unfold fGuess; rw [c1]; rfl, _, _, self⟩, rfl⟩
  · refine x_iload_n dX8_guess_8 rfl ?_
    refine x_i2l dX8_guess_9 rfl ?_
    refine x_lconst (v := lN 0) dX8_guess_10 (by decide) ?_
    refine x_ldc2 (v := lN 2) dX8_guess_11 coX8_128 ?_
    refine x_cSi3 dX8_guess_14 lkX8_109 mdX8_in stX8_in (by decide) (c_inR y (by decide)) (Nat.le_of_ble_eq_true rfl) ⟨Nat.le_refl _, Nat.le_refl _⟩ ?_
    refine b_if_ne (tgt := 24) dX8_guess_17 (by decide) (fun c2 => ?_) (fun c2 => ?_)
    · have c2 : bR y 3 = true := c2
      obtain ⟨p, hp, rfl⟩ := inR_of (bR_true.mp c1) (by omega)
      have hnl := nLeft_le A (A 17 8) (I 17)
      have hF : fGuess I A (nI p) y = if nLeft A (A 17 8) (I 17) = 0 then -4 else if y = 0 then lN (bst (gB A p (I 17)) 256) else if y = nI 1 then lN (gB A p (I 17) (bst (gB A p (I 17)) 256) / Nat.gcd (lkAll A (I 17)) (gB A p (I 17) (bst (gB A p (I 17)) 256))) else lN (lkAll A (I 17) / Nat.gcd (lkAll A (I 17)) (gB A p (I 17) (bst (gB A p (I 17)) 256))) := by
        unfold fGuess; rw [c1, c2, nI_clamp (by omega)]; rfl
      refine x_aload_n dX8_guess_24 rfl ?_
      refine x_aload_n dX8_guess_25 rfl ?_
      refine x_getf dX8_guess_26 flX8_58 mH_a rfl ?_
      refine x_bipush (v := nI 8) dX8_guess_29 (by decide) ?_
      refine m_iald dX8_guess_31 rfl (by simp only [mLen]; omega) (by decide) ?_
      refine x_cVI1 dX8_guess_32 lkX8_221 mdX8_layLeft isX8_layLeft rfl rfl mH_a (by decide) (c_layLeft hk hs (Nat.le_refl _) h17) (Nat.le_of_ble_eq_true rfl) ⟨Nat.le_refl _, Nat.le_refl _⟩ ?_
      rintro v h' ⟨rfl, rfl⟩
      refine n_if_ne (tgt := 42) dX8_guess_35 (by decide) (by omega) (fun c4 => ?_) (fun c4 => ?_)
      · have cw : ∀ (B' : Nat → Nat) (w : Nat), w < 5040 → zJ G MX8_weighs 1 [.ref a, .int (nI w)] (mH h0 a I (va_up A 22 (mayF A (A 17 8) (I 17))) B') n (lN (wgt A (A 16 w))) := fun B' w hw => c_weighs (A := va_up A 22 (mayF A (A 17 8) (I 17))) hk hw
        have em : ∀ w, w < I 17 → (va_up A 22 (mayF A (A 17 8) (I 17))) 22 w = (lf A (A 17 8) w).toNat := fun w hw => by
          show mayF A (A 17 8) (I 17) w = _
          unfold mayF; rw [if_pos hw]
        generalize hA2 : va_up A 22 (mayF A (A 17 8) (I 17)) = A2 at cw em
        have e16 : ∀ w, A2 16 w = A 16 w := fun w => by rw [← hA2]; rfl
        refine x_iconst (v := nI 0) dX8_guess_42 (by decide) ?_
        refine x_is3 dX8_guess_43 (by decide) rfl ?_
        have zl : ∀ i, i ≤ 256 → ∀ Bz : Nat → Nat, (∀ j, j < i → Bz j = 0) → zEx G MX8_guess 5 0 0 44 [some (.ref a), some (.int (nI p)), some (.int y), some (.int (nI i)), none, none, none, none] [] (mH h0 a I A2 Bz) n (0, 0) (fun r h' n' => ∃ v, r = some (.long v) ∧ (v = fGuess I A (nI p) y ∧ ∃ f B', h' = mH h0 a I (va_up A 22 f) B') ∧ n' = n) := by
          refine z_up 256 ?_
          intro i hi ih Bz hz
          refine x_iload_n dX8_guess_44 rfl ?_
          refine x_sipush (v := nI 256) dX8_guess_45 (by decide) ?_
          refine n_icmp_ge (tgt := 64) dX8_guess_48 (by decide) (by omega) (by omega) (fun hc => ?_) (fun hc => ?_)
          · have hi : i = 256 := by omega
            subst hi
            refine x_lconst (v := lN 0) dX8_guess_64 (by decide) ?_
            refine x_ls3 dX8_guess_65 (by decide) rfl ?_
            refine x_iconst (v := nI 0) dX8_guess_66 (by decide) ?_
            refine x_is5 dX8_guess_67 (by decide) rfl ?_
            have key : ∀ w, w ≤ I 17 → ∀ (Bw : Nat → Nat) (o6 : Option Value), (∀ j, j < 256 → Bw j = gB A p w j) → zEx G MX8_guess 5 0 0 69 [some (.ref a), some (.int (nI p)), some (.int y), some (.long (lN (lkAll A w))), none, some (.int (nI w)), o6, none] [] (mH h0 a I A2 Bw) n (0, 0) (fun r h' n' => ∃ v, r = some (.long v) ∧ (v = fGuess I A (nI p) y ∧ ∃ f B', h' = mH h0 a I (va_up A 22 f) B') ∧ n' = n) := by
              refine z_up (I 17) ?_
              intro w hw ihw Bw o6 hB
              have hal := lkAll_le hk (show w ≤ 5040 by omega)
              refine x_iload dX8_guess_69 rfl ?_
              refine x_aload_n dX8_guess_71 rfl ?_
              refine x_getf dX8_guess_72 flX8_172 mH_a rfl ?_
              refine n_icmp_ge (tgt := 132) dX8_guess_75 (by decide) (by omega) (by omega) (fun hc2 => ?_) (fun hc2 => ?_)
              · have hwe : w = I 17 := by omega
                subst hwe
                have hap := lkAll_pos hk (I 17) c4
                refine x_iconst (v := nI 0) dX8_guess_132 (by decide) ?_
                refine x_is5 dX8_guess_133 (by decide) rfl ?_
                refine x_iconst (v := nI 1) dX8_guess_135 (by decide) ?_
                refine x_is6 dX8_guess_136 (by decide) rfl ?_
                have bl : ∀ i, i ≤ 256 → 1 ≤ i → zEx G MX8_guess 5 0 0 138 [some (.ref a), some (.int (nI p)), some (.int y), some (.long (lN (lkAll A (I 17)))), none, some (.int (nI (bst (gB A p (I 17)) i))), some (.int (nI i)), none] [] (mH h0 a I A2 Bw) n (0, 0) (fun r h' n' => ∃ v, r = some (.long v) ∧ (v = fGuess I A (nI p) y ∧ ∃ f B', h' = mH h0 a I (va_up A 22 f) B') ∧ n' = n) := by
                  refine z_up 256 ?_
                  intro i hi ihi h1i
                  have hbl := bst_lt (gB A p (I 17)) i
                  refine x_iload dX8_guess_138 rfl ?_
                  refine x_sipush (v := nI 256) dX8_guess_140 (by decide) ?_
                  refine n_icmp_ge (tgt := 179) dX8_guess_143 (by decide) (by omega) (by omega) (fun hc3 => ?_) (fun hc3 => ?_)
                  · have hi : i = 256 := by omega
                    subst hi
                    have hb256 : bst (gB A p (I 17)) 256 < 256 := by
                      unfold bst; have := bst_lt (gB A p (I 17)) 255; split <;> omega
                    have hgb := gB_le A p (I 17) (bst (gB A p (I 17)) 256)
                    have hBb := hB (bst (gB A p (I 17)) 256) hb256
                    have hgp : 0 < Nat.gcd (lkAll A (I 17)) (gB A p (I 17) (bst (gB A p (I 17)) 256)) := Nat.gcd_pos_of_pos_left _ hap
                    have hgl : Nat.gcd (lkAll A (I 17)) (gB A p (I 17) (bst (gB A p (I 17)) 256)) ≤ lkAll A (I 17) := Nat.gcd_le_left _ hap
                    refine x_aload_n dX8_guess_179 rfl ?_
                    refine x_getf dX8_guess_180 flX8_77 mH_a rfl ?_
                    refine x_iload dX8_guess_183 rfl ?_
                    refine m_lald dX8_guess_185 (by omega) ?_
                    refine x_lload_n dX8_guess_186 rfl ?_
                    rw [hBb]
                    refine x_cSj2 dX8_guess_187 lkX8_232 mdX8_common stX8_common (by decide) (c_common (by omega) (by omega)) (Nat.le_of_ble_eq_true rfl) ⟨Nat.le_refl _, Nat.le_refl _⟩ ?_
                    refine x_ls6 dX8_guess_190 (by decide) rfl ?_
                    refine x_iload_n dX8_guess_192 rfl ?_
                    refine x_if_ne (tgt := 202) dX8_guess_193 (by decide) (fun k0 => ?_) (fun k0 => ?_)
                    · refine x_iload_n dX8_guess_202 rfl ?_
                      refine x_iconst (v := nI 1) dX8_guess_203 (by decide) ?_
                      refine x_icmp_ne (tgt := 220) dX8_guess_204 (by decide) (fun k1 => ?_) (fun k1 => ?_)
                      · refine x_lload_n dX8_guess_220 rfl ?_
                        refine x_lload dX8_guess_221 rfl ?_
                        refine n_ldiv dX8_guess_223 (by omega) hgp (by omega) ?_
                        refine x_lret dX8_guess_224 rfl ⟨Nat.le_refl _, Nat.le_refl _⟩ ?_
                        exact ⟨_, rfl, ⟨by rw [hF, if_neg c4, if_neg k0, if_neg k1], _, _, by rw [← hA2]⟩, rfl⟩
                      · refine x_aload_n dX8_guess_207 rfl ?_
                        refine x_getf dX8_guess_208 flX8_77 mH_a rfl ?_
                        refine x_iload dX8_guess_211 rfl ?_
                        refine m_lald dX8_guess_213 (by omega) ?_
                        rw [hBb]
                        refine x_lload dX8_guess_214 rfl ?_
                        refine n_ldiv dX8_guess_216 (by omega) hgp (by omega) ?_
                        refine x_goto (tgt := 224) dX8_guess_217 (by decide) ?_
                        refine x_lret dX8_guess_224 rfl ⟨Nat.le_refl _, Nat.le_refl _⟩ ?_
                        exact ⟨_, rfl, ⟨by rw [hF, if_neg c4, if_neg k0, if_pos k1], _, _, by rw [← hA2]⟩, rfl⟩
                    · refine x_iload dX8_guess_196 rfl ?_
                      refine n_i2l dX8_guess_198 (by omega) ?_
                      refine x_goto (tgt := 224) dX8_guess_199 (by decide) ?_
                      refine x_lret dX8_guess_224 rfl ⟨Nat.le_refl _, Nat.le_refl _⟩ ?_
                      exact ⟨_, rfl, ⟨by rw [hF, if_neg c4, if_pos k0], _, _, by rw [← hA2]⟩, rfl⟩
                  · have g1 := gB_le A p (I 17) i
                    have g2 := gB_le A p (I 17) (bst (gB A p (I 17)) i)
                    have ih9 := ihi (by omega) (by omega)
                    refine x_aload_n dX8_guess_146 rfl ?_
                    refine x_getf dX8_guess_147 flX8_77 mH_a rfl ?_
                    refine x_iload dX8_guess_150 rfl ?_
                    refine m_lald dX8_guess_152 (by omega) ?_
                    refine x_aload_n dX8_guess_153 rfl ?_
                    refine x_getf dX8_guess_154 flX8_77 mH_a rfl ?_
                    refine x_iload dX8_guess_157 rfl ?_
                    refine m_lald dX8_guess_159 (by omega) ?_
                    rw [hB i (by omega), hB _ (by omega)]
                    refine x_lcmp dX8_guess_160 ?_
                    refine l_if_le (tgt := 169) dX8_guess_161 (by decide) (fun c5 => ?_) (fun c5 => ?_)
                    · have c5 := (lN_le63 (by omega) (by omega)).mp c5
                      refine x_iload dX8_guess_169 rfl ?_
                      refine x_is5 dX8_guess_171 (by decide) rfl ?_
                      refine n_ii6 (w := 1) dX8_guess_173 (by decide) (by decide) rfl ?_
                      refine x_goto (tgt := 138) dX8_guess_176 (by decide) ?_
                      rw [bst, if_neg (by omega)] at ih9
                      exact ih9
                    · have c5 : ¬ gB A p (I 17) i ≤ gB A p (I 17) (bst (gB A p (I 17)) i) := fun q => c5 ((lN_le63 (by omega) (by omega)).mpr q)
                      refine x_iload dX8_guess_164 rfl ?_
                      refine x_goto (tgt := 171) dX8_guess_166 (by decide) ?_
                      refine x_is5 dX8_guess_171 (by decide) rfl ?_
                      refine n_ii6 (w := 1) dX8_guess_173 (by decide) (by decide) rfl ?_
                      refine x_goto (tgt := 138) dX8_guess_176 (by decide) ?_
                      rw [bst, if_pos (by omega)] at ih9
                      exact ih9
                have b1 := bl 1 (by decide) (by decide)
                have e1 : bst (gB A p (I 17)) 1 = 0 := by simp [bst]
                rw [e1] at b1
                exact b1
              · have hwl : w < I 17 := by omega
                have K98 : ∀ v : Nat, v = xw A w → zEx G MX8_guess 5 0 0 98 [some (.ref a), some (.int (nI p)), some (.int y), some (.long (lN (lkAll A w))), none, some (.int (nI w)), o6, none] [.long (lN v)] (mH h0 a I A2 Bw) n (0, 0) (fun r h' n' => ∃ v, r = some (.long v) ∧ (v = fGuess I A (nI p) y ∧ ∃ f B', h' = mH h0 a I (va_up A 22 f) B') ∧ n' = n) := by
                  intro v hv
                  have hsl := sI_lt (A 16 w) p
                  refine x_ls6 dX8_guess_98 (by decide) rfl ?_
                  refine x_aload_n dX8_guess_100 rfl ?_
                  refine x_getf dX8_guess_101 flX8_77 mH_a rfl ?_
                  refine x_aload_n dX8_guess_104 rfl ?_
                  refine x_getf dX8_guess_105 flX8_55 mH_a rfl ?_
                  refine x_iload dX8_guess_108 rfl ?_
                  refine m_iald dX8_guess_110 rfl (by simp only [mLen]; omega) (by decide) ?_
                  rw [e16]
                  refine x_iload_n dX8_guess_111 rfl ?_
                  refine x_cSi2 dX8_guess_112 lkX8_192 mdX8_setIn stX8_setIn (by decide) (c_setIn _ (by omega)) (Nat.le_of_ble_eq_true rfl) ⟨Nat.le_refl _, Nat.le_refl _⟩ ?_
                  refine x_dup2_11 dX8_guess_115 rfl rfl ?_
                  refine m_lald dX8_guess_116 (by omega) ?_
                  refine x_lload dX8_guess_117 rfl ?_
                  refine n_ladd dX8_guess_119 ?_
                  refine m_last dX8_guess_120 hsl ?_
                  refine x_lload_n dX8_guess_121 rfl ?_
                  refine x_lload dX8_guess_122 rfl ?_
                  refine n_ladd dX8_guess_124 ?_
                  refine x_ls3 dX8_guess_125 (by decide) rfl ?_
                  refine n_ii5 (w := 1) dX8_guess_126 (by decide) (by decide) rfl ?_
                  refine x_goto (tgt := 69) dX8_guess_129 (by decide) ?_
                  have e1 : lkAll A (w + 1) = lkAll A w + v := by rw [hv]; rfl
                  have ih9 := ihw hwl (va_up Bw (sI (A 16 w) p) (Bw (sI (A 16 w) p) + v)) (some (.long (lN v))) (fun j hj => by
                    show _ = gB A p w j + (if sI (A 16 w) p = j then xw A w else 0)
                    unfold va_up
                    by_cases hj2 : j = sI (A 16 w) p
                    · subst hj2
                      rw [if_pos rfl, if_pos rfl, hB _ hj, hv]
                    · rw [if_neg hj2, if_neg (fun z => hj2 z.symm), hB j hj, Nat.add_zero])
                  rw [e1] at ih9
                  exact ih9
                refine x_aload_n dX8_guess_78 rfl ?_
                refine x_getf dX8_guess_79 flX8_73 mH_a rfl ?_
                refine x_iload dX8_guess_82 rfl ?_
                refine m_zald dX8_guess_84 rfl (by simp only [mLen]; omega) (by decide) ?_
                rw [em w hwl]
                refine b_if_eq (tgt := 97) dX8_guess_85 (by decide) (fun c5 => ?_) (fun c5 => ?_)
                · refine x_lconst (v := lN 0) dX8_guess_97 (by decide) ?_
                  exact K98 0 (by unfold xw; rw [c5]; rfl)
                · refine x_aload_n dX8_guess_88 rfl ?_
                  refine x_iload dX8_guess_89 rfl ?_
                  refine x_cVj1 dX8_guess_91 lkX8_228 mdX8_weighs isX8_weighs rfl rfl mH_a (by decide) (cw _ w (by omega)) (Nat.le_of_ble_eq_true rfl) ⟨Nat.le_refl _, Nat.le_refl _⟩ ?_
                  refine x_goto (tgt := 98) dX8_guess_94 (by decide) ?_
                  exact K98 _ (by unfold xw; rw [c5]; rfl)
            exact key 0 (Nat.zero_le _) Bz _ (fun j hj => hz j hj)
          · refine x_aload_n dX8_guess_51 rfl ?_
            refine x_getf dX8_guess_52 flX8_77 mH_a rfl ?_
            refine x_iload_n dX8_guess_55 rfl ?_
            refine x_lconst (v := lN 0) dX8_guess_56 (by decide) ?_
            refine m_last dX8_guess_57 (by omega) ?_
            refine n_ii3 (w := 1) dX8_guess_58 (by decide) (by decide) rfl ?_
            refine x_goto (tgt := 44) dX8_guess_61 (by decide) ?_
            refine ih (by omega) _ (fun j hj => ?_)
            unfold va_up
            by_cases hj2 : j = i
            · rw [if_pos hj2]
            · rw [if_neg hj2]; exact hz j (by omega)
        exact zl 0 (Nat.zero_le _) B (fun j hj => absurd hj (by omega))
      · refine x_ldc2 (v := -4) dX8_guess_38 coX8_226 ?_
        refine x_lret dX8_guess_41 rfl ⟨Nat.le_refl _, Nat.le_refl _⟩ ?_
        exact ⟨_, rfl, ⟨by rw [hF, if_pos c4], _, _, rfl⟩, rfl⟩
    · have c2 : bR y 3 = false := c2
      refine x_ldc2 (v := -1) dX8_guess_20 coX8_224 ?_
      refine x_lret dX8_guess_23 rfl ⟨Nat.le_refl _, Nat.le_refl _⟩ ?_
      exact ⟨_, rfl, ⟨by unfold fGuess; rw [c1, c2]; rfl, _, _, self⟩, rfl⟩
end ZM15
section ZM16
variable {G : zG} {n : Nat} {h0 : zF} {a : Nat} {I : Nat → Nat} {A : Nat → Nat → Nat} {B : Nat → Nat}
/-- how world w of the list answers trial (p, sort) -/
def av (A : Nat → Nat → Nat) (p sort w : Nat) : Nat := ansF A p sort (sI (A 16 w) p) 0
/-- how many of the first N worlds of μ answer v; the most so far -/
def cntV (A : Nat → Nat → Nat) (μ : Nat → Bool) (p sort v : Nat) : Nat → Nat := zsum 0 (fun w => if μ w && av A p sort w == v then 1 else 0)
def wsT (A : Nat → Nat → Nat) (μ : Nat → Bool) (p sort : Nat) : Nat → Nat
  | 0 => 0
  | w + 1 => if μ w && decide (wsT A μ p sort w < cntV A μ p sort (av A p sort w) (w + 1)) then cntV A μ p sort (av A p sort w) (w + 1) else wsT A μ p sort w
theorem cntV_le (A : Nat → Nat → Nat) (μ : Nat → Bool) (p sort v N : Nat) : cntV A μ p sort v N ≤ N := by
  have := zsum_le (f := fun w => if μ w && av A p sort w == v then 1 else 0) (m := 1) N 0 (fun t _ => by show (if _ then 1 else 0) ≤ 1; split <;> omega)
  unfold cntV; omega
theorem wsT_le (A : Nat → Nat → Nat) (μ : Nat → Bool) (p sort : Nat) : ∀ N, wsT A μ p sort N ≤ N
  | 0 => Nat.le_refl _
  | N + 1 => by
    have h1 := wsT_le A μ p sort N
    have h2 := cntV_le A μ p sort (av A p sort N) (N + 1)
    unfold wsT; split <;> omega
/-- the answers of the list's worlds are small -/
def a60 (A : Nat → Nat → Nat) (N : Nat) : Prop := ∀ w, w < N → ∀ p, p < A 7 0 → ∀ so, so < 4 → av A p so w < 60
theorem c_worstOf {μ : Nat → Bool} {p sort : Nat} (hk : tR A) (hp : p < A 7 0) (hso : sort < 4) (h17 : I 17 ≤ 5040) (h60 : a60 A (I 17)) (hmu : ∀ w, w < I 17 → A 22 w = (μ w).toNat) : zPi G MX8_worstOf 3 [.ref a, .int (nI p), .int (nI sort)] (mH h0 a I A B) n (fun v h' => v = nI (wsT A μ p sort (I 17)) ∧ ∃ f, h' = mH h0 a I (va_up A 24 f) B) := by
  refine zCt.of rfl (Nat.le_of_ble_eq_true rfl) rfl ?_
  have k7 := hk.2.1
  refine x_iconst (v := nI 0) dX8_worstOf_0 (by decide) ?_
  refine x_is3 dX8_worstOf_1 (by decide) rfl ?_
  refine x_eqA (A' := va_up A 24 (A 24)) (up_self A 24).symm ?_
  have zl : ∀ i, i ≤ 60 → ∀ f : Nat → Nat, (∀ j, j < i → f j = 0) → zEx G MX8_worstOf 3 0 0 2 [some (.ref a), some (.int (nI p)), some (.int (nI sort)), some (.int (nI i)), none, none] [] (mH h0 a I (va_up A 24 f) B) n (0, 0) (fun r h' n' => ∃ v, r = some (.int v) ∧ (v = nI (wsT A μ p sort (I 17)) ∧ ∃ f, h' = mH h0 a I (va_up A 24 f) B) ∧ n' = n) := by
    refine z_up 60 ?_
    intro i hi ih f hz
    refine x_iload_n dX8_worstOf_2 rfl ?_
    refine x_bipush (v := nI 60) dX8_worstOf_3 (by decide) ?_
    refine n_icmp_ge (tgt := 21) dX8_worstOf_5 (by decide) (by omega) (by omega) (fun hc => ?_) (fun hc => ?_)
    · have hi : i = 60 := by omega
      subst hi
      refine x_iconst (v := nI 0) dX8_worstOf_21 (by decide) ?_
      refine x_is3 dX8_worstOf_22 (by decide) rfl ?_
      refine x_iconst (v := nI 0) dX8_worstOf_23 (by decide) ?_
      refine x_is4 dX8_worstOf_24 (by decide) rfl ?_
      have key : ∀ w, w ≤ I 17 → ∀ (f : Nat → Nat) (o5 : Option Value), (∀ j, j < 60 → f j = cntV A μ p sort j w) → zEx G MX8_worstOf 3 0 0 26 [some (.ref a), some (.int (nI p)), some (.int (nI sort)), some (.int (nI (wsT A μ p sort w))), some (.int (nI w)), o5] [] (mH h0 a I (va_up A 24 f) B) n (0, 0) (fun r h' n' => ∃ v, r = some (.int v) ∧ (v = nI (wsT A μ p sort (I 17)) ∧ ∃ f, h' = mH h0 a I (va_up A 24 f) B) ∧ n' = n) := by
        refine z_up (I 17) ?_
        intro w hw ihw f o5 hf
        refine x_iload dX8_worstOf_26 rfl ?_
        refine x_aload_n dX8_worstOf_28 rfl ?_
        refine x_getf dX8_worstOf_29 flX8_172 mH_a rfl ?_
        refine n_icmp_ge (tgt := 105) dX8_worstOf_32 (by decide) (by omega) (by omega) (fun hc2 => ?_) (fun hc2 => ?_)
        · refine x_iload_n dX8_worstOf_105 rfl ?_
          refine x_iret dX8_worstOf_106 rfl rfl ⟨Nat.le_refl _, Nat.le_refl _⟩ ?_
          exact ⟨_, rfl, ⟨by rw [show w = I 17 by omega], _, rfl⟩, rfl⟩
        · have hwl : w < I 17 := by omega
          have hav := h60 w hwl p hp sort hso
          have hws := wsT_le A μ p sort w
          have hcl := cntV_le A μ p sort (av A p sort w) (w + 1)
          have e22 : (va_up A 24 f) 22 w = (μ w).toNat := hmu w hwl
          have ih9 := ihw hwl
          refine x_aload_n dX8_worstOf_35 rfl ?_
          refine x_getf dX8_worstOf_36 flX8_73 mH_a rfl ?_
          refine x_iload dX8_worstOf_39 rfl ?_
          refine m_zald dX8_worstOf_41 rfl (by simp only [mLen]; omega) (by decide) ?_
          rw [e22]
          refine b_if_eq (tgt := 99) dX8_worstOf_42 (by decide) (fun c1 => ?_) (fun c1 => ?_)
          · refine n_ii4 (w := 1) dX8_worstOf_99 (by decide) (by decide) rfl ?_
            refine x_goto (tgt := 26) dX8_worstOf_102 (by decide) ?_
            have hcz : ∀ v, cntV A μ p sort v (w + 1) = cntV A μ p sort v w := fun v => by show cntV A μ p sort v w + _ = _; simp [c1]
            rw [wsT, c1] at ih9
            exact ih9 f o5 (fun j hj => by rw [hcz]; exact hf j hj)
          · have hcv : ∀ v, cntV A μ p sort v (w + 1) = cntV A μ p sort v w + (if av A p sort w = v then 1 else 0) := fun v => by
              show cntV A μ p sort v w + (if μ w && av A p sort w == v then 1 else 0) = _
              rw [c1]; simp
            have ca : zI G MX8_answerOf 2 [.ref a, .int (nI p), .int (nI sort), .int (nI (sI (A 16 w) p)), .int (nI 0)] (mH h0 a I (va_up A 24 f) B) n (nI (av A p sort w)) := by
              have := c_answerOf (G := G) (n := n) (h0 := h0) (a := a) (I := I) (B := B) (A := va_up A 24 f) (p := p) (sort := sort) (s := sI (A 16 w) p) (f := 0) hk hp hso (sI_lt _ _) (by decide)
              rwa [ansF_up (by decide)] at this
            have hfa := hf (av A p sort w) hav
            have hca := hcv (av A p sort w)
            rw [if_pos rfl] at hca
            refine x_aload_n dX8_worstOf_45 rfl ?_
            refine x_iload_n dX8_worstOf_46 rfl ?_
            refine x_iload_n dX8_worstOf_47 rfl ?_
            refine x_aload_n dX8_worstOf_48 rfl ?_
            refine x_getf dX8_worstOf_49 flX8_55 mH_a rfl ?_
            refine x_iload dX8_worstOf_52 rfl ?_
            refine m_iald dX8_worstOf_54 rfl (by simp only [mLen]; omega) (by decide) ?_
            refine x_iload_n dX8_worstOf_55 rfl ?_
            refine x_cSi2 dX8_worstOf_56 lkX8_192 mdX8_setIn stX8_setIn (by decide) (c_setIn _ (by omega)) (Nat.le_of_ble_eq_true rfl) ⟨Nat.le_refl _, Nat.le_refl _⟩ ?_
            refine x_iconst (v := nI 0) dX8_worstOf_59 (by decide) ?_
            refine x_cVi4 dX8_worstOf_60 lkX8_203 mdX8_answerOf isX8_answerOf rfl rfl mH_a (by decide) (ca) (Nat.le_of_ble_eq_true rfl) ⟨Nat.le_refl _, Nat.le_refl _⟩ ?_
            refine x_is5 dX8_worstOf_63 (by decide) rfl ?_
            refine x_aload_n dX8_worstOf_65 rfl ?_
            refine x_getf dX8_worstOf_66 flX8_81 mH_a rfl ?_
            refine x_iload dX8_worstOf_69 rfl ?_
            refine x_dup2_11 dX8_worstOf_71 rfl rfl ?_
            refine m_iald (A := va_up A 24 f) dX8_worstOf_72 rfl (by simp only [mLen]; omega) (by decide) ?_
            have e24 : (va_up A 24 f) 24 (av A p sort w) = cntV A μ p sort (av A p sort w) w := hfa
            rw [e24]
            refine x_iconst (v := nI 1) dX8_worstOf_73 (by decide) ?_
            refine n_iadd dX8_worstOf_74 ?_
            rw [← hca]
            refine m_iast dX8_worstOf_75 rfl (by simp only [mLen]; omega) (by decide) ?_
            refine x_eqA (A' := va_up A 24 (va_up f (av A p sort w) (cntV A μ p sort (av A p sort w) (w + 1)))) (by rw [up_eq, up_up]) ?_
            have hf' : ∀ j, j < 60 → va_up f (av A p sort w) (cntV A μ p sort (av A p sort w) (w + 1)) j = cntV A μ p sort j (w + 1) := by
              intro j hj
              unfold va_up
              by_cases hj2 : j = av A p sort w
              · rw [if_pos hj2, hj2]
              · rw [if_neg hj2, hcv, if_neg (fun z => hj2 z.symm), hf j hj, Nat.add_zero]
            have e24' : (va_up A 24 (va_up f (av A p sort w) (cntV A μ p sort (av A p sort w) (w + 1)))) 24 (av A p sort w) = cntV A μ p sort (av A p sort w) (w + 1) := up_eq _ _ _
            refine x_aload_n dX8_worstOf_76 rfl ?_
            refine x_getf dX8_worstOf_77 flX8_81 mH_a rfl ?_
            refine x_iload dX8_worstOf_80 rfl ?_
            refine m_iald dX8_worstOf_82 rfl (by simp only [mLen]; omega) (by decide) ?_
            rw [e24']
            refine x_iload_n dX8_worstOf_83 rfl ?_
            refine n_icmp_le (tgt := 97) dX8_worstOf_84 (by decide) (by omega) (by omega) (fun c2 => ?_) (fun c2 => ?_)
            · refine x_iload_n dX8_worstOf_97 rfl ?_
              refine x_is3 dX8_worstOf_98 (by decide) rfl ?_
              refine n_ii4 (w := 1) dX8_worstOf_99 (by decide) (by decide) rfl ?_
              refine x_goto (tgt := 26) dX8_worstOf_102 (by decide) ?_
              rw [wsT, c1, decide_eq_false (show ¬ wsT A μ p sort w < _ by omega)] at ih9
              exact ih9 _ _ hf'
            · refine x_aload_n dX8_worstOf_87 rfl ?_
              refine x_getf dX8_worstOf_88 flX8_81 mH_a rfl ?_
              refine x_iload dX8_worstOf_91 rfl ?_
              refine m_iald dX8_worstOf_93 rfl (by simp only [mLen]; omega) (by decide) ?_
              rw [e24']
              refine x_goto (tgt := 98) dX8_worstOf_94 (by decide) ?_
              refine x_is3 dX8_worstOf_98 (by decide) rfl ?_
              refine n_ii4 (w := 1) dX8_worstOf_99 (by decide) (by decide) rfl ?_
              refine x_goto (tgt := 26) dX8_worstOf_102 (by decide) ?_
              rw [wsT, c1, decide_eq_true (show wsT A μ p sort w < _ by omega)] at ih9
              exact ih9 _ _ hf'
      exact key 0 (Nat.zero_le _) f _ (fun j hj => hz j hj)
    · refine x_aload_n dX8_worstOf_8 rfl ?_
      refine x_getf dX8_worstOf_9 flX8_81 mH_a rfl ?_
      refine x_iload_n dX8_worstOf_12 rfl ?_
      refine x_iconst (v := nI 0) dX8_worstOf_13 (by decide) ?_
      refine m_iast dX8_worstOf_14 rfl (by simp only [mLen]; omega) (by decide) ?_
      refine n_ii3 (w := 1) dX8_worstOf_15 (by decide) (by decide) rfl ?_
      refine x_goto (tgt := 2) dX8_worstOf_18 (by decide) ?_
      refine x_eqA (A' := va_up A 24 (va_up f i 0)) (by rw [up_eq, up_up]) ?_
      refine ih (by omega) _ (fun j hj => ?_)
      unfold va_up
      by_cases hj2 : j = i
      · rw [if_pos hj2]
      · rw [if_neg hj2]; exact hz j (by omega)
  exact zl 0 (Nat.zero_le _) (A 24) (fun j hj => absurd hj (by omega))
/-- the best of the trials 0 .. k, and how many it leaves -/
def btF (A : Nat → Nat → Nat) (μ : Nat → Bool) (N : Nat) : Nat → Nat × Nat
  | 0 => (0, wsT A μ 0 0 N)
  | k + 1 => if wsT A μ ((k + 1) / 4) ((k + 1) % 4) N < (btF A μ N k).2 then (k + 1, wsT A μ ((k + 1) / 4) ((k + 1) % 4) N) else btF A μ N k
theorem btF_le (A : Nat → Nat → Nat) (μ : Nat → Bool) (N : Nat) : ∀ k, (btF A μ N k).1 ≤ k ∧ (btF A μ N k).2 ≤ N
  | 0 => ⟨Nat.le_refl _, wsT_le A μ 0 0 N⟩
  | k + 1 => by
    have h1 := btF_le A μ N k
    have h2 := wsT_le A μ ((k + 1) / 4) ((k + 1) % 4) N
    unfold btF
    split
    · exact ⟨Nat.le_refl _, h2⟩
    · exact ⟨by omega, h1.2⟩
theorem wsT_up {A : Nat → Nat → Nat} {q : Nat} {f : Nat → Nat} (hq : 17 ≤ q) (μ : Nat → Bool) (p sort : Nat) : ∀ N, wsT (va_up A q f) μ p sort N = wsT A μ p sort N := by
  have e1 : ∀ w, av (va_up A q f) p sort w = av A p sort w := fun w => by
    unfold av; rw [ansF_up (by omega), up_ne A f (show (16 : Nat) ≠ q by omega)]
  have e2 : ∀ v N, cntV (va_up A q f) μ p sort v N = cntV A μ p sort v N := fun v N => by
    unfold cntV; congr 1; funext w; rw [e1]
  intro N
  induction N with
  | zero => rfl
  | succ N ih => rw [wsT, wsT, ih, e1, e2]
theorem a60_up {A : Nat → Nat → Nat} {q N : Nat} {f : Nat → Nat} (hq : 17 ≤ q) (h : a60 A N) : a60 (va_up A q f) N := by
  intro w hw p hp so hso
  rw [up_ne A f (show (7 : Nat) ≠ q by omega)] at hp
  have := h w hw p hp so hso
  unfold av at this ⊢
  rwa [ansF_up (by omega), up_ne A f (show (16 : Nat) ≠ q by omega)]
theorem tR_up {A : Nat → Nat → Nat} {q : Nat} {f : Nat → Nat} (hq : 15 ≤ q) (h : tR A) : tR (va_up A q f) := by
  unfold tR at h ⊢
  simp only [up_ne A f (show (2 : Nat) ≠ q by omega), up_ne A f (show (3 : Nat) ≠ q by omega), up_ne A f (show (4 : Nat) ≠ q by omega), up_ne A f (show (5 : Nat) ≠ q by omega), up_ne A f (show (6 : Nat) ≠ q by omega), up_ne A f (show (7 : Nat) ≠ q by omega), up_ne A f (show (8 : Nat) ≠ q by omega), up_ne A f (show (9 : Nat) ≠ q by omega), up_ne A f (show (10 : Nat) ≠ q by omega), up_ne A f (show (11 : Nat) ≠ q by omega), up_ne A f (show (12 : Nat) ≠ q by omega), up_ne A f (show (13 : Nat) ≠ q by omega), up_ne A f (show (14 : Nat) ≠ q by omega)]
  exact h
theorem c_bestTrial {μ : Nat → Bool} (hk : tR A) (h1 : 1 ≤ A 7 0) (h17 : I 17 ≤ 5040) (h60 : a60 A (I 17)) (hmu : ∀ w, w < I 17 → A 22 w = (μ w).toNat) : zPi G MX8_bestTrial 4 [.ref a] (mH h0 a I A B) n (fun v h' => v = nI (btF A μ (I 17) (4 * A 7 0 - 1)).1 ∧ ∃ f, h' = mH h0 a (va_up I 29 (btF A μ (I 17) (4 * A 7 0 - 1)).2) (va_up A 24 f) B) := by
  refine zCt.of rfl (Nat.le_of_ble_eq_true rfl) rfl ?_
  have k7 := hk.2.1
  have cw : ∀ (I' : Nat → Nat) (f : Nat → Nat) (p so : Nat), I' 17 = I 17 → p < A 7 0 → so < 4 → zPi G MX8_worstOf 3 [.ref a, .int (nI p), .int (nI so)] (mH h0 a I' (va_up A 24 f) B) n (fun v h' => v = nI (wsT A μ p so (I 17)) ∧ ∃ f, h' = mH h0 a I' (va_up A 24 f) B) := by
    intro I' f p so hI hp hso
    have := c_worstOf (G := G) (n := n) (h0 := h0) (a := a) (I := I') (B := B) (A := va_up A 24 f) (μ := μ) (p := p) (sort := so) (tR_up (by decide) hk) hp hso (by rw [hI]; exact h17) (by rw [hI]; exact a60_up (by decide) h60) (by rw [hI]; exact hmu)
    rw [hI, wsT_up (by decide)] at this
    simp only [up_up] at this
    exact this
  refine x_bipush (v := -4) dX8_bestTrial_0 (by decide) ?_
  refine x_is1 dX8_bestTrial_2 (by decide) rfl ?_
  refine x_iconst (v := nI 0) dX8_bestTrial_3 (by decide) ?_
  refine x_is2 dX8_bestTrial_4 (by decide) rfl ?_
  refine x_eqA (A' := va_up A 24 (A 24)) (up_self A 24).symm ?_
  have key : ∀ k, k ≤ 4 * A 7 0 → 1 ≤ k → ∀ (f : Nat → Nat) (o3 : Option Value), zEx G MX8_bestTrial 4 0 0 5 [some (.ref a), some (.int (nI (btF A μ (I 17) (k - 1)).1)), some (.int (nI k)), o3] [] (mH h0 a (va_up I 29 (btF A μ (I 17) (k - 1)).2) (va_up A 24 f) B) n (0, 0) (fun r h' n' => ∃ v, r = some (.int v) ∧ (v = nI (btF A μ (I 17) (4 * A 7 0 - 1)).1 ∧ ∃ f, h' = mH h0 a (va_up I 29 (btF A μ (I 17) (4 * A 7 0 - 1)).2) (va_up A 24 f) B) ∧ n' = n) := by
    refine z_up (4 * A 7 0) ?_
    intro k hkk ih h1k f o3
    have hbl := btF_le A μ (I 17) (k - 1)
    refine x_iload_n dX8_bestTrial_5 rfl ?_
    refine x_iconst (v := nI 4) dX8_bestTrial_6 (by decide) ?_
    refine x_aload_n dX8_bestTrial_7 rfl ?_
    refine x_getf dX8_bestTrial_8 flX8_28 mH_a rfl ?_
    refine x_iconst (v := nI 0) dX8_bestTrial_11 (by decide) ?_
    refine m_iald (A := va_up A 24 f) (j := 0) dX8_bestTrial_12 rfl (by simp only [mLen]; omega) (by decide) ?_
    have e7 : (va_up A 24 f) 7 0 = A 7 0 := rfl
    rw [e7]
    refine n_imul dX8_bestTrial_13 ?_
    refine n_icmp_ge (tgt := 53) dX8_bestTrial_14 (by decide) (by omega) (by omega) (fun hc => ?_) (fun hc => ?_)
    · rw [show k = 4 * A 7 0 by omega]
      refine x_iload_n dX8_bestTrial_53 rfl ?_
      refine x_iret dX8_bestTrial_54 rfl rfl ⟨Nat.le_refl _, Nat.le_refl _⟩ ?_
      exact ⟨_, rfl, ⟨rfl, f, rfl⟩, rfl⟩
    · have hws := wsT_le A μ (k / 4) (k % 4) (I 17)
      refine x_aload_n dX8_bestTrial_17 rfl ?_
      refine x_iload_n dX8_bestTrial_18 rfl ?_
      refine x_iconst (v := nI 4) dX8_bestTrial_19 (by decide) ?_
      refine n_idiv dX8_bestTrial_20 (by omega) (by omega) (by omega) ?_
      refine x_iload_n dX8_bestTrial_21 rfl ?_
      refine x_iconst (v := nI 4) dX8_bestTrial_22 (by decide) ?_
      refine n_irem dX8_bestTrial_23 (by omega) (by omega) (by omega) ?_
      refine x_cVI2 dX8_bestTrial_24 lkX8_236 mdX8_worstOf isX8_worstOf rfl rfl mH_a (by decide) (cw _ f (k / 4) (k % 4) rfl (by omega) (by omega)) (Nat.le_of_ble_eq_true rfl) ⟨Nat.le_refl _, Nat.le_refl _⟩ ?_
      rintro v h' ⟨rfl, f', rfl⟩
      refine x_is3 dX8_bestTrial_27 (by decide) rfl ?_
      refine x_iload_n dX8_bestTrial_28 rfl ?_
      refine x_if_lt (tgt := 40) dX8_bestTrial_29 (by decide) (fun c1 => absurd c1 (nI_pos (by omega))) (fun c1 => ?_)
      refine x_iload_n dX8_bestTrial_32 rfl ?_
      refine x_aload_n dX8_bestTrial_33 rfl ?_
      refine x_getf (v := .int (nI (btF A μ (I 17) (k - 1)).2)) dX8_bestTrial_34 flX8_239 mH_a rfl ?_
      have ih9 := ih (by omega) (by omega)
      have ek : btF A μ (I 17) (k + 1 - 1) = if wsT A μ (k / 4) (k % 4) (I 17) < (btF A μ (I 17) (k - 1)).2 then (k, wsT A μ (k / 4) (k % 4) (I 17)) else btF A μ (I 17) (k - 1) := by
        obtain ⟨j, rfl⟩ : ∃ j, k = j + 1 := ⟨k - 1, by omega⟩
        rfl
      rw [ek] at ih9
      refine n_icmp_ge (tgt := 47) dX8_bestTrial_37 (by decide) (by omega) (by omega) (fun c2 => ?_) (fun c2 => ?_)
      · refine n_ii2 (w := 1) dX8_bestTrial_47 (by decide) (by decide) rfl ?_
        refine x_goto (tgt := 5) dX8_bestTrial_50 (by decide) ?_
        rw [if_neg (by omega)] at ih9
        exact ih9 _ _
      · refine x_iload_n dX8_bestTrial_40 rfl ?_
        refine x_is1 dX8_bestTrial_41 (by decide) rfl ?_
        refine x_aload_n dX8_bestTrial_42 rfl ?_
        refine x_iload_n dX8_bestTrial_43 rfl ?_
        refine m_put dX8_bestTrial_44 flX8_239 ftX8_29 (by simp [mFs]) rfl ?_
        refine n_ii2 (w := 1) dX8_bestTrial_47 (by decide) (by decide) rfl ?_
        refine x_goto (tgt := 5) dX8_bestTrial_50 (by decide) ?_
        refine x_eqI (I' := va_up I 29 (wsT A μ (k / 4) (k % 4) (I 17))) (up_up _ _ _ _) ?_
        rw [if_pos (by omega)] at ih9
        exact ih9 _ _
  refine x_iload_n dX8_bestTrial_5 rfl ?_
  refine x_iconst (v := nI 4) dX8_bestTrial_6 (by decide) ?_
  refine x_aload_n dX8_bestTrial_7 rfl ?_
  refine x_getf dX8_bestTrial_8 flX8_28 mH_a rfl ?_
  refine x_iconst (v := nI 0) dX8_bestTrial_11 (by decide) ?_
  refine m_iald (A := va_up A 24 (A 24)) (j := 0) dX8_bestTrial_12 rfl (by simp only [mLen]; omega) (by decide) ?_
  have e7 : (va_up A 24 (A 24)) 7 0 = A 7 0 := rfl
  rw [e7]
  refine n_imul dX8_bestTrial_13 ?_
  refine n_icmp_ge (tgt := 53) dX8_bestTrial_14 (by decide) (by omega) (by omega) (fun hc => ?_) (fun hc => ?_)
  · exact absurd hc (by omega)
  · refine x_aload_n dX8_bestTrial_17 rfl ?_
    refine x_iload_n dX8_bestTrial_18 rfl ?_
    refine x_iconst (v := nI 4) dX8_bestTrial_19 (by decide) ?_
    refine n_idiv dX8_bestTrial_20 (by omega) (by omega) (by omega) ?_
    refine x_iload_n dX8_bestTrial_21 rfl ?_
    refine x_iconst (v := nI 4) dX8_bestTrial_22 (by decide) ?_
    refine n_irem dX8_bestTrial_23 (by omega) (by omega) (by omega) ?_
    refine x_cVI2 dX8_bestTrial_24 lkX8_236 mdX8_worstOf isX8_worstOf rfl rfl mH_a (by decide) (cw I _ (0 / 4) (0 % 4) rfl (by omega) (by decide)) (Nat.le_of_ble_eq_true rfl) ⟨Nat.le_refl _, Nat.le_refl _⟩ ?_
    rintro v h' ⟨rfl, f', rfl⟩
    refine x_is3 dX8_bestTrial_27 (by decide) rfl ?_
    refine x_iload_n dX8_bestTrial_28 rfl ?_
    refine x_if_lt (tgt := 40) dX8_bestTrial_29 (by decide) (fun c1 => ?_) (fun c1 => absurd (by decide) c1)
    refine x_iload_n dX8_bestTrial_40 rfl ?_
    refine x_is1 dX8_bestTrial_41 (by decide) rfl ?_
    refine x_aload_n dX8_bestTrial_42 rfl ?_
    refine x_iload_n dX8_bestTrial_43 rfl ?_
    refine m_put dX8_bestTrial_44 flX8_239 ftX8_29 (by simp [mFs]) rfl ?_
    refine n_ii2 (w := 1) dX8_bestTrial_47 (by decide) (by decide) rfl ?_
    refine x_goto (tgt := 5) dX8_bestTrial_50 (by decide) ?_
    exact key 1 (by omega) (by decide) _ _
def sNext (q : Nat × Nat) (what : Int32) : Int32 := if what = 0 then nI q.1 else nI q.2
def fNext (I : Nat → Nat) (A : Nat → Nat → Nat) (what : Int32) : Int32 := if bR what 2 then (if nLeft A (A 17 8) (I 17) = 0 then -4 else sNext (btF A (lf A (A 17 8)) (I 17) (4 * A 7 0 - 1)) what) else -1
theorem btF_up {A : Nat → Nat → Nat} {q : Nat} {f : Nat → Nat} (hq : 17 ≤ q) (μ : Nat → Bool) (N : Nat) : ∀ k, btF (va_up A q f) μ N k = btF A μ N k
  | 0 => by rw [btF, btF, wsT_up hq]
  | k + 1 => by rw [btF, btF, wsT_up hq, btF_up hq μ N k]
theorem c_nextM {x : Int32} (hk : tR A) (h1 : 1 ≤ A 7 0) (hs : sOK A (A 17)) (h17 : I 17 ≤ 5040) (h60 : a60 A (I 17)) : zPi G MX8_next 5 [.ref a, .int x] (mH h0 a I A B) n (fun v h' => v = fNext I A x ∧ ∃ e f g, h' = mH h0 a (va_up I 29 e) (va_up (va_up A 22 f) 24 g) B) := by
  refine zCt.of rfl (Nat.le_of_ble_eq_true rfl) rfl ?_
  have self : mH h0 a I A B = mH h0 a (va_up I 29 (I 29)) (va_up (va_up A 22 (A 22)) 24 (A 24)) B := by rw [up_self, up_self]; congr 1; funext k j; simp only [va_up, ite_app]; grind
  refine x_iload_n dX8_next_0 rfl ?_
  refine x_i2l dX8_next_1 rfl ?_
  refine x_lconst (v := lN 0) dX8_next_2 (by decide) ?_
  refine x_lconst (v := lN 1) dX8_next_3 (by decide) ?_
  refine x_cSi3 dX8_next_4 lkX8_109 mdX8_in stX8_in (by decide) (c_inR x (by decide)) (Nat.le_of_ble_eq_true rfl) ⟨Nat.le_refl _, Nat.le_refl _⟩ ?_
  refine b_if_ne (tgt := 12) dX8_next_7 (by decide) (fun c1 => ?_) (fun c1 => ?_)
  · have c1 : bR x 2 = true := c1
    have hnl := nLeft_le A (A 17 8) (I 17)
    refine x_aload_n dX8_next_12 rfl ?_
    refine x_aload_n dX8_next_13 rfl ?_
    refine x_getf dX8_next_14 flX8_58 mH_a rfl ?_
    refine x_bipush (v := nI 8) dX8_next_17 (by decide) ?_
    refine m_iald dX8_next_19 rfl (by simp only [mLen]; omega) (by decide) ?_
    refine x_cVI1 dX8_next_20 lkX8_221 mdX8_layLeft isX8_layLeft rfl rfl mH_a (by decide) (c_layLeft hk hs (Nat.le_refl _) h17) (Nat.le_of_ble_eq_true rfl) ⟨Nat.le_refl _, Nat.le_refl _⟩ ?_
    rintro v h' ⟨rfl, rfl⟩
    refine n_if_ne (tgt := 29) dX8_next_23 (by decide) (by omega) (fun c2 => ?_) (fun c2 => ?_)
    · have cb := c_bestTrial (G := G) (n := n) (h0 := h0) (a := a) (I := I) (B := B) (A := va_up A 22 (mayF A (A 17 8) (I 17))) (μ := lf A (A 17 8)) (tR_up (by decide) hk) h1 h17 (a60_up (by decide) h60) (fun w hw => by
        show mayF A (A 17 8) (I 17) w = _
        unfold mayF; rw [if_pos hw])
      simp only [btF_up (show 17 ≤ 22 by decide)] at cb
      refine x_aload_n dX8_next_29 rfl ?_
      refine x_cVI0 dX8_next_30 lkX8_242 mdX8_bestTrial isX8_bestTrial rfl rfl mH_a (by decide) (cb) (Nat.le_of_ble_eq_true rfl) ⟨Nat.le_refl _, Nat.le_refl _⟩ ?_
      rintro v h' ⟨rfl, g, rfl⟩
      have hF : fNext I A x = sNext (btF A (lf A (A 17 8)) (I 17) (4 * A 7 0 - 1)) x := by unfold fNext; rw [if_pos c1, if_neg c2]
      rw [hF]
      refine x_is2 dX8_next_33 (by decide) rfl ?_
      refine x_iload_n dX8_next_34 rfl ?_
      refine x_if_ne (tgt := 42) dX8_next_35 (by decide) (fun c3 => ?_) (fun c3 => ?_)
      · refine x_aload_n dX8_next_42 rfl ?_
        refine x_getf (v := .int (nI (btF A (lf A (A 17 8)) (I 17) (4 * A 7 0 - 1)).2)) dX8_next_43 flX8_239 mH_a rfl ?_
        refine x_iret dX8_next_46 rfl rfl ⟨Nat.le_refl _, Nat.le_refl _⟩ ?_
        exact ⟨_, rfl, ⟨by unfold sNext; rw [if_neg c3], _, _, _, rfl⟩, rfl⟩
      · refine x_iload_n dX8_next_38 rfl ?_
        refine x_goto (tgt := 46) dX8_next_39 (by decide) ?_
        refine x_iret dX8_next_46 rfl rfl ⟨Nat.le_refl _, Nat.le_refl _⟩ ?_
        exact ⟨_, rfl, ⟨by unfold sNext; rw [if_pos c3]; rfl, _, _, _, rfl⟩, rfl⟩
    · refine x_bipush (v := -4) dX8_next_26 (by decide) ?_
      refine x_iret dX8_next_28 rfl rfl ⟨Nat.le_refl _, Nat.le_refl _⟩ ?_
      refine ⟨_, rfl, ⟨by unfold fNext; rw [if_pos c1, if_pos c2], I 29, mayF A (A 17 8) (I 17), A 24, ?_⟩, rfl⟩
      rw [up_self]; congr 1; funext k j; simp only [va_up, ite_app]; grind
  · have c1 : bR x 2 = false := c1
    refine x_iconst (v := -1) dX8_next_10 (by decide) ?_
    refine x_iret dX8_next_11 rfl rfl ⟨Nat.le_refl _, Nat.le_refl _⟩ ?_
    exact ⟨_, rfl, ⟨by unfold fNext; rw [c1]; rfl, _, _, _, self⟩, rfl⟩
end ZM16
