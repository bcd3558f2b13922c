section ZM19
variable {G : zG} {n : Nat} {h0 : zF} {a : Nat} {I : Nat → Nat} {A : Nat → Nat → Nat} {B : Nat → Nat}
def sSol (q : Option Nat × Nat) (what : Int32) : Int32 := match q.1 with
  | none => -4
  | some m => if what = 0 then nI m else nI q.2
def fSolved (I : Nat → Nat) (A : Nat → Nat → Nat) (what : Int32) : Int32 := if bR what 2 then sSol (slF A (trC (A 17)) (I 17) 21 0 (lf A (A 17 8)) 0) what else -1
theorem nar_up {A : Nat → Nat → Nat} {q : Nat} {f : Nat → Nat} (hq : 17 ≤ q) (μ : Nat → Bool) (c k : Nat) : nar (va_up A q f) μ c k = nar A μ c k := by
  funext w
  unfold nar av
  rw [ansF_up (by omega), ansF_up (by omega), up_ne A f (show (16 : Nat) ≠ q by omega)]
theorem hasW_up {A : Nat → Nat → Nat} {q : Nat} {f : Nat → Nat} (hq : 17 ≤ q) (μ : Nat → Bool) (c : Nat) : ∀ w, hasW (va_up A q f) μ c w = hasW A μ c w
  | 0 => rfl
  | w + 1 => by rw [hasW, hasW, hasW_up hq μ c w, up_ne A f (show (16 : Nat) ≠ q by omega)]
theorem slF_up {A : Nat → Nat → Nat} {q : Nat} {f : Nat → Nat} (hq : 17 ≤ q) (c N : Nat) : ∀ r m μ took, slF (va_up A q f) c N r m μ took = slF A c N r m μ took
  | 0, m, μ, took => rfl
  | r + 1, m, μ, took => by
    rw [slF, slF, hasW_up hq, btF_up hq, nar_up hq, up_ne A f (show (7 : Nat) ≠ q by omega), up_ne A f (show (14 : Nat) ≠ q by omega), slF_up hq c N r]
theorem slF_le (A : Nat → Nat → Nat) (c N : Nat) : ∀ r m μ took x, (slF A c N r m μ took).1 = some x → x < r + m
  | 0, m, μ, took, x, h => by cases h
  | r + 1, m, μ, took, x, h => by
    rw [slF] at h
    split at h
    · split at h
      · cases h; omega
      · cases h
    · have := slF_le A c N r (m + 1) _ _ x h
      omega
theorem cdOf_lt {x0 x1 x2 x3 : Nat} (h0 : x0 < 256) (h1 : x1 < 256) (h2 : x2 < 256) (h3 : x3 < 256) : cdOf x0 x1 x2 x3 < 2 ^ 32 := by
  unfold cdOf
  refine Nat.or_lt_two_pow (Nat.or_lt_two_pow (Nat.or_lt_two_pow (by omega) ?_) ?_) ?_ <;> omega
theorem c_solvedM {x : Int32} (hk : tR A) (h1 : 1 ≤ A 7 0) (hs : sOK A (A 17)) (h17 : I 17 ≤ 5040) (h60 : a60 A (I 17)) (h32 : ∀ w, w < I 17 → A 16 w < 2 ^ 32) (hst : ∀ p, p < 4 → A 17 p < 256) : zPi G MX8_solved 6 [.ref a, .int x] (mH h0 a I A B) n (fun v h' => v = fSolved I A x ∧ ∃ d e f g, h' = mH h0 a (va_up (va_up I 29 d) 32 e) (va_up (va_up A 22 f) 24 g) B) := by
  refine zCt.of rfl (Nat.le_of_ble_eq_true rfl) rfl ?_
  have self : mH h0 a I A B = mH h0 a (va_up (va_up I 29 (I 29)) 32 (I 32)) (va_up (va_up A 22 (A 22)) 24 (A 24)) B := by
    have e1 : va_up (va_up I 29 (I 29)) 32 (I 32) = I := by funext k; simp only [va_up]; grind
    have e2 : va_up (va_up A 22 (A 22)) 24 (A 24) = A := by funext k j; simp only [va_up, ite_app]; grind
    rw [e1, e2]
  refine x_iload_n dX8_solved_0 rfl ?_
  refine x_i2l dX8_solved_1 rfl ?_
  refine x_lconst (v := lN 0) dX8_solved_2 (by decide) ?_
  refine x_lconst (v := lN 1) dX8_solved_3 (by decide) ?_
  refine x_cSi3 dX8_solved_4 lkX8_109 mdX8_in stX8_in (by decide) (c_inR x (by decide)) (Nat.le_of_ble_eq_true rfl) ⟨Nat.le_refl _, Nat.le_refl _⟩ ?_
  refine b_if_ne (tgt := 12) dX8_solved_7 (by decide) (fun c1 => ?_) (fun c1 => ?_)
  · have c1 : bR x 2 = true := c1
    have hF : fSolved I A x = sSol (slF A (trC (A 17)) (I 17) 21 0 (lf A (A 17 8)) 0) x := by unfold fSolved; rw [if_pos c1]
    rw [hF]
    have ctr : zI G MX8_truth 1 [.ref a] (mH h0 a I (va_up A 22 (mayF A (A 17 8) (I 17))) B) n (nI (trC (A 17))) := c_truth (A := va_up A 22 (mayF A (A 17 8) (I 17)))
    have cs := c_solve (G := G) (n := n) (h0 := h0) (a := a) (I := I) (B := B) (A := va_up A 22 (mayF A (A 17 8) (I 17))) (μ := lf A (A 17 8)) (c := trC (A 17)) (tR_up (by decide) hk) h1 h17 (a60_up (by decide) h60) h32 (cdOf_lt (hst 0 (by decide)) (hst 1 (by decide)) (hst 2 (by decide)) (hst 3 (by decide))) (fun w hw => by
      show mayF A (A 17 8) (I 17) w = _
      unfold mayF; rw [if_pos hw])
    simp only [slF_up (show 17 ≤ 22 by decide), up_up] at cs
    generalize hq : slF A (trC (A 17)) (I 17) 21 0 (lf A (A 17 8)) 0 = q at cs
    have hql : ∀ m, q.1 = some m → m < 21 := fun m hm => by rw [← hq] at hm; exact slF_le A _ _ 21 0 _ _ m hm
    refine x_aload_n dX8_solved_12 rfl ?_
    refine x_aload_n dX8_solved_13 rfl ?_
    refine x_getf dX8_solved_14 flX8_58 mH_a rfl ?_
    refine x_bipush (v := nI 8) dX8_solved_17 (by decide) ?_
    refine m_iald dX8_solved_19 rfl (by simp only [mLen]; omega) (by decide) ?_
    refine x_cVI1 dX8_solved_20 lkX8_221 mdX8_layLeft isX8_layLeft rfl rfl mH_a (by decide) (c_layLeft hk hs (Nat.le_refl _) h17) (Nat.le_of_ble_eq_true rfl) ⟨Nat.le_refl _, Nat.le_refl _⟩ ?_
    rintro v h' ⟨rfl, rfl⟩
    refine x_pop dX8_solved_23 rfl ?_
    refine x_aload_n dX8_solved_24 rfl ?_
    refine x_aload_n dX8_solved_25 rfl ?_
    refine x_cVi0 dX8_solved_26 lkX8_215 mdX8_truth isX8_truth rfl rfl mH_a (by decide) (ctr) (Nat.le_of_ble_eq_true rfl) ⟨Nat.le_refl _, Nat.le_refl _⟩ ?_
    refine x_cVI1 dX8_solved_29 lkX8_261 mdX8_solve isX8_solve rfl rfl mH_a (by decide) (cs) (Nat.le_of_ble_eq_true rfl) ⟨Nat.le_refl _, Nat.le_refl _⟩ ?_
    rintro v h' ⟨rfl, e, f, g, rfl⟩
    refine x_is2 dX8_solved_32 (by decide) rfl ?_
    refine x_iload_n dX8_solved_33 rfl ?_
    obtain ⟨q1, q2⟩ := q
    cases q1 with
    | none =>
      refine x_if_lt (tgt := 41) dX8_solved_34 (by decide) (fun c2 => ?_) (fun c2 => absurd (show (-4 : Int32) < 0 by decide) c2)
      refine x_iload_n dX8_solved_41 rfl ?_
      refine x_goto (tgt := 49) dX8_solved_42 (by decide) ?_
      refine x_iret dX8_solved_49 rfl rfl ⟨Nat.le_refl _, Nat.le_refl _⟩ ?_
      exact ⟨_, rfl, ⟨rfl, _, _, _, _, rfl⟩, rfl⟩
    | some m =>
      have hm := hql m rfl
      refine x_if_lt (tgt := 41) dX8_solved_34 (by decide) (fun c2 => absurd c2 (nI_pos (by omega))) (fun c2 => ?_)
      refine x_iload_n dX8_solved_37 rfl ?_
      refine x_if_ne (tgt := 45) dX8_solved_38 (by decide) (fun c3 => ?_) (fun c3 => ?_)
      · refine x_aload_n dX8_solved_45 rfl ?_
        refine x_getf (v := .int (nI q2)) dX8_solved_46 flX8_258 mH_a rfl ?_
        refine x_iret dX8_solved_49 rfl rfl ⟨Nat.le_refl _, Nat.le_refl _⟩ ?_
        exact ⟨_, rfl, ⟨by unfold sSol; dsimp only; rw [if_neg c3], _, _, _, _, rfl⟩, rfl⟩
      · refine x_iload_n dX8_solved_41 rfl ?_
        refine x_goto (tgt := 49) dX8_solved_42 (by decide) ?_
        refine x_iret dX8_solved_49 rfl rfl ⟨Nat.le_refl _, Nat.le_refl _⟩ ?_
        exact ⟨_, rfl, ⟨by unfold sSol; dsimp only; rw [if_pos c3]; rfl, _, _, _, _, rfl⟩, rfl⟩
  · have c1 : bR x 2 = false := c1
    refine x_iconst (v := -1) dX8_solved_10 (by decide) ?_
    refine x_iret dX8_solved_11 rfl rfl ⟨Nat.le_refl _, Nat.le_refl _⟩ ?_
    exact ⟨_, rfl, ⟨by unfold fSolved; rw [c1]; rfl, _, _, _, _, self⟩, rfl⟩
/-- the false weight that misleads most, of 0 .. f, and how many it leaves -/
def msN (A : Nat → Nat → Nat) (p N f : Nat) : Nat := cntV A (lf A (A 17 8)) p 0 (ansF A p 0 (A 17 p) f) N
def msF (A : Nat → Nat → Nat) (p N : Nat) : Nat → Nat × Nat
  | 0 => (0, msN A p N 0)
  | f + 1 => if (msF A p N f).2 < msN A p N (f + 1) then (f + 1, msN A p N (f + 1)) else msF A p N f
theorem msF_le (A : Nat → Nat → Nat) (p N : Nat) : ∀ f, (msF A p N f).1 ≤ f ∧ (msF A p N f).2 ≤ N
  | 0 => ⟨Nat.le_refl _, cntV_le _ _ _ _ _ _⟩
  | f + 1 => by
    have h1 := msF_le A p N f
    have h2 : msN A p N (f + 1) ≤ N := cntV_le _ _ _ _ _ _
    unfold msF
    split
    · exact ⟨Nat.le_refl _, h2⟩
    · exact ⟨by omega, h1.2⟩
def msB (A : Nat → Nat → Nat) (p N : Nat) : Nat → Int32
  | 0 => nI 0
  | f + 1 => nI (msF A p N f).1
def msM (A : Nat → Nat → Nat) (p N : Nat) : Nat → Int32
  | 0 => -4
  | f + 1 => nI (msF A p N f).2
def fMisled (I : Nat → Nat) (A : Nat → Nat → Nat) (p what : Int32) : Int32 := if bR p (A 7 0) && bR what 2 then (if what = 0 then nI (msF A p.toNatClampNeg (I 17) 9).1 else nI (msF A p.toNatClampNeg (I 17) 9).2) else -1
set_option maxRecDepth 100000 in
theorem c_misledM {x y : Int32} (hk : tR A) (h1 : 1 ≤ A 7 0) (hs : sOK A (A 17)) (h17 : I 17 ≤ 5040) (hst : ∀ p, p < 4 → A 17 p < 256) : zPi G MX8_misled 5 [.ref a, .int x, .int y] (mH h0 a I A B) n (fun v h' => v = fMisled I A x y ∧ ∃ f, h' = mH h0 a I (va_up A 22 f) B) := by
  refine zCt.of rfl (Nat.le_of_ble_eq_true rfl) rfl ?_
  have k7 := hk.2.1
  have self : mH h0 a I A B = mH h0 a I (va_up A 22 (A 22)) B := by rw [up_self]
  refine x_aload_n dX8_misled_0 rfl ?_
  refine x_iload_n dX8_misled_1 rfl ?_
  refine x_cVi1 dX8_misled_2 lkX8_189 mdX8_isParcel isX8_isParcel rfl rfl mH_a (by decide) (c_isParcel h1 k7) (Nat.le_of_ble_eq_true rfl) ⟨Nat.le_refl _, Nat.le_refl _⟩ ?_
  refine b_if_eq (tgt := 18) dX8_misled_5 (by decide) (fun c1 => ?_) (fun c1 => ?_)
  · refine x_iconst (v := -1) dX8_misled_18 (by decide) ?_
    refine x_iret dX8_misled_19 rfl rfl ⟨Nat.le_refl _, Nat.le_refl _⟩ ?_
    exact ⟨_, rfl, ⟨by unfold fMisled; rw [c1]; rfl, _, self⟩, rfl⟩
  · refine x_iload_n dX8_misled_8 rfl ?_
    refine x_i2l dX8_misled_9 rfl ?_
    refine x_lconst (v := lN 0) dX8_misled_10 (by decide) ?_
    refine x_lconst (v := lN 1) dX8_misled_11 (by decide) ?_
    refine x_cSi3 dX8_misled_12 lkX8_109 mdX8_in stX8_in (by decide) (c_inR y (by decide)) (Nat.le_of_ble_eq_true rfl) ⟨Nat.le_refl _, Nat.le_refl _⟩ ?_
    refine b_if_ne (tgt := 20) dX8_misled_15 (by decide) (fun c2 => ?_) (fun c2 => ?_)
    · have c2 : bR y 2 = true := c2
      obtain ⟨p, hp, rfl⟩ := inR_of (bR_true.mp c1) (by omega)
      have hF : fMisled I A (nI p) y = if y = 0 then nI (msF A p (I 17) 9).1 else nI (msF A p (I 17) 9).2 := by
        unfold fMisled; rw [c1, c2, nI_clamp (by omega)]; rfl
      rw [hF]
      have em : ∀ w, w < I 17 → (va_up A 22 (mayF A (A 17 8) (I 17))) 22 w = (lf A (A 17 8) w).toNat := fun w hw => by
        show mayF A (A 17 8) (I 17) w = _
        unfold mayF; rw [if_pos hw]
      have ca : ∀ s f, s < 256 → f < 100 → zI G MX8_answerOf 2 [.ref a, .int (nI p), .int (nI 0), .int (nI s), .int (nI f)] (mH h0 a I (va_up A 22 (mayF A (A 17 8) (I 17))) B) n (nI (ansF A p 0 s f)) := by
        intro s f hs hf
        have := c_answerOf (G := G) (n := n) (h0 := h0) (a := a) (I := I) (B := B) (A := va_up A 22 (mayF A (A 17 8) (I 17))) (p := p) (sort := 0) (s := s) (f := f) (tR_up (by decide) hk) hp (by decide) hs hf
        rwa [ansF_up (by decide)] at this
      refine x_aload_n dX8_misled_20 rfl ?_
      refine x_aload_n dX8_misled_21 rfl ?_
      refine x_getf dX8_misled_22 flX8_58 mH_a rfl ?_
      refine x_bipush (v := nI 8) dX8_misled_25 (by decide) ?_
      refine m_iald dX8_misled_27 rfl (by simp only [mLen]; omega) (by decide) ?_
      refine x_cVI1 dX8_misled_28 lkX8_221 mdX8_layLeft isX8_layLeft rfl rfl mH_a (by decide) (c_layLeft hk hs (Nat.le_refl _) h17) (Nat.le_of_ble_eq_true rfl) ⟨Nat.le_refl _, Nat.le_refl _⟩ ?_
      rintro v h' ⟨rfl, rfl⟩
      generalize hA2 : va_up A 22 (mayF A (A 17 8) (I 17)) = A2 at em ca
      have e16 : ∀ w, A2 16 w = A 16 w := fun w => by rw [← hA2]; rfl
      have e17 : ∀ w, A2 17 w = A 17 w := fun w => by rw [← hA2]; rfl
      refine x_pop dX8_misled_31 rfl ?_
      refine x_iconst (v := nI 0) dX8_misled_32 (by decide) ?_
      refine x_is3 dX8_misled_33 (by decide) rfl ?_
      refine x_bipush (v := -4) dX8_misled_34 (by decide) ?_
      refine x_is4 dX8_misled_36 (by decide) rfl ?_
      refine x_iconst (v := nI 0) dX8_misled_38 (by decide) ?_
      refine x_is5 dX8_misled_39 (by decide) rfl ?_
      have key : ∀ f, f ≤ 10 → ∀ o6 o7 o8, zEx G MX8_misled 5 0 0 41 [some (.ref a), some (.int (nI p)), some (.int y), some (.int (msB A p (I 17) f)), some (.int (msM A p (I 17) f)), some (.int (nI f)), o6, o7, o8] [] (mH h0 a I A2 B) n (0, 0) (fun r h' n' => ∃ v, r = some (.int v) ∧ (v = (if y = 0 then nI (msF A p (I 17) 9).1 else nI (msF A p (I 17) 9).2) ∧ ∃ f, h' = mH h0 a I (va_up A 22 f) B) ∧ n' = n) := by
        refine z_up 10 ?_
        intro f hf ih o6 o7 o8
        refine x_iload dX8_misled_41 rfl ?_
        refine x_bipush (v := nI 10) dX8_misled_43 (by decide) ?_
        refine n_icmp_ge (tgt := 164) dX8_misled_45 (by decide) (by omega) (by omega) (fun hc => ?_) (fun hc => ?_)
        · have hf10 : f = 10 := by omega
          subst hf10
          refine x_iload_n dX8_misled_164 rfl ?_
          refine x_if_ne (tgt := 172) dX8_misled_165 (by decide) (fun c3 => ?_) (fun c3 => ?_)
          · refine x_iload (x := nI (msF A p (I 17) 9).2) dX8_misled_172 rfl ?_
            refine x_iret dX8_misled_174 rfl rfl ⟨Nat.le_refl _, Nat.le_refl _⟩ ?_
            exact ⟨_, rfl, ⟨by rw [if_neg c3], _, by rw [← hA2]⟩, rfl⟩
          · refine x_iload_n (x := nI (msF A p (I 17) 9).1) dX8_misled_168 rfl ?_
            refine x_goto (tgt := 174) dX8_misled_169 (by decide) ?_
            refine x_iret dX8_misled_174 rfl rfl ⟨Nat.le_refl _, Nat.le_refl _⟩ ?_
            exact ⟨_, rfl, ⟨by rw [if_pos c3], _, by rw [← hA2]⟩, rfl⟩
        · have hs256 := hst p (by omega)
          have hav := ansF_lt (sort := 0) (f := f) hk hp hs256 (by omega)
          refine x_aload_n dX8_misled_48 rfl ?_
          refine x_iload_n dX8_misled_49 rfl ?_
          refine x_iconst (v := nI 0) dX8_misled_50 (by decide) ?_
          refine x_aload_n dX8_misled_51 rfl ?_
          refine x_getf dX8_misled_52 flX8_58 mH_a rfl ?_
          refine x_iload_n dX8_misled_55 rfl ?_
          refine m_iald dX8_misled_56 rfl (by simp only [mLen]; omega) (by decide) ?_
          rw [e17]
          refine x_iload dX8_misled_57 rfl ?_
          refine x_cVi4 dX8_misled_59 lkX8_203 mdX8_answerOf isX8_answerOf rfl rfl mH_a (by decide) (ca _ _ hs256 (by omega)) (Nat.le_of_ble_eq_true rfl) ⟨Nat.le_refl _, Nat.le_refl _⟩ ?_
          refine x_is6 dX8_misled_62 (by decide) rfl ?_
          refine x_iconst (v := nI 0) dX8_misled_64 (by decide) ?_
          refine x_is7 dX8_misled_65 (by decide) rfl ?_
          refine x_iconst (v := nI 0) dX8_misled_67 (by decide) ?_
          refine x_is8 dX8_misled_68 (by decide) rfl ?_
          have inner : ∀ w, w ≤ I 17 → zEx G MX8_misled 5 0 0 70 [some (.ref a), some (.int (nI p)), some (.int y), some (.int (msB A p (I 17) f)), some (.int (msM A p (I 17) f)), some (.int (nI f)), some (.int (nI (ansF A p 0 (A 17 p) f))), some (.int (nI (cntV A (lf A (A 17 8)) p 0 (ansF A p 0 (A 17 p) f) w))), some (.int (nI w))] [] (mH h0 a I A2 B) n (0, 0) (fun r h' n' => ∃ v, r = some (.int v) ∧ (v = (if y = 0 then nI (msF A p (I 17) 9).1 else nI (msF A p (I 17) 9).2) ∧ ∃ f, h' = mH h0 a I (va_up A 22 f) B) ∧ n' = n) := by
            refine z_up (I 17) ?_
            intro w hw ihw
            refine x_iload dX8_misled_70 rfl ?_
            refine x_aload_n dX8_misled_72 rfl ?_
            refine x_getf dX8_misled_73 flX8_172 mH_a rfl ?_
            refine n_icmp_ge (tgt := 128) dX8_misled_76 (by decide) (by omega) (by omega) (fun hc2 => ?_) (fun hc2 => ?_)
            · have hwe : w = I 17 := by omega
              subst hwe
              have hn : cntV A (lf A (A 17 8)) p 0 (ansF A p 0 (A 17 p) f) (I 17) = msN A p (I 17) f := rfl
              have hnl : msN A p (I 17) f ≤ I 17 := cntV_le _ _ _ _ _ _
              rw [hn]
              have ih9 := ih (by omega) (some (.int (nI (ansF A p 0 (A 17 p) f)))) (some (.int (nI (msN A p (I 17) f)))) (some (.int (nI (I 17))))
              cases f with
              | zero =>
                refine x_iload dX8_misled_128 rfl ?_
                refine x_iload dX8_misled_130 rfl ?_
                refine x_icmp_le (tgt := 140) dX8_misled_132 (by decide) (fun c => absurd c ?_) (fun c => ?_)
                · intro q
                  rw [fa_le, nI_toInt (by omega)] at q
                  have : (-4 : Int32).toInt = -4 := by decide
                  have q : ((msN A p (I 17) 0 : Nat) : Int) ≤ (-4 : Int32).toInt := q
                  omega
                · refine x_iload dX8_misled_135 rfl ?_
                  refine x_goto (tgt := 141) dX8_misled_137 (by decide) ?_
                  refine x_is3 dX8_misled_141 (by decide) rfl ?_
                  refine x_iload dX8_misled_142 rfl ?_
                  refine x_iload dX8_misled_144 rfl ?_
                  refine x_icmp_le (tgt := 154) dX8_misled_146 (by decide) (fun c2 => absurd c2 c) (fun c2 => ?_)
                  refine x_iload dX8_misled_149 rfl ?_
                  refine x_goto (tgt := 156) dX8_misled_151 (by decide) ?_
                  refine x_is4 dX8_misled_156 (by decide) rfl ?_
                  refine n_ii5 (w := 1) dX8_misled_158 (by decide) (by decide) rfl ?_
                  refine x_goto (tgt := 41) dX8_misled_161 (by decide) ?_
                  exact ih9
              | succ f =>
                have hml := msF_le A p (I 17) f
                have eF : msF A p (I 17) (f + 1) = if (msF A p (I 17) f).2 < msN A p (I 17) (f + 1) then (f + 1, msN A p (I 17) (f + 1)) else msF A p (I 17) f := rfl
                simp only [msB, msM, eF] at ih9
                refine x_iload dX8_misled_128 rfl ?_
                refine x_iload (x := nI (msF A p (I 17) f).2) dX8_misled_130 rfl ?_
                refine n_icmp_le (tgt := 140) dX8_misled_132 (by decide) (by omega) (by omega) (fun c => ?_) (fun c => ?_)
                · refine x_iload_n (x := nI (msF A p (I 17) f).1) dX8_misled_140 rfl ?_
                  refine x_is3 dX8_misled_141 (by decide) rfl ?_
                  refine x_iload dX8_misled_142 rfl ?_
                  refine x_iload (x := nI (msF A p (I 17) f).2) dX8_misled_144 rfl ?_
                  refine n_icmp_le (tgt := 154) dX8_misled_146 (by decide) (by omega) (by omega) (fun c2 => ?_) (fun c2 => ?_)
                  · refine x_iload (x := nI (msF A p (I 17) f).2) dX8_misled_154 rfl ?_
                    refine x_is4 dX8_misled_156 (by decide) rfl ?_
                    refine n_ii5 (w := 1) dX8_misled_158 (by decide) (by decide) rfl ?_
                    refine x_goto (tgt := 41) dX8_misled_161 (by decide) ?_
                    rw [if_neg (by omega)] at ih9
                    exact ih9
                  · exact absurd c c2
                · refine x_iload dX8_misled_135 rfl ?_
                  refine x_goto (tgt := 141) dX8_misled_137 (by decide) ?_
                  refine x_is3 dX8_misled_141 (by decide) rfl ?_
                  refine x_iload dX8_misled_142 rfl ?_
                  refine x_iload (x := nI (msF A p (I 17) f).2) dX8_misled_144 rfl ?_
                  refine n_icmp_le (tgt := 154) dX8_misled_146 (by decide) (by omega) (by omega) (fun c2 => ?_) (fun c2 => ?_)
                  · exact absurd c2 c
                  · refine x_iload dX8_misled_149 rfl ?_
                    refine x_goto (tgt := 156) dX8_misled_151 (by decide) ?_
                    refine x_is4 dX8_misled_156 (by decide) rfl ?_
                    refine n_ii5 (w := 1) dX8_misled_158 (by decide) (by decide) rfl ?_
                    refine x_goto (tgt := 41) dX8_misled_161 (by decide) ?_
                    rw [if_pos (by omega)] at ih9
                    exact ih9
            · have hwl : w < I 17 := by omega
              have ih9 := ihw hwl
              have ec : cntV A (lf A (A 17 8)) p 0 (ansF A p 0 (A 17 p) f) (w + 1) = cntV A (lf A (A 17 8)) p 0 (ansF A p 0 (A 17 p) f) w + (if lf A (A 17 8) w && av A p 0 w == ansF A p 0 (A 17 p) f then 1 else 0) := rfl
              rw [ec] at ih9
              have ha2 := ansF_lt (sort := 0) (f := 0) hk hp (sI_lt (A 16 w) p) (by decide)
              refine x_iload dX8_misled_79 rfl ?_
              refine x_aload_n dX8_misled_81 rfl ?_
              refine x_getf dX8_misled_82 flX8_73 mH_a rfl ?_
              refine x_iload dX8_misled_85 rfl ?_
              refine m_zald dX8_misled_87 rfl (by simp only [mLen]; omega) (by decide) ?_
              rw [em w hwl]
              refine b_if_eq (tgt := 118) dX8_misled_88 (by decide) (fun c3 => ?_) (fun c3 => ?_)
              · refine x_iconst (v := nI 0) dX8_misled_118 (by decide) ?_
                refine n_iadd dX8_misled_119 ?_
                refine x_is7 dX8_misled_120 (by decide) rfl ?_
                refine n_ii8 (w := 1) dX8_misled_122 (by decide) (by decide) rfl ?_
                refine x_goto (tgt := 70) dX8_misled_125 (by decide) ?_
                rw [c3] at ih9
                exact ih9
              · refine x_aload_n dX8_misled_91 rfl ?_
                refine x_iload_n dX8_misled_92 rfl ?_
                refine x_iconst (v := nI 0) dX8_misled_93 (by decide) ?_
                refine x_aload_n dX8_misled_94 rfl ?_
                refine x_getf dX8_misled_95 flX8_55 mH_a rfl ?_
                refine x_iload dX8_misled_98 rfl ?_
                refine m_iald dX8_misled_100 rfl (by simp only [mLen]; omega) (by decide) ?_
                rw [e16]
                refine x_iload_n dX8_misled_101 rfl ?_
                refine x_cSi2 dX8_misled_102 lkX8_192 mdX8_setIn stX8_setIn (by decide) (c_setIn _ (by omega)) (Nat.le_of_ble_eq_true rfl) ⟨Nat.le_refl _, Nat.le_refl _⟩ ?_
                refine x_iconst (v := nI 0) dX8_misled_105 (by decide) ?_
                refine x_cVi4 dX8_misled_106 lkX8_203 mdX8_answerOf isX8_answerOf rfl rfl mH_a (by decide) (ca _ _ (sI_lt _ _) (by decide)) (Nat.le_of_ble_eq_true rfl) ⟨Nat.le_refl _, Nat.le_refl _⟩ ?_
                refine x_iload dX8_misled_109 rfl ?_
                refine n_icmp_ne (x := av A p 0 w) (tgt := 118) dX8_misled_111 (by decide) (show ansF A p 0 (sI (A 16 w) p) 0 < 2 ^ 31 by omega) (by omega) (fun c4 => ?_) (fun c4 => ?_)
                · refine x_iconst (v := nI 0) dX8_misled_118 (by decide) ?_
                  refine n_iadd dX8_misled_119 ?_
                  refine x_is7 dX8_misled_120 (by decide) rfl ?_
                  refine n_ii8 (w := 1) dX8_misled_122 (by decide) (by decide) rfl ?_
                  refine x_goto (tgt := 70) dX8_misled_125 (by decide) ?_
                  rw [c3, beq_eq_false_iff_ne.mpr c4] at ih9
                  exact ih9
                · refine x_iconst (v := nI 1) dX8_misled_114 (by decide) ?_
                  refine x_goto (tgt := 119) dX8_misled_115 (by decide) ?_
                  refine n_iadd dX8_misled_119 ?_
                  refine x_is7 dX8_misled_120 (by decide) rfl ?_
                  refine n_ii8 (w := 1) dX8_misled_122 (by decide) (by decide) rfl ?_
                  refine x_goto (tgt := 70) dX8_misled_125 (by decide) ?_
                  rw [c3, c4, beq_self_eq_true] at ih9
                  exact ih9
          exact inner 0 (Nat.zero_le _)
      exact key 0 (Nat.zero_le _) _ _ _
    · have c2 : bR y 2 = false := c2
      refine x_iconst (v := -1) dX8_misled_18 (by decide) ?_
      refine x_iret dX8_misled_19 rfl rfl ⟨Nat.le_refl _, Nat.le_refl _⟩ ?_
      exact ⟨_, rfl, ⟨by unfold fMisled; rw [c1, c2]; rfl, _, self⟩, rfl⟩
/-- who gets more in a world: 0 child 0, 1 as much, 2 child 1 -/
def clsW (T : zT) (c : Nat) : Nat := if wC T c 1 (T 7 0) < wC T c 0 (T 7 0) then 0 else if wC T c 0 (T 7 0) = wC T c 1 (T 7 0) then 1 else 2
def mrF (A : Nat → Nat → Nat) (x : Nat) : Nat → Nat := zsum 0 (fun w => if lf A (A 17 8) w && clsW (vw A 0) (A 16 w) == x then 1 else 0)
def fMore (I : Nat → Nat) (A : Nat → Nat → Nat) (what : Int32) : Int32 := if bR what 3 then nI (mrF A what.toNatClampNeg (I 17)) else -1
set_option maxRecDepth 100000 in
theorem c_moreM {x : Int32} (hk : tR A) (hs : sOK A (A 17)) (h17 : I 17 ≤ 5040) : zPi G MX8_more 5 [.ref a, .int x] (mH h0 a I A B) n (fun v h' => v = fMore I A x ∧ ∃ f, h' = mH h0 a I (va_up A 22 f) B) := by
  refine zCt.of rfl (Nat.le_of_ble_eq_true rfl) rfl ?_
  obtain ⟨k2, k7, k3, k4, k5, k6, k8⟩ := id hk
  have self : mH h0 a I A B = mH h0 a I (va_up A 22 (A 22)) B := by rw [up_self]
  have e5 : ∀ t, vw A 0 5 t = A 5 t := fun t => by show A 5 (8 * 0 + t) = _; rw [Nat.mul_zero, Nat.zero_add]
  have e9 : ∀ t, vw A 0 9 t = A 9 t := fun t => by show A 9 (4 * 0 + t) = _; rw [Nat.mul_zero, Nat.zero_add]
  refine x_iload_n dX8_more_0 rfl ?_
  refine x_i2l dX8_more_1 rfl ?_
  refine x_lconst (v := lN 0) dX8_more_2 (by decide) ?_
  refine x_ldc2 (v := lN 2) dX8_more_3 coX8_128 ?_
  refine x_cSi3 dX8_more_6 lkX8_109 mdX8_in stX8_in (by decide) (c_inR x (by decide)) (Nat.le_of_ble_eq_true rfl) ⟨Nat.le_refl _, Nat.le_refl _⟩ ?_
  refine b_if_ne (tgt := 14) dX8_more_9 (by decide) (fun c1 => ?_) (fun c1 => ?_)
  · have c1 : bR x 3 = true := c1
    obtain ⟨y, hy, rfl⟩ := inR_of (bR_true.mp c1) (by decide)
    have hF : fMore I A (nI y) = nI (mrF A y (I 17)) := by unfold fMore; rw [if_pos c1, nI_clamp (by omega)]
    rw [hF]
    have em : ∀ w, w < I 17 → (va_up A 22 (mayF A (A 17 8) (I 17))) 22 w = (lf A (A 17 8) w).toNat := fun w hw => by
      show mayF A (A 17 8) (I 17) w = _
      unfold mayF; rw [if_pos hw]
    have cg : ∀ w, zI G MX8_gap 1 [.ref a, .int (nI 0), .int (nI w)] (mH h0 a I (va_up A 22 (mayF A (A 17 8) (I 17))) B) n (nI (wC (vw A 0) w 0 (vw A 0 7 0)) - nI (wC (vw A 0) w 1 (vw A 0 7 0))) := by
      intro w
      have := c_gap (G := G) (n := n) (h0 := h0) (a := a) (I := I) (B := B) (A := va_up A 22 (mayF A (A 17 8) (I 17))) (b := 0) (w := w) (by decide) (by rw [vw_up 0 (by decide)]; exact k2) (by rw [vw_up 0 (by decide)]; exact k7) (by rw [vw_up 0 (by decide)]; exact fun p hp => by rw [e9]; exact (k4 p hp).2.1)
      rwa [vw_up 0 (by decide)] at this
    refine x_aload_n dX8_more_14 rfl ?_
    refine x_aload_n dX8_more_15 rfl ?_
    refine x_getf dX8_more_16 flX8_58 mH_a rfl ?_
    refine x_bipush (v := nI 8) dX8_more_19 (by decide) ?_
    refine m_iald dX8_more_21 rfl (by simp only [mLen]; omega) (by decide) ?_
    refine x_cVI1 dX8_more_22 lkX8_221 mdX8_layLeft isX8_layLeft rfl rfl mH_a (by decide) (c_layLeft hk hs (Nat.le_refl _) h17) (Nat.le_of_ble_eq_true rfl) ⟨Nat.le_refl _, Nat.le_refl _⟩ ?_
    rintro v h' ⟨rfl, rfl⟩
    generalize hA2 : va_up A 22 (mayF A (A 17 8) (I 17)) = A2 at em cg
    have e16 : ∀ w, A2 16 w = A 16 w := fun w => by rw [← hA2]; rfl
    refine x_pop dX8_more_25 rfl ?_
    refine x_iconst (v := nI 0) dX8_more_26 (by decide) ?_
    refine x_is2 dX8_more_27 (by decide) rfl ?_
    refine x_iconst (v := nI 0) dX8_more_28 (by decide) ?_
    refine x_is3 dX8_more_29 (by decide) rfl ?_
    have key : ∀ w, w ≤ I 17 → ∀ o4, zEx G MX8_more 5 0 0 30 [some (.ref a), some (.int (nI y)), some (.int (nI (mrF A y w))), some (.int (nI w)), o4] [] (mH h0 a I A2 B) n (0, 0) (fun r h' n' => ∃ v, r = some (.int v) ∧ (v = nI (mrF A y (I 17)) ∧ ∃ f, h' = mH h0 a I (va_up A 22 f) B) ∧ n' = n) := by
      refine z_up (I 17) ?_
      intro w hw ih o4
      refine x_iload_n dX8_more_30 rfl ?_
      refine x_aload_n dX8_more_31 rfl ?_
      refine x_getf dX8_more_32 flX8_172 mH_a rfl ?_
      refine n_icmp_ge (tgt := 97) dX8_more_35 (by decide) (by omega) (by omega) (fun hc => ?_) (fun hc => ?_)
      · refine x_iload_n dX8_more_97 rfl ?_
        refine x_iret dX8_more_98 rfl rfl ⟨Nat.le_refl _, Nat.le_refl _⟩ ?_
        exact ⟨_, rfl, ⟨by rw [show w = I 17 by omega], _, by rw [← hA2]⟩, rfl⟩
      · have hwl : w < I 17 := by omega
        have l0 := wC_le (T := vw A 0) (fun t ht => by rw [e5]; exact (k3 t ht).2.2.1) k2 k7 (A 16 w) 0
        have l1 := wC_le (T := vw A 0) (fun t ht => by rw [e5]; exact (k3 t ht).2.2.1) k2 k7 (A 16 w) 1
        have ih9 := ih hwl (some (.int (nI (wC (vw A 0) (A 16 w) 0 (vw A 0 7 0)) - nI (wC (vw A 0) (A 16 w) 1 (vw A 0 7 0)))))
        have ec : mrF A y (w + 1) = mrF A y w + (if lf A (A 17 8) w && clsW (vw A 0) (A 16 w) == y then 1 else 0) := rfl
        rw [ec] at ih9
        refine x_aload_n dX8_more_38 rfl ?_
        refine x_iconst (v := nI 0) dX8_more_39 (by decide) ?_
        refine x_aload_n dX8_more_40 rfl ?_
        refine x_getf dX8_more_41 flX8_55 mH_a rfl ?_
        refine x_iload_n dX8_more_44 rfl ?_
        refine m_iald dX8_more_45 rfl (by simp only [mLen]; omega) (by decide) ?_
        rw [e16]
        refine x_cVi2 dX8_more_46 lkX8_155 mdX8_gap isX8_gap rfl rfl mH_a (by decide) (cg _) (Nat.le_of_ble_eq_true rfl) ⟨Nat.le_refl _, Nat.le_refl _⟩ ?_
        refine x_is4 dX8_more_49 (by decide) rfl ?_
        refine x_iload_n dX8_more_51 rfl ?_
        refine x_aload_n dX8_more_52 rfl ?_
        refine x_getf dX8_more_53 flX8_73 mH_a rfl ?_
        refine x_iload_n dX8_more_56 rfl ?_
        refine m_zald dX8_more_57 rfl (by simp only [mLen]; omega) (by decide) ?_
        rw [em w hwl]
        refine b_if_eq (tgt := 88) dX8_more_58 (by decide) (fun c2 => ?_) (fun c2 => ?_)
        · refine x_iconst (v := nI 0) dX8_more_88 (by decide) ?_
          refine n_iadd dX8_more_89 ?_
          refine x_is2 dX8_more_90 (by decide) rfl ?_
          refine n_ii3 (w := 1) dX8_more_91 (by decide) (by decide) rfl ?_
          refine x_goto (tgt := 30) dX8_more_94 (by decide) ?_
          rw [c2] at ih9
          exact ih9
        · have K80 : ∀ z, z = clsW (vw A 0) (A 16 w) → z < 3 → zEx G MX8_more 5 0 0 80 [some (.ref a), some (.int (nI y)), some (.int (nI (mrF A y w))), some (.int (nI w)), some (.int (nI (wC (vw A 0) (A 16 w) 0 (vw A 0 7 0)) - nI (wC (vw A 0) (A 16 w) 1 (vw A 0 7 0))))] [.int (nI z), .int (nI (mrF A y w))] (mH h0 a I A2 B) n (0, 0) (fun r h' n' => ∃ v, r = some (.int v) ∧ (v = nI (mrF A y (I 17)) ∧ ∃ f, h' = mH h0 a I (va_up A 22 f) B) ∧ n' = n) := by
            intro z hz hz3
            rw [← hz, c2] at ih9
            refine x_iload_n dX8_more_80 rfl ?_
            refine n_icmp_ne (tgt := 88) dX8_more_81 (by decide) (by omega) (by omega) (fun c3 => ?_) (fun c3 => ?_)
            · refine x_iconst (v := nI 0) dX8_more_88 (by decide) ?_
              refine n_iadd dX8_more_89 ?_
              refine x_is2 dX8_more_90 (by decide) rfl ?_
              refine n_ii3 (w := 1) dX8_more_91 (by decide) (by decide) rfl ?_
              refine x_goto (tgt := 30) dX8_more_94 (by decide) ?_
              rw [beq_eq_false_iff_ne.mpr c3] at ih9
              exact ih9
            · refine x_iconst (v := nI 1) dX8_more_84 (by decide) ?_
              refine x_goto (tgt := 89) dX8_more_85 (by decide) ?_
              refine n_iadd dX8_more_89 ?_
              refine x_is2 dX8_more_90 (by decide) rfl ?_
              refine n_ii3 (w := 1) dX8_more_91 (by decide) (by decide) rfl ?_
              refine x_goto (tgt := 30) dX8_more_94 (by decide) ?_
              rw [c3, beq_self_eq_true] at ih9
              exact ih9
          have hpk := pk_sub_toInt (a := wC (vw A 0) (A 16 w) 0 (vw A 0 7 0)) (b := wC (vw A 0) (A 16 w) 1 (vw A 0 7 0)) (by omega) (by omega)
          refine x_iload dX8_more_61 rfl ?_
          refine x_if_le (tgt := 70) dX8_more_63 (by decide) (fun c3 => ?_) (fun c3 => ?_)
          · rw [fa_le, hpk, Int32.toInt_zero] at c3
            refine x_iload dX8_more_70 rfl ?_
            refine x_if_ne (tgt := 79) dX8_more_72 (by decide) (fun c4 => ?_) (fun c4 => ?_)
            · rw [fa_eq, hpk, Int32.toInt_zero] at c4
              refine x_iconst (v := nI 2) dX8_more_79 (by decide) ?_
              exact K80 2 (by unfold clsW; rw [if_neg (by omega), if_neg (by omega)]) (by decide)
            · rw [fa_eq, hpk, Int32.toInt_zero] at c4
              refine x_iconst (v := nI 1) dX8_more_75 (by decide) ?_
              refine x_goto (tgt := 80) dX8_more_76 (by decide) ?_
              exact K80 1 (by unfold clsW; rw [if_neg (by omega), if_pos (by omega)]) (by decide)
          · rw [fa_le, hpk, Int32.toInt_zero] at c3
            refine x_iconst (v := nI 0) dX8_more_66 (by decide) ?_
            refine x_goto (tgt := 80) dX8_more_67 (by decide) ?_
            exact K80 0 (by unfold clsW; rw [if_pos (by omega)]) (by decide)
    exact key 0 (Nat.zero_le _) _
  · have c1 : bR x 3 = false := c1
    refine x_iconst (v := -1) dX8_more_12 (by decide) ?_
    refine x_iret dX8_more_13 rfl rfl ⟨Nat.le_refl _, Nat.le_refl _⟩ ?_
    exact ⟨_, rfl, ⟨by unfold fMore; rw [c1]; rfl, _, self⟩, rfl⟩
def hvF (A : Nat → Nat → Nat) (p q : Nat) : Nat → Nat := zsum 0 (fun w => if lf A (A 17 8) w && decide (wOf A q (sI (A 16 w) q) < wOf A p (sI (A 16 w) p)) then 1 else 0)
def fHeavier (I : Nat → Nat) (A : Nat → Nat → Nat) (p q : Int32) : Int32 := if bR p (A 7 0) = false ∨ bR q (A 7 0) = false ∨ p = q then -1 else nI (hvF A p.toNatClampNeg q.toNatClampNeg (I 17))
theorem c_heavierM {x y : Int32} (hk : tR A) (h1 : 1 ≤ A 7 0) (hs : sOK A (A 17)) (h17 : I 17 ≤ 5040) : zPi G MX8_heavier 5 [.ref a, .int x, .int y] (mH h0 a I A B) n (fun v h' => v = fHeavier I A x y ∧ ∃ f, h' = mH h0 a I (va_up A 22 f) B) := by
  refine zCt.of rfl (Nat.le_of_ble_eq_true rfl) rfl ?_
  obtain ⟨k2, k7, k3, k4, k5, k6, k8⟩ := id hk
  have self : mH h0 a I A B = mH h0 a I (va_up A 22 (A 22)) B := by rw [up_self]
  refine x_aload_n dX8_heavier_0 rfl ?_
  refine x_iload_n dX8_heavier_1 rfl ?_
  refine x_cVi1 dX8_heavier_2 lkX8_189 mdX8_isParcel isX8_isParcel rfl rfl mH_a (by decide) (c_isParcel h1 k7) (Nat.le_of_ble_eq_true rfl) ⟨Nat.le_refl _, Nat.le_refl _⟩ ?_
  refine b_if_eq (tgt := 21) dX8_heavier_5 (by decide) (fun c1 => ?_) (fun c1 => ?_)
  · refine x_iconst (v := -1) dX8_heavier_21 (by decide) ?_
    refine x_iret dX8_heavier_22 rfl rfl ⟨Nat.le_refl _, Nat.le_refl _⟩ ?_
    exact ⟨_, rfl, ⟨by unfold fHeavier; rw [if_pos (Or.inl c1)], _, self⟩, rfl⟩
  · refine x_aload_n dX8_heavier_8 rfl ?_
    refine x_iload_n dX8_heavier_9 rfl ?_
    refine x_cVi1 dX8_heavier_10 lkX8_189 mdX8_isParcel isX8_isParcel rfl rfl mH_a (by decide) (c_isParcel h1 k7) (Nat.le_of_ble_eq_true rfl) ⟨Nat.le_refl _, Nat.le_refl _⟩ ?_
    refine b_if_eq (tgt := 21) dX8_heavier_13 (by decide) (fun c2 => ?_) (fun c2 => ?_)
    · refine x_iconst (v := -1) dX8_heavier_21 (by decide) ?_
      refine x_iret dX8_heavier_22 rfl rfl ⟨Nat.le_refl _, Nat.le_refl _⟩ ?_
      exact ⟨_, rfl, ⟨by unfold fHeavier; rw [if_pos (Or.inr (Or.inl c2))], _, self⟩, rfl⟩
    · refine x_iload_n dX8_heavier_16 rfl ?_
      refine x_iload_n dX8_heavier_17 rfl ?_
      refine x_icmp_ne (tgt := 23) dX8_heavier_18 (by decide) (fun c3 => ?_) (fun c3 => ?_)
      · have hF : fHeavier I A x y = nI (hvF A x.toNatClampNeg y.toNatClampNeg (I 17)) := by
          unfold fHeavier; rw [if_neg (by rw [c1, c2]; simp [c3])]
        rw [hF]
        obtain ⟨p, hp, rfl⟩ := inR_of (bR_true.mp c1) (by omega)
        obtain ⟨q, hq, rfl⟩ := inR_of (bR_true.mp c2) (by omega)
        rw [nI_clamp (by omega), nI_clamp (by omega)]
        have em : ∀ w, w < I 17 → (va_up A 22 (mayF A (A 17 8) (I 17))) 22 w = (lf A (A 17 8) w).toNat := fun w hw => by
          show mayF A (A 17 8) (I 17) w = _
          unfold mayF; rw [if_pos hw]
        have cw : ∀ p s, p < 8 → zI G MX8_weightOf 1 [.ref a, .int (nI p), .int (nI s)] (mH h0 a I (va_up A 22 (mayF A (A 17 8) (I 17))) B) n (nI (wOf A p s)) := fun p s hp => c_weightOf (A := va_up A 22 (mayF A (A 17 8) (I 17))) s hp k2
        refine x_aload_n dX8_heavier_23 rfl ?_
        refine x_aload_n dX8_heavier_24 rfl ?_
        refine x_getf dX8_heavier_25 flX8_58 mH_a rfl ?_
        refine x_bipush (v := nI 8) dX8_heavier_28 (by decide) ?_
        refine m_iald dX8_heavier_30 rfl (by simp only [mLen]; omega) (by decide) ?_
        refine x_cVI1 dX8_heavier_31 lkX8_221 mdX8_layLeft isX8_layLeft rfl rfl mH_a (by decide) (c_layLeft hk hs (Nat.le_refl _) h17) (Nat.le_of_ble_eq_true rfl) ⟨Nat.le_refl _, Nat.le_refl _⟩ ?_
        rintro v h' ⟨rfl, rfl⟩
        generalize hA2 : va_up A 22 (mayF A (A 17 8) (I 17)) = A2 at em cw
        have e16 : ∀ w, A2 16 w = A 16 w := fun w => by rw [← hA2]; rfl
        refine x_pop dX8_heavier_34 rfl ?_
        refine x_iconst (v := nI 0) dX8_heavier_35 (by decide) ?_
        refine x_is3 dX8_heavier_36 (by decide) rfl ?_
        refine x_iconst (v := nI 0) dX8_heavier_37 (by decide) ?_
        refine x_is4 dX8_heavier_38 (by decide) rfl ?_
        refine z_up (I 17) (P := fun w => zEx G MX8_heavier 5 0 0 40 [some (.ref a), some (.int (nI p)), some (.int (nI q)), some (.int (nI (hvF A p q w))), some (.int (nI w))] [] (mH h0 a I A2 B) n (0, 0) _) ?_ 0 (Nat.zero_le _)
        intro w hw ih
        refine x_iload dX8_heavier_40 rfl ?_
        refine x_aload_n dX8_heavier_42 rfl ?_
        refine x_getf dX8_heavier_43 flX8_172 mH_a rfl ?_
        refine n_icmp_ge (tgt := 108) dX8_heavier_46 (by decide) (by omega) (by omega) (fun hc => ?_) (fun hc => ?_)
        · refine x_iload_n dX8_heavier_108 rfl ?_
          refine x_iret dX8_heavier_109 rfl rfl ⟨Nat.le_refl _, Nat.le_refl _⟩ ?_
          exact ⟨_, rfl, ⟨by rw [show w = I 17 by omega], _, by rw [← hA2]⟩, rfl⟩
        · have hwl : w < I 17 := by omega
          have ih9 := ih hwl
          have ec : hvF A p q (w + 1) = hvF A p q w + (if lf A (A 17 8) w && decide (wOf A q (sI (A 16 w) q) < wOf A p (sI (A 16 w) p)) then 1 else 0) := rfl
          rw [ec] at ih9
          have w1 := wOf_le (p := p) (s := sI (A 16 w) p) k2 (fun t ht => (k3 t ht).1.2)
          have w2 := wOf_le (p := q) (s := sI (A 16 w) q) k2 (fun t ht => (k3 t ht).1.2)
          have b1 := (k4 p hp).1
          have b2 := (k4 q hq).1
          refine x_iload_n dX8_heavier_49 rfl ?_
          refine x_aload_n dX8_heavier_50 rfl ?_
          refine x_getf dX8_heavier_51 flX8_73 mH_a rfl ?_
          refine x_iload dX8_heavier_54 rfl ?_
          refine m_zald dX8_heavier_56 rfl (by simp only [mLen]; omega) (by decide) ?_
          rw [em w hwl]
          refine b_if_eq (tgt := 99) dX8_heavier_57 (by decide) (fun c4 => ?_) (fun c4 => ?_)
          · refine x_iconst (v := nI 0) dX8_heavier_99 (by decide) ?_
            refine n_iadd dX8_heavier_100 ?_
            refine x_is3 dX8_heavier_101 (by decide) rfl ?_
            refine n_ii4 (w := 1) dX8_heavier_102 (by decide) (by decide) rfl ?_
            refine x_goto (tgt := 40) dX8_heavier_105 (by decide) ?_
            rw [c4] at ih9
            exact ih9
          · refine x_aload_n dX8_heavier_60 rfl ?_
            refine x_iload_n dX8_heavier_61 rfl ?_
            refine x_aload_n dX8_heavier_62 rfl ?_
            refine x_getf dX8_heavier_63 flX8_55 mH_a rfl ?_
            refine x_iload dX8_heavier_66 rfl ?_
            refine m_iald dX8_heavier_68 rfl (by simp only [mLen]; omega) (by decide) ?_
            rw [e16]
            refine x_iload_n dX8_heavier_69 rfl ?_
            refine x_cSi2 dX8_heavier_70 lkX8_192 mdX8_setIn stX8_setIn (by decide) (c_setIn _ (by omega)) (Nat.le_of_ble_eq_true rfl) ⟨Nat.le_refl _, Nat.le_refl _⟩ ?_
            refine x_cVi2 dX8_heavier_73 lkX8_195 mdX8_weightOf isX8_weightOf rfl rfl mH_a (by decide) (cw _ _ (by omega)) (Nat.le_of_ble_eq_true rfl) ⟨Nat.le_refl _, Nat.le_refl _⟩ ?_
            refine x_aload_n dX8_heavier_76 rfl ?_
            refine x_iload_n dX8_heavier_77 rfl ?_
            refine x_aload_n dX8_heavier_78 rfl ?_
            refine x_getf dX8_heavier_79 flX8_55 mH_a rfl ?_
            refine x_iload dX8_heavier_82 rfl ?_
            refine m_iald dX8_heavier_84 rfl (by simp only [mLen]; omega) (by decide) ?_
            rw [e16]
            refine x_iload_n dX8_heavier_85 rfl ?_
            refine x_cSi2 dX8_heavier_86 lkX8_192 mdX8_setIn stX8_setIn (by decide) (c_setIn _ (by omega)) (Nat.le_of_ble_eq_true rfl) ⟨Nat.le_refl _, Nat.le_refl _⟩ ?_
            refine x_cVi2 dX8_heavier_89 lkX8_195 mdX8_weightOf isX8_weightOf rfl rfl mH_a (by decide) (cw _ _ (by omega)) (Nat.le_of_ble_eq_true rfl) ⟨Nat.le_refl _, Nat.le_refl _⟩ ?_
            refine n_icmp_le (tgt := 99) dX8_heavier_92 (by decide) (by omega) (by omega) (fun c5 => ?_) (fun c5 => ?_)
            · refine x_iconst (v := nI 0) dX8_heavier_99 (by decide) ?_
              refine n_iadd dX8_heavier_100 ?_
              refine x_is3 dX8_heavier_101 (by decide) rfl ?_
              refine n_ii4 (w := 1) dX8_heavier_102 (by decide) (by decide) rfl ?_
              refine x_goto (tgt := 40) dX8_heavier_105 (by decide) ?_
              rw [c4, decide_eq_false (by omega)] at ih9
              exact ih9
            · refine x_iconst (v := nI 1) dX8_heavier_95 (by decide) ?_
              refine x_goto (tgt := 100) dX8_heavier_96 (by decide) ?_
              refine n_iadd dX8_heavier_100 ?_
              refine x_is3 dX8_heavier_101 (by decide) rfl ?_
              refine n_ii4 (w := 1) dX8_heavier_102 (by decide) (by decide) rfl ?_
              refine x_goto (tgt := 40) dX8_heavier_105 (by decide) ?_
              rw [c4, decide_eq_true (by omega)] at ih9
              exact ih9
      · refine x_iconst (v := -1) dX8_heavier_21 (by decide) ?_
        refine x_iret dX8_heavier_22 rfl rfl ⟨Nat.le_refl _, Nat.le_refl _⟩ ?_
        exact ⟨_, rfl, ⟨by unfold fHeavier; rw [if_pos (Or.inr (Or.inr c3))], _, self⟩, rfl⟩
def drw (z N : Nat) : Nat := (7919 * z + 1) * (7919 * z + 1) % 65521 % N
def fMorning (I : Nat → Nat) (A : Nat → Nat → Nat) (z what : Int32) : Int32 := if bR z 10000 && bR what 2 then sSol (slF A (A 16 (drw z.toNatClampNeg (I 17))) (I 17) 21 0 (lf A 0) 0) what else -1
theorem c_morningM {x y : Int32} (hk : tR A) (h1 : 1 ≤ A 7 0) (hs : sOK A (A 17)) (h17 : I 17 ≤ 5040) (h0n : 0 < I 17) (h60 : a60 A (I 17)) (h32 : ∀ w, w < I 17 → A 16 w < 2 ^ 32) : zPi G MX8_morning 6 [.ref a, .int x, .int y] (mH h0 a I A B) n (fun v h' => v = fMorning I A x y ∧ ∃ d e f g, h' = mH h0 a (va_up (va_up I 29 d) 32 e) (va_up (va_up A 22 f) 24 g) B) := by
  refine zCt.of rfl (Nat.le_of_ble_eq_true rfl) rfl ?_
  have self : mH h0 a I A B = mH h0 a (va_up (va_up I 29 (I 29)) 32 (I 32)) (va_up (va_up A 22 (A 22)) 24 (A 24)) B := by
    have e1 : va_up (va_up I 29 (I 29)) 32 (I 32) = I := by funext k; simp only [va_up]; grind
    have e2 : va_up (va_up A 22 (A 22)) 24 (A 24) = A := by funext k j; simp only [va_up, ite_app]; grind
    rw [e1, e2]
  refine x_iload_n dX8_morning_0 rfl ?_
  refine x_i2l dX8_morning_1 rfl ?_
  refine x_lconst (v := lN 0) dX8_morning_2 (by decide) ?_
  refine x_ldc2 (v := lN 9999) dX8_morning_3 coX8_266 ?_
  refine x_cSi3 dX8_morning_6 lkX8_109 mdX8_in stX8_in (by decide) (c_inR x (by decide)) (Nat.le_of_ble_eq_true rfl) ⟨Nat.le_refl _, Nat.le_refl _⟩ ?_
  refine b_if_eq (tgt := 22) dX8_morning_9 (by decide) (fun c1 => ?_) (fun c1 => ?_)
  · have c1 : bR x 10000 = false := c1
    refine x_iconst (v := -1) dX8_morning_22 (by decide) ?_
    refine x_iret dX8_morning_23 rfl rfl ⟨Nat.le_refl _, Nat.le_refl _⟩ ?_
    exact ⟨_, rfl, ⟨by unfold fMorning; rw [c1]; rfl, _, _, _, _, self⟩, rfl⟩
  · have c1 : bR x 10000 = true := c1
    refine x_iload_n dX8_morning_12 rfl ?_
    refine x_i2l dX8_morning_13 rfl ?_
    refine x_lconst (v := lN 0) dX8_morning_14 (by decide) ?_
    refine x_lconst (v := lN 1) dX8_morning_15 (by decide) ?_
    refine x_cSi3 dX8_morning_16 lkX8_109 mdX8_in stX8_in (by decide) (c_inR y (by decide)) (Nat.le_of_ble_eq_true rfl) ⟨Nat.le_refl _, Nat.le_refl _⟩ ?_
    refine b_if_ne (tgt := 24) dX8_morning_19 (by decide) (fun c2 => ?_) (fun c2 => ?_)
    · have c2 : bR y 2 = true := c2
      obtain ⟨z, hz, rfl⟩ := inR_of (bR_true.mp c1) (by decide)
      have hF : fMorning I A (nI z) y = sSol (slF A (A 16 (drw z (I 17))) (I 17) 21 0 (lf A 0) 0) y := by
        unfold fMorning; rw [c1, c2, nI_clamp (by omega)]; rfl
      rw [hF]
      have hdl : drw z (I 17) < I 17 := Nat.mod_lt _ h0n
      have cs := c_solve (G := G) (n := n) (h0 := h0) (a := a) (I := I) (B := B) (A := va_up A 22 (mayF A 0 (I 17))) (μ := lf A 0) (c := A 16 (drw z (I 17))) (tR_up (by decide) hk) h1 h17 (a60_up (by decide) h60) h32 (h32 _ hdl) (fun w hw => by
        show mayF A 0 (I 17) w = _
        unfold mayF; rw [if_pos hw])
      simp only [slF_up (show 17 ≤ 22 by decide), up_up] at cs
      generalize hq : slF A (A 16 (drw z (I 17))) (I 17) 21 0 (lf A 0) 0 = q at cs
      have hql : ∀ m, q.1 = some m → m < 21 := fun m hm => by rw [← hq] at hm; exact slF_le A _ _ 21 0 _ _ m hm
      have hxx : (7919 * z + 1) * (7919 * z + 1) < 2 ^ 63 := by
        have h1 : 7919 * z + 1 ≤ 79190000 := by omega
        exact Nat.lt_of_le_of_lt (Nat.mul_le_mul h1 h1) (by decide)
      have hm65 : (7919 * z + 1) * (7919 * z + 1) % 65521 < 65521 := Nat.mod_lt _ (by decide)
      refine x_ldc2 (v := lN 7919) dX8_morning_24 coX8_268 ?_
      refine x_iload_n dX8_morning_27 rfl ?_
      refine n_i2l dX8_morning_28 (by omega) ?_
      refine n_lmul dX8_morning_29 ?_
      refine x_lconst (v := lN 1) dX8_morning_30 (by decide) ?_
      refine n_ladd dX8_morning_31 ?_
      refine x_ls3 dX8_morning_32 (by decide) rfl ?_
      refine x_aload_n dX8_morning_33 rfl ?_
      refine x_iconst (v := nI 0) dX8_morning_34 (by decide) ?_
      refine x_cVI1 dX8_morning_35 lkX8_221 mdX8_layLeft isX8_layLeft rfl rfl mH_a (by decide) (c_layLeft hk hs (Nat.zero_le _) h17) (Nat.le_of_ble_eq_true rfl) ⟨Nat.le_refl _, Nat.le_refl _⟩ ?_
      rintro v h' ⟨rfl, rfl⟩
      refine x_pop dX8_morning_38 rfl ?_
      refine x_aload_n dX8_morning_39 rfl ?_
      refine x_aload_n dX8_morning_40 rfl ?_
      refine x_getf dX8_morning_41 flX8_55 mH_a rfl ?_
      refine x_lload_n dX8_morning_44 rfl ?_
      refine x_lload_n dX8_morning_45 rfl ?_
      refine n_lmul dX8_morning_46 ?_
      refine x_ldc2 (v := lN 65521) dX8_morning_47 coX8_270 ?_
      refine n_lrem dX8_morning_50 hxx (by decide) (by decide) ?_
      refine n_l2i dX8_morning_51 ?_
      refine x_aload_n dX8_morning_52 rfl ?_
      refine x_getf dX8_morning_53 flX8_172 mH_a rfl ?_
      refine n_irem dX8_morning_56 (by omega) (by omega) (by omega) ?_
      refine m_iald (j := drw z (I 17)) dX8_morning_57 rfl (by simp only [mLen]; omega) (by decide) ?_
      refine x_cVI1 dX8_morning_58 lkX8_261 mdX8_solve isX8_solve rfl rfl mH_a (by decide) (cs) (Nat.le_of_ble_eq_true rfl) ⟨Nat.le_refl _, Nat.le_refl _⟩ ?_
      rintro v h' ⟨rfl, e, f, g, rfl⟩
      refine x_is5 dX8_morning_61 (by decide) rfl ?_
      refine x_iload dX8_morning_63 rfl ?_
      obtain ⟨q1, q2⟩ := q
      cases q1 with
      | none =>
        refine x_if_lt (tgt := 72) dX8_morning_65 (by decide) (fun c2 => ?_) (fun c2 => absurd (show (-4 : Int32) < 0 by decide) c2)
        refine x_iload dX8_morning_72 rfl ?_
        refine x_goto (tgt := 81) dX8_morning_74 (by decide) ?_
        refine x_iret dX8_morning_81 rfl rfl ⟨Nat.le_refl _, Nat.le_refl _⟩ ?_
        exact ⟨_, rfl, ⟨rfl, _, _, _, _, rfl⟩, rfl⟩
      | some m =>
        have hm := hql m rfl
        refine x_if_lt (tgt := 72) dX8_morning_65 (by decide) (fun c2 => absurd c2 (nI_pos (by omega))) (fun c2 => ?_)
        refine x_iload_n dX8_morning_68 rfl ?_
        refine x_if_ne (tgt := 77) dX8_morning_69 (by decide) (fun c3 => ?_) (fun c3 => ?_)
        · refine x_aload_n dX8_morning_77 rfl ?_
          refine x_getf (v := .int (nI q2)) dX8_morning_78 flX8_258 mH_a rfl ?_
          refine x_iret dX8_morning_81 rfl rfl ⟨Nat.le_refl _, Nat.le_refl _⟩ ?_
          exact ⟨_, rfl, ⟨by unfold sSol; dsimp only; rw [if_neg c3], _, _, _, _, rfl⟩, rfl⟩
        · refine x_iload dX8_morning_72 rfl ?_
          refine x_goto (tgt := 81) dX8_morning_74 (by decide) ?_
          refine x_iret dX8_morning_81 rfl rfl ⟨Nat.le_refl _, Nat.le_refl _⟩ ?_
          exact ⟨_, rfl, ⟨by unfold sSol; dsimp only; rw [if_pos c3]; rfl, _, _, _, _, rfl⟩, rfl⟩
    · have c2 : bR y 2 = false := c2
      refine x_iconst (v := -1) dX8_morning_22 (by decide) ?_
      refine x_iret dX8_morning_23 rfl rfl ⟨Nat.le_refl _, Nat.le_refl _⟩ ?_
      exact ⟨_, rfl, ⟨by unfold fMorning; rw [c1, c2]; rfl, _, _, _, _, self⟩, rfl⟩
end ZM19
