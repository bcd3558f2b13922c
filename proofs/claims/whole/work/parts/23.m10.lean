section ZM11
variable {G : zG} {n : Nat} {h0 : zF} {a : Nat} {I : Nat → Nat} {A : Nat → Nat → Nat} {B : Nat → Nat} {h : zF}
/-- the scenes that can be undone, behind a new one -/
def ntB (bf nw : Nat → Nat) (u : Nat) : Nat → Nat := fun x => if u = 8 then (if x < 147 then bf (21 + x) else if x < 168 then nw (x - 147) else bf x) else (if 21 * u ≤ x ∧ x < 21 * u + 21 then nw (x - 21 * u) else bf x)
def ntU (u : Nat) : Nat := if u = 8 then 8 else u + 1
theorem c_note (hu : I 20 ≤ 8) : zPv G MX8_note 0 [.ref a] (mH h0 a I A B) n (fun h' => h' = mH h0 a (va_up I 20 (ntU (I 20))) (va_up A 18 (ntB (A 18) (A 17) (I 20))) B) := by
  refine zCt.of rfl (Nat.le_of_ble_eq_true rfl) rfl ?_
  have K49 : ∀ (v : Nat) (bf : Nat → Nat) (o1 : Option Value), v ≤ 7 → (∀ x, ntB (A 18) (A 17) (I 20) x = if 21 * v ≤ x ∧ x < 21 * v + 21 then A 17 (x - 21 * v) else bf x) → ntU (I 20) = v + 1 → zEx G MX8_note 0 0 0 49 [some (.ref a), o1] [] (mH h0 a (va_up I 20 v) (va_up A 18 bf) B) n (0, 0) (fun r h' n' => r = none ∧ h' = mH h0 a (va_up I 20 (ntU (I 20))) (va_up A 18 (ntB (A 18) (A 17) (I 20))) B ∧ n' = n) := by
    intro v bf o1 hv hb hU
    refine x_iconst (v := nI 0) dX8_note_49 (by decide) ?_
    refine x_is1 dX8_note_50 (by decide) rfl ?_
    refine x_eqA (A' := va_up A 18 (fun x => if 21 * v ≤ x ∧ x < 21 * v + 0 then A 17 (x - 21 * v) else bf x)) (by funext k j; simp only [va_up, ite_app]; grind) ?_
    refine z_up 21 (P := fun i => zEx G MX8_note 0 0 0 51 [some (.ref a), some (.int (nI i))] [] (mH h0 a (va_up I 20 v) (va_up A 18 (fun x => if 21 * v ≤ x ∧ x < 21 * v + i then A 17 (x - 21 * v) else bf x)) B) n (0, 0) _) ?_ 0 (by decide)
    intro i hi ih
    refine x_iload_n dX8_note_51 rfl ?_
    refine x_bipush (v := nI 21) dX8_note_52 (by decide) ?_
    refine n_icmp_ge (tgt := 83) dX8_note_54 (by decide) (by omega) (by omega) (fun hc => ?_) (fun hc => ?_)
    · refine x_aload_n dX8_note_83 rfl ?_
      refine x_dup dX8_note_84 rfl ?_
      refine x_getf (v := .int (nI v)) dX8_note_85 flX8_175 mH_a rfl ?_
      refine x_iconst (v := nI 1) dX8_note_88 (by decide) ?_
      refine n_iadd dX8_note_89 ?_
      refine m_put dX8_note_90 flX8_175 ftX8_20 (by simp [mFs]) rfl ?_
      refine x_vret dX8_note_93 rfl ⟨Nat.le_refl _, Nat.le_refl _⟩ ?_
      have hi : i = 21 := by omega
      subst hi
      refine ⟨rfl, ?_, rfl⟩
      rw [up_up, hU]
      congr 2
      funext x
      exact (hb x).symm
    · refine x_aload_n dX8_note_57 rfl ?_
      refine x_getf dX8_note_58 flX8_61 mH_a rfl ?_
      refine x_bipush (v := nI 21) dX8_note_61 (by decide) ?_
      refine x_aload_n dX8_note_63 rfl ?_
      refine x_getf (v := .int (nI v)) dX8_note_64 flX8_175 mH_a rfl ?_
      refine n_imul dX8_note_67 ?_
      refine x_iload_n dX8_note_68 rfl ?_
      refine n_iadd dX8_note_69 ?_
      refine x_aload_n dX8_note_70 rfl ?_
      refine x_getf dX8_note_71 flX8_58 mH_a rfl ?_
      refine x_iload_n dX8_note_74 rfl ?_
      refine m_iald dX8_note_75 rfl (by simp only [mLen]; omega) (by decide) ?_
      refine m_iast dX8_note_76 rfl (by simp only [mLen]; omega) (by decide) ?_
      refine n_ii1 (w := 1) dX8_note_77 (by decide) (by decide) rfl ?_
      refine x_goto (tgt := 51) dX8_note_80 (by decide) ?_
      exact x_eqA (by funext k j; simp only [va_up, ite_app]; grind) (ih (by omega))
  refine x_aload_n dX8_note_0 rfl ?_
  refine x_getf dX8_note_1 flX8_175 mH_a rfl ?_
  refine x_bipush (v := nI 8) dX8_note_4 (by decide) ?_
  refine n_icmp_ne (tgt := 49) dX8_note_6 (by decide) (by omega) (by omega) (fun c1 => ?_) (fun c1 => ?_)
  · have := K49 (I 20) (A 18) none (by omega) (fun x => by unfold ntB; rw [if_neg c1]) (by unfold ntU; rw [if_neg c1])
    rw [up_self, up_self] at this
    exact this
  · refine x_iconst (v := nI 0) dX8_note_9 (by decide) ?_
    refine x_is1 dX8_note_10 (by decide) rfl ?_
    refine x_eqA (A' := va_up A 18 (fun x => if x < 0 then A 18 (21 + x) else A 18 x)) (by funext k j; simp only [va_up, ite_app]; grind) ?_
    refine z_up 147 (P := fun i => zEx G MX8_note 0 0 0 11 [some (.ref a), some (.int (nI i))] [] (mH h0 a I (va_up A 18 (fun x => if x < i then A 18 (21 + x) else A 18 x)) B) n (0, 0) _) ?_ 0 (by decide)
    intro i hi ih
    refine x_iload_n dX8_note_11 rfl ?_
    refine x_sipush (v := nI 147) dX8_note_12 (by decide) ?_
    refine n_icmp_ge (tgt := 39) dX8_note_15 (by decide) (by omega) (by omega) (fun hc => ?_) (fun hc => ?_)
    · have hi : i = 147 := by omega
      subst hi
      refine x_aload_n dX8_note_39 rfl ?_
      refine x_dup dX8_note_40 rfl ?_
      refine x_getf dX8_note_41 flX8_175 mH_a rfl ?_
      refine x_iconst (v := nI 1) dX8_note_44 (by decide) ?_
      refine n_isub dX8_note_45 (by omega) ?_
      refine m_put dX8_note_46 flX8_175 ftX8_20 (by simp [mFs]) rfl ?_
      refine x_eqI (I' := va_up I 20 7) (by rw [c1]) ?_
      refine K49 7 _ _ (by decide) (fun x => ?_) (by unfold ntU; rw [c1]; rfl)
      unfold ntB
      rw [if_pos c1]
      grind
    · refine x_aload_n dX8_note_18 rfl ?_
      refine x_getf dX8_note_19 flX8_61 mH_a rfl ?_
      refine x_iload_n dX8_note_22 rfl ?_
      refine x_aload_n dX8_note_23 rfl ?_
      refine x_getf dX8_note_24 flX8_61 mH_a rfl ?_
      refine x_bipush (v := nI 21) dX8_note_27 (by decide) ?_
      refine x_iload_n dX8_note_29 rfl ?_
      refine n_iadd dX8_note_30 ?_
      refine m_iald dX8_note_31 rfl (by simp only [mLen]; omega) (by decide) ?_
      refine m_iast dX8_note_32 rfl (by simp only [mLen]; omega) (by decide) ?_
      refine n_ii1 (w := 1) dX8_note_33 (by decide) (by decide) rfl ?_
      refine x_goto (tgt := 11) dX8_note_36 (by decide) ?_
      exact x_eqA (by funext k j; simp only [va_up, ite_app]; grind) (ih (by omega))
/-- one more answer in a scene -/
def adS (S : Nat → Nat) (p sort v : Nat) : Nat → Nat := fun x => if x = 8 then S 8 + 1 else if x = 9 + S 8 then 16 * v + 4 * p + sort else S x
theorem c_addAnswer {p sort v : Nat} (hu : I 20 ≤ 8) (h8 : A 17 8 < 12) : zPv G MX8_addAnswer 1 [.ref a, .int (nI p), .int (nI sort), .int (nI v)] (mH h0 a I A B) n (fun h' => h' = mH h0 a (va_up I 20 (ntU (I 20))) (va_up (va_up A 18 (ntB (A 18) (A 17) (I 20))) 17 (adS (A 17) p sort v)) B) := by
  refine zCt.of rfl (Nat.le_of_ble_eq_true rfl) rfl ?_
  refine x_aload_n dX8_addAnswer_0 rfl ?_
  refine x_cVV0 dX8_addAnswer_1 lkX8_206 mdX8_note isX8_note rfl rfl mH_a (by decide) (c_note hu) (Nat.le_of_ble_eq_true rfl) ⟨Nat.le_refl _, Nat.le_refl _⟩ ?_
  rintro _ rfl
  refine x_aload_n dX8_addAnswer_4 rfl ?_
  refine x_getf dX8_addAnswer_5 flX8_58 mH_a rfl ?_
  refine x_bipush (v := nI 9) dX8_addAnswer_8 (by decide) ?_
  refine x_aload_n dX8_addAnswer_10 rfl ?_
  refine x_getf dX8_addAnswer_11 flX8_58 mH_a rfl ?_
  refine x_bipush (v := nI 8) dX8_addAnswer_14 (by decide) ?_
  refine m_iald dX8_addAnswer_16 rfl (by simp only [mLen]; omega) (by decide) ?_
  refine n_iadd dX8_addAnswer_17 ?_
  refine x_bipush (v := nI 16) dX8_addAnswer_18 (by decide) ?_
  refine x_iload_n dX8_addAnswer_20 rfl ?_
  refine n_imul dX8_addAnswer_21 ?_
  refine x_iconst (v := nI 4) dX8_addAnswer_22 (by decide) ?_
  refine x_iload_n dX8_addAnswer_23 rfl ?_
  refine n_imul dX8_addAnswer_24 ?_
  refine n_iadd dX8_addAnswer_25 ?_
  refine x_iload_n dX8_addAnswer_26 rfl ?_
  refine n_iadd dX8_addAnswer_27 ?_
  refine m_iast dX8_addAnswer_28 rfl (by simp only [mLen]; show 9 + A 17 8 < 21; omega) (by decide) ?_
  refine x_aload_n dX8_addAnswer_29 rfl ?_
  refine x_getf dX8_addAnswer_30 flX8_58 mH_a rfl ?_
  refine x_bipush (v := nI 8) dX8_addAnswer_33 (by decide) ?_
  refine x_dup2_11 dX8_addAnswer_35 rfl rfl ?_
  refine m_iald dX8_addAnswer_36 rfl (by simp only [mLen]; omega) (by decide) ?_
  refine x_iconst (v := nI 1) dX8_addAnswer_37 (by decide) ?_
  refine n_iadd dX8_addAnswer_38 ?_
  refine m_iast dX8_addAnswer_39 rfl (by simp only [mLen]; omega) (by decide) ?_
  refine x_vret dX8_addAnswer_40 rfl ⟨Nat.le_refl _, Nat.le_refl _⟩ ?_
  refine ⟨rfl, ?_, rfl⟩
  congr 1
  funext k j; simp only [va_up, ite_app, adS]; grind
theorem c_attemptM {x y : Int32} (hk : tR A) (h1 : 1 ≤ A 7 0) (hu : I 20 ≤ 8) (h8 : A 17 8 ≤ 12) (hs : ∀ p, p < 4 → A 17 p < 256) (hf : ∀ p, p < 4 → A 17 (4 + p) ≤ 9) : zPi G MX8_attempt 3 [.ref a, .int x, .int y] (mH h0 a I A B) n (fun v h' => ((bR x (A 7 0) && bR y 4) = false ∧ v = -1 ∧ h' = mH h0 a I A B) ∨ ((bR x (A 7 0) && bR y 4) = true ∧ A 17 8 = 12 ∧ v = -3 ∧ h' = mH h0 a I A B) ∨ (A 17 8 < 12 ∧ ∃ p sort, (p < A 7 0 ∧ sort < 4) ∧ (x = nI p ∧ y = nI sort) ∧ v = nI (ansF A p sort (A 17 p) (A 17 (4 + p))) ∧ h' = mH h0 a (va_up I 20 (ntU (I 20))) (va_up (va_up A 18 (ntB (A 18) (A 17) (I 20))) 17 (adS (A 17) p sort (ansF A p sort (A 17 p) (A 17 (4 + p))))) B)) := by
  refine zCt.of rfl (Nat.le_of_ble_eq_true rfl) rfl ?_
  have k7 := hk.2.1
  refine x_aload_n dX8_attempt_0 rfl ?_
  refine x_iload_n dX8_attempt_1 rfl ?_
  refine x_cVi1 dX8_attempt_2 lkX8_189 mdX8_isParcel isX8_isParcel rfl rfl mH_a (by decide) (c_isParcel h1 k7) (Nat.le_of_ble_eq_true rfl) ⟨Nat.le_refl _, Nat.le_refl _⟩ ?_
  refine b_if_eq (tgt := 20) dX8_attempt_5 (by decide) (fun c1 => ?_) (fun c1 => ?_)
  · refine x_iconst (v := -1) dX8_attempt_20 (by decide) ?_
    refine x_iret dX8_attempt_21 rfl rfl ⟨Nat.le_refl _, Nat.le_refl _⟩ ?_
    exact ⟨_, rfl, Or.inl ⟨by rw [c1]; rfl, rfl, rfl⟩, rfl⟩
  · refine x_iload_n dX8_attempt_8 rfl ?_
    refine x_i2l dX8_attempt_9 rfl ?_
    refine x_lconst (v := lN 0) dX8_attempt_10 (by decide) ?_
    refine x_ldc2 (v := lN 3) dX8_attempt_11 coX8_201 ?_
    refine x_cSi3 dX8_attempt_14 lkX8_109 mdX8_in stX8_in (by decide) (c_inR y (by decide)) (Nat.le_of_ble_eq_true rfl) ⟨Nat.le_refl _, Nat.le_refl _⟩ ?_
    refine b_if_ne (tgt := 22) dX8_attempt_17 (by decide) (fun c2 => ?_) (fun c2 => ?_)
    · have c2 : bR y 4 = true := c2
      refine x_aload_n dX8_attempt_22 rfl ?_
      refine x_getf dX8_attempt_23 flX8_58 mH_a rfl ?_
      refine x_bipush (v := nI 8) dX8_attempt_26 (by decide) ?_
      refine m_iald dX8_attempt_28 rfl (by simp only [mLen]; omega) (by decide) ?_
      refine x_bipush (v := nI 12) dX8_attempt_29 (by decide) ?_
      refine n_icmp_ne (tgt := 37) dX8_attempt_31 (by decide) (by omega) (by omega) (fun c3 => ?_) (fun c3 => ?_)
      · obtain ⟨p, hp, rfl⟩ := inR_of (bR_true.mp c1) (by omega)
        obtain ⟨q, hq, rfl⟩ := inR_of (bR_true.mp c2) (by decide)
        have hfp := hf p (by omega)
        refine x_aload_n dX8_attempt_37 rfl ?_
        refine x_iload_n dX8_attempt_38 rfl ?_
        refine x_iload_n dX8_attempt_39 rfl ?_
        refine x_aload_n dX8_attempt_40 rfl ?_
        refine x_getf dX8_attempt_41 flX8_58 mH_a rfl ?_
        refine x_iload_n dX8_attempt_44 rfl ?_
        refine m_iald dX8_attempt_45 rfl (by simp only [mLen]; omega) (by decide) ?_
        refine x_aload_n dX8_attempt_46 rfl ?_
        refine x_getf dX8_attempt_47 flX8_58 mH_a rfl ?_
        refine x_iconst (v := nI 4) dX8_attempt_50 (by decide) ?_
        refine x_iload_n dX8_attempt_51 rfl ?_
        refine n_iadd dX8_attempt_52 ?_
        refine m_iald dX8_attempt_53 rfl (by simp only [mLen]; omega) (by decide) ?_
        refine x_cVi4 dX8_attempt_54 lkX8_203 mdX8_answerOf isX8_answerOf rfl rfl mH_a (by decide) (c_answerOf hk hp hq (hs p (by omega)) (by omega)) (Nat.le_of_ble_eq_true rfl) ⟨Nat.le_refl _, Nat.le_refl _⟩ ?_
        refine x_is3 dX8_attempt_57 (by decide) rfl ?_
        refine x_aload_n dX8_attempt_58 rfl ?_
        refine x_iload_n dX8_attempt_59 rfl ?_
        refine x_iload_n dX8_attempt_60 rfl ?_
        refine x_iload_n dX8_attempt_61 rfl ?_
        refine x_cVV3 dX8_attempt_62 lkX8_209 mdX8_addAnswer isX8_addAnswer rfl rfl mH_a (by decide) (c_addAnswer hu (by omega)) (Nat.le_of_ble_eq_true rfl) ⟨Nat.le_refl _, Nat.le_refl _⟩ ?_
        rintro _ rfl
        refine x_iload_n dX8_attempt_65 rfl ?_
        refine x_iret dX8_attempt_66 rfl rfl ⟨Nat.le_refl _, Nat.le_refl _⟩ ?_
        exact ⟨_, rfl, Or.inr (Or.inr ⟨by omega, p, q, ⟨hp, hq⟩, ⟨rfl, rfl⟩, rfl, rfl⟩), rfl⟩
      · refine x_bipush (v := -3) dX8_attempt_34 (by decide) ?_
        refine x_iret dX8_attempt_36 rfl rfl ⟨Nat.le_refl _, Nat.le_refl _⟩ ?_
        exact ⟨_, rfl, Or.inr (Or.inl ⟨by rw [c1, c2]; rfl, c3, rfl, rfl⟩), rfl⟩
    · have c2 : bR y 4 = false := c2
      refine x_iconst (v := -1) dX8_attempt_20 (by decide) ?_
      refine x_iret dX8_attempt_21 rfl rfl ⟨Nat.le_refl _, Nat.le_refl _⟩ ?_
      exact ⟨_, rfl, Or.inl ⟨by rw [c1, c2]; rfl, rfl, rfl⟩, rfl⟩
theorem c_hearM {x y z : Int32} (h1 : 1 ≤ A 7 0) (k7 : A 7 0 ≤ 4) (hu : I 20 ≤ 8) (h8 : A 17 8 ≤ 12) : zPi G MX8_hear 2 [.ref a, .int x, .int y, .int z] (mH h0 a I A B) n (fun v h' => ((bR x (A 7 0) && bR y 4 && bR z 100) = false ∧ v = -1 ∧ h' = mH h0 a I A B) ∨ ((bR x (A 7 0) && bR y 4 && bR z 100) = true ∧ A 17 8 = 12 ∧ v = -3 ∧ h' = mH h0 a I A B) ∨ (A 17 8 < 12 ∧ ∃ p sort w, (p < A 7 0 ∧ sort < 4 ∧ w < 100) ∧ (x = nI p ∧ y = nI sort ∧ z = nI w) ∧ v = nI (A 17 8 + 1) ∧ h' = mH h0 a (va_up I 20 (ntU (I 20))) (va_up (va_up A 18 (ntB (A 18) (A 17) (I 20))) 17 (adS (A 17) p sort w)) B)) := by
  refine zCt.of rfl (Nat.le_of_ble_eq_true rfl) rfl ?_
  refine x_aload_n dX8_hear_0 rfl ?_
  refine x_iload_n dX8_hear_1 rfl ?_
  refine x_cVi1 dX8_hear_2 lkX8_189 mdX8_isParcel isX8_isParcel rfl rfl mH_a (by decide) (c_isParcel h1 k7) (Nat.le_of_ble_eq_true rfl) ⟨Nat.le_refl _, Nat.le_refl _⟩ ?_
  refine b_if_eq (tgt := 32) dX8_hear_5 (by decide) (fun c1 => ?_) (fun c1 => ?_)
  · refine x_iconst (v := -1) dX8_hear_32 (by decide) ?_
    refine x_iret dX8_hear_33 rfl rfl ⟨Nat.le_refl _, Nat.le_refl _⟩ ?_
    exact ⟨_, rfl, Or.inl ⟨by rw [c1]; rfl, rfl, rfl⟩, rfl⟩
  · refine x_iload_n dX8_hear_8 rfl ?_
    refine x_i2l dX8_hear_9 rfl ?_
    refine x_lconst (v := lN 0) dX8_hear_10 (by decide) ?_
    refine x_ldc2 (v := lN 3) dX8_hear_11 coX8_201 ?_
    refine x_cSi3 dX8_hear_14 lkX8_109 mdX8_in stX8_in (by decide) (c_inR y (by decide)) (Nat.le_of_ble_eq_true rfl) ⟨Nat.le_refl _, Nat.le_refl _⟩ ?_
    refine b_if_eq (tgt := 32) dX8_hear_17 (by decide) (fun c2 => ?_) (fun c2 => ?_)
    · have c2 : bR y 4 = false := c2
      refine x_iconst (v := -1) dX8_hear_32 (by decide) ?_
      refine x_iret dX8_hear_33 rfl rfl ⟨Nat.le_refl _, Nat.le_refl _⟩ ?_
      exact ⟨_, rfl, Or.inl ⟨by rw [c1, c2]; rfl, rfl, rfl⟩, rfl⟩
    · have c2 : bR y 4 = true := c2
      refine x_iload_n dX8_hear_20 rfl ?_
      refine x_i2l dX8_hear_21 rfl ?_
      refine x_lconst (v := lN 0) dX8_hear_22 (by decide) ?_
      refine x_ldc2 (v := lN 99) dX8_hear_23 coX8_213 ?_
      refine x_cSi3 dX8_hear_26 lkX8_109 mdX8_in stX8_in (by decide) (c_inR z (by decide)) (Nat.le_of_ble_eq_true rfl) ⟨Nat.le_refl _, Nat.le_refl _⟩ ?_
      refine b_if_ne (tgt := 34) dX8_hear_29 (by decide) (fun c4 => ?_) (fun c4 => ?_)
      · have c4 : bR z 100 = true := c4
        refine x_aload_n dX8_hear_34 rfl ?_
        refine x_getf dX8_hear_35 flX8_58 mH_a rfl ?_
        refine x_bipush (v := nI 8) dX8_hear_38 (by decide) ?_
        refine m_iald dX8_hear_40 rfl (by simp only [mLen]; omega) (by decide) ?_
        refine x_bipush (v := nI 12) dX8_hear_41 (by decide) ?_
        refine n_icmp_ne (tgt := 49) dX8_hear_43 (by decide) (by omega) (by omega) (fun c3 => ?_) (fun c3 => ?_)
        · obtain ⟨p, hp, rfl⟩ := inR_of (bR_true.mp c1) (by omega)
          obtain ⟨q, hq, rfl⟩ := inR_of (bR_true.mp c2) (by decide)
          obtain ⟨w, hw, rfl⟩ := inR_of (bR_true.mp c4) (by decide)
          refine x_aload_n dX8_hear_49 rfl ?_
          refine x_iload_n dX8_hear_50 rfl ?_
          refine x_iload_n dX8_hear_51 rfl ?_
          refine x_iload_n dX8_hear_52 rfl ?_
          refine x_cVV3 dX8_hear_53 lkX8_209 mdX8_addAnswer isX8_addAnswer rfl rfl mH_a (by decide) (c_addAnswer hu (by omega)) (Nat.le_of_ble_eq_true rfl) ⟨Nat.le_refl _, Nat.le_refl _⟩ ?_
          rintro _ rfl
          refine x_aload_n dX8_hear_56 rfl ?_
          refine x_getf dX8_hear_57 flX8_58 mH_a rfl ?_
          refine x_bipush (v := nI 8) dX8_hear_60 (by decide) ?_
          refine m_iald dX8_hear_62 rfl (by simp only [mLen]; omega) (by decide) ?_
          refine x_iret dX8_hear_63 rfl rfl ⟨Nat.le_refl _, Nat.le_refl _⟩ ?_
          exact ⟨_, rfl, Or.inr (Or.inr ⟨by omega, p, q, w, ⟨hp, hq, hw⟩, ⟨rfl, rfl, rfl⟩, rfl, rfl⟩), rfl⟩
        · refine x_bipush (v := -3) dX8_hear_46 (by decide) ?_
          refine x_iret dX8_hear_48 rfl rfl ⟨Nat.le_refl _, Nat.le_refl _⟩ ?_
          exact ⟨_, rfl, Or.inr (Or.inl ⟨by rw [c1, c2, c4]; rfl, c3, rfl, rfl⟩), rfl⟩
      · have c4 : bR z 100 = false := c4
        refine x_iconst (v := -1) dX8_hear_32 (by decide) ?_
        refine x_iret dX8_hear_33 rfl rfl ⟨Nat.le_refl _, Nat.le_refl _⟩ ?_
        exact ⟨_, rfl, Or.inl ⟨by rw [c1, c2, c4]; rfl, rfl, rfl⟩, rfl⟩
def trC (S : Nat → Nat) : Nat := cdOf (S 0) (S 1) (S 2) (S 3)
theorem c_truth : zI G MX8_truth 1 [.ref a] (mH h0 a I A B) n (nI (trC (A 17))) := by
  refine zCt.of rfl (Nat.le_of_ble_eq_true rfl) rfl ?_
  refine x_aload_n dX8_truth_0 rfl ?_
  refine x_aload_n dX8_truth_1 rfl ?_
  refine x_getf dX8_truth_2 flX8_58 mH_a rfl ?_
  refine x_iconst (v := nI 0) dX8_truth_5 (by decide) ?_
  refine m_iald dX8_truth_6 rfl (by simp only [mLen]; omega) (by decide) ?_
  refine x_aload_n dX8_truth_7 rfl ?_
  refine x_getf dX8_truth_8 flX8_58 mH_a rfl ?_
  refine x_iconst (v := nI 1) dX8_truth_11 (by decide) ?_
  refine m_iald dX8_truth_12 rfl (by simp only [mLen]; omega) (by decide) ?_
  refine x_aload_n dX8_truth_13 rfl ?_
  refine x_getf dX8_truth_14 flX8_58 mH_a rfl ?_
  refine x_iconst (v := nI 2) dX8_truth_17 (by decide) ?_
  refine m_iald dX8_truth_18 rfl (by simp only [mLen]; omega) (by decide) ?_
  refine x_aload_n dX8_truth_19 rfl ?_
  refine x_getf dX8_truth_20 flX8_58 mH_a rfl ?_
  refine x_iconst (v := nI 3) dX8_truth_23 (by decide) ?_
  refine m_iald dX8_truth_24 rfl (by simp only [mLen]; omega) (by decide) ?_
  refine x_cVi4 dX8_truth_25 lkX8_162 mdX8_codeOf isX8_codeOf rfl rfl mH_a (by decide) (c_codeOf) (Nat.le_of_ble_eq_true rfl) ⟨Nat.le_refl _, Nat.le_refl _⟩ ?_
  refine x_iret dX8_truth_28 rfl rfl ⟨Nat.le_refl _, Nat.le_refl _⟩ ?_
  exact ⟨rfl, rfl, rfl⟩
/-- two parcels' sets changed -/
def chS (S : Nat → Nat) (p q : Nat) : Nat → Nat := fun x => if x = p then S p ^^^ (S p ^^^ S q) else if x = q then S q ^^^ (S p ^^^ S q) else S x
def chW (S : Nat → Nat) (p q : Nat) : Nat := (trC S ^^^ ((S p ^^^ S q) * 2 ^ (8 * p))) ^^^ ((S p ^^^ S q) * 2 ^ (8 * q))
theorem c_changeM {x y : Int32} (hk : tR A) (h1 : 1 ≤ A 7 0) (hu : I 20 ≤ 8) : zPi G MX8_change 3 [.ref a, .int x, .int y] (mH h0 a I A B) n (fun v h' => ((bR x (A 7 0) = false ∨ bR y (A 7 0) = false ∨ x = y) ∧ v = -1 ∧ h' = mH h0 a I A B) ∨ ∃ p q, (p < A 7 0 ∧ q < A 7 0 ∧ p ≠ q) ∧ (x = nI p ∧ y = nI q) ∧ ((¬ (A 10 p = A 10 q ∧ fairT (vw A 0) (chW (A 17) p q) = true) ∧ v = -2 ∧ h' = mH h0 a I A B) ∨ ((A 10 p = A 10 q ∧ fairT (vw A 0) (chW (A 17) p q) = true) ∧ v = nI (chS (A 17) p q p) ∧ h' = mH h0 a (va_up I 20 (ntU (I 20))) (va_up (va_up A 18 (ntB (A 18) (A 17) (I 20))) 17 (chS (A 17) p q)) B))) := by
  refine zCt.of rfl (Nat.le_of_ble_eq_true rfl) rfl ?_
  obtain ⟨k2, k7, k3, k4, k5, k6, k8⟩ := hk
  have e0 : ∀ k, (k = 2 ∨ k = 7 ∨ k = 12) → vw A 0 k 0 = A k 0 := by
    intro k hk; rcases hk with rfl | rfl | rfl <;> rfl
  have e5 : ∀ t, vw A 0 5 t = A 5 t := fun t => by show A 5 (8 * 0 + t) = _; rw [Nat.mul_zero, Nat.zero_add]
  have e9 : ∀ t, vw A 0 9 t = A 9 t := fun t => by show A 9 (4 * 0 + t) = _; rw [Nat.mul_zero, Nat.zero_add]
  have cf := fun w => c_isFair (G := G) (n := n) (h0 := h0) (a := a) (I := I) (A := A) (B := B) (w := w) (b := 0) (by decide) (by rw [e0 2 (by simp)]; exact k2) (by rw [e0 7 (by simp)]; exact k7) (fun t ht => by rw [e5]; rw [e0 2 (by simp)] at ht; exact (k3 t ht).2.2.1) (fun p hp => by rw [e9]; rw [e0 7 (by simp)] at hp; exact (k4 p hp).2.1) (by rw [e0 12 (by simp)]; exact k6)
  refine x_aload_n dX8_change_0 rfl ?_
  refine x_iload_n dX8_change_1 rfl ?_
  refine x_cVi1 dX8_change_2 lkX8_189 mdX8_isParcel isX8_isParcel rfl rfl mH_a (by decide) (c_isParcel h1 k7) (Nat.le_of_ble_eq_true rfl) ⟨Nat.le_refl _, Nat.le_refl _⟩ ?_
  refine b_if_eq (tgt := 21) dX8_change_5 (by decide) (fun c1 => ?_) (fun c1 => ?_)
  · refine x_iconst (v := -1) dX8_change_21 (by decide) ?_
    refine x_iret dX8_change_22 rfl rfl ⟨Nat.le_refl _, Nat.le_refl _⟩ ?_
    exact ⟨_, rfl, Or.inl ⟨Or.inl c1, rfl, rfl⟩, rfl⟩
  · refine x_aload_n dX8_change_8 rfl ?_
    refine x_iload_n dX8_change_9 rfl ?_
    refine x_cVi1 dX8_change_10 lkX8_189 mdX8_isParcel isX8_isParcel rfl rfl mH_a (by decide) (c_isParcel h1 k7) (Nat.le_of_ble_eq_true rfl) ⟨Nat.le_refl _, Nat.le_refl _⟩ ?_
    refine b_if_eq (tgt := 21) dX8_change_13 (by decide) (fun c2 => ?_) (fun c2 => ?_)
    · refine x_iconst (v := -1) dX8_change_21 (by decide) ?_
      refine x_iret dX8_change_22 rfl rfl ⟨Nat.le_refl _, Nat.le_refl _⟩ ?_
      exact ⟨_, rfl, Or.inl ⟨Or.inr (Or.inl c2), rfl, rfl⟩, rfl⟩
    · refine x_iload_n dX8_change_16 rfl ?_
      refine x_iload_n dX8_change_17 rfl ?_
      refine x_icmp_ne (tgt := 23) dX8_change_18 (by decide) (fun c3 => ?_) (fun c3 => ?_)
      · obtain ⟨p, hp, rfl⟩ := inR_of (bR_true.mp c1) (by omega)
        obtain ⟨q, hq, rfl⟩ := inR_of (bR_true.mp c2) (by omega)
        have hpq : p ≠ q := fun z => c3 (by rw [z])
        have h10 := k4 p hp
        have h10q := k4 q hq
        refine x_aload_n dX8_change_23 rfl ?_
        refine x_getf dX8_change_24 flX8_58 mH_a rfl ?_
        refine x_iload_n dX8_change_27 rfl ?_
        refine m_iald dX8_change_28 rfl (by simp only [mLen]; omega) (by decide) ?_
        refine x_aload_n dX8_change_29 rfl ?_
        refine x_getf dX8_change_30 flX8_58 mH_a rfl ?_
        refine x_iload_n dX8_change_33 rfl ?_
        refine m_iald dX8_change_34 rfl (by simp only [mLen]; omega) (by decide) ?_
        refine n_ixor dX8_change_35 ?_
        refine x_is3 dX8_change_36 (by decide) rfl ?_
        refine x_aload_n dX8_change_37 rfl ?_
        refine x_cVi0 dX8_change_38 lkX8_215 mdX8_truth isX8_truth rfl rfl mH_a (by decide) (c_truth) (Nat.le_of_ble_eq_true rfl) ⟨Nat.le_refl _, Nat.le_refl _⟩ ?_
        refine x_iload_n dX8_change_41 rfl ?_
        refine x_bipush (v := nI 8) dX8_change_42 (by decide) ?_
        refine x_iload_n dX8_change_44 rfl ?_
        refine n_imul dX8_change_45 ?_
        refine n_ishl dX8_change_46 (by omega) ?_
        refine n_ixor dX8_change_47 ?_
        refine x_iload_n dX8_change_48 rfl ?_
        refine x_bipush (v := nI 8) dX8_change_49 (by decide) ?_
        refine x_iload_n dX8_change_51 rfl ?_
        refine n_imul dX8_change_52 ?_
        refine n_ishl dX8_change_53 (by omega) ?_
        refine n_ixor dX8_change_54 ?_
        refine x_is4 dX8_change_55 (by decide) rfl ?_
        refine x_aload_n dX8_change_57 rfl ?_
        refine x_getf dX8_change_58 flX8_37 mH_a rfl ?_
        refine x_iload_n dX8_change_61 rfl ?_
        refine m_iald dX8_change_62 rfl (by simp only [mLen]; omega) (by decide) ?_
        refine x_aload_n dX8_change_63 rfl ?_
        refine x_getf dX8_change_64 flX8_37 mH_a rfl ?_
        refine x_iload_n dX8_change_67 rfl ?_
        refine m_iald dX8_change_68 rfl (by simp only [mLen]; omega) (by decide) ?_
        refine n_icmp_ne (tgt := 82) dX8_change_69 (by decide) (by omega) (by omega) (fun c4 => ?_) (fun c4 => ?_)
        · refine x_bipush (v := -2) dX8_change_82 (by decide) ?_
          refine x_iret dX8_change_84 rfl rfl ⟨Nat.le_refl _, Nat.le_refl _⟩ ?_
          exact ⟨_, rfl, Or.inr ⟨p, q, ⟨hp, hq, hpq⟩, ⟨rfl, rfl⟩, Or.inl ⟨fun z => c4 z.1, rfl, rfl⟩⟩, rfl⟩
        · refine x_aload_n dX8_change_72 rfl ?_
          refine x_iconst (v := nI 0) dX8_change_73 (by decide) ?_
          refine x_iload dX8_change_74 rfl ?_
          refine x_cVi2 dX8_change_76 lkX8_166 mdX8_isFair isX8_isFair rfl rfl mH_a (by decide) (cf _) (Nat.le_of_ble_eq_true rfl) ⟨Nat.le_refl _, Nat.le_refl _⟩ ?_
          refine b_if_ne (tgt := 85) dX8_change_79 (by decide) (fun c5 => ?_) (fun c5 => ?_)
          · refine x_aload_n dX8_change_85 rfl ?_
            refine x_cVV0 dX8_change_86 lkX8_206 mdX8_note isX8_note rfl rfl mH_a (by decide) (c_note hu) (Nat.le_of_ble_eq_true rfl) ⟨Nat.le_refl _, Nat.le_refl _⟩ ?_
            rintro _ rfl
            refine x_aload_n dX8_change_89 rfl ?_
            refine x_getf dX8_change_90 flX8_58 mH_a rfl ?_
            refine x_iload_n dX8_change_93 rfl ?_
            refine x_dup2_11 dX8_change_94 rfl rfl ?_
            refine m_iald dX8_change_95 rfl (by simp only [mLen]; omega) (by decide) ?_
            refine x_iload_n dX8_change_96 rfl ?_
            refine n_ixor dX8_change_97 ?_
            refine m_iast dX8_change_98 rfl (by simp only [mLen]; omega) (by decide) ?_
            refine x_aload_n dX8_change_99 rfl ?_
            refine x_getf dX8_change_100 flX8_58 mH_a rfl ?_
            refine x_iload_n dX8_change_103 rfl ?_
            refine x_dup2_11 dX8_change_104 rfl rfl ?_
            refine m_iald dX8_change_105 rfl (by simp only [mLen]; omega) (by decide) ?_
            refine x_iload_n dX8_change_106 rfl ?_
            refine n_ixor dX8_change_107 ?_
            refine m_iast dX8_change_108 rfl (by simp only [mLen]; omega) (by decide) ?_
            refine x_aload_n dX8_change_109 rfl ?_
            refine x_getf dX8_change_110 flX8_58 mH_a rfl ?_
            refine x_iload_n dX8_change_113 rfl ?_
            refine m_iald dX8_change_114 rfl (by simp only [mLen]; omega) (by decide) ?_
            refine x_iret dX8_change_115 rfl rfl ⟨Nat.le_refl _, Nat.le_refl _⟩ ?_
            refine ⟨_, rfl, Or.inr ⟨p, q, ⟨hp, hq, hpq⟩, ⟨rfl, rfl⟩, Or.inr ⟨⟨c4, c5⟩, ?_, ?_⟩⟩, rfl⟩
            · congr 1
              simp only [va_up, ite_app, chS]; grind
            · congr 1
              funext k j; simp only [va_up, ite_app, chS]; grind
          · have c5 : fairT (vw A 0) (chW (A 17) p q) = false := c5
            refine x_bipush (v := -2) dX8_change_82 (by decide) ?_
            refine x_iret dX8_change_84 rfl rfl ⟨Nat.le_refl _, Nat.le_refl _⟩ ?_
            exact ⟨_, rfl, Or.inr ⟨p, q, ⟨hp, hq, hpq⟩, ⟨rfl, rfl⟩, Or.inl ⟨fun z => absurd (c5.symm.trans z.2) (by decide), rfl, rfl⟩⟩, rfl⟩
      · refine x_iconst (v := -1) dX8_change_21 (by decide) ?_
        refine x_iret dX8_change_22 rfl rfl ⟨Nat.le_refl _, Nat.le_refl _⟩ ?_
        exact ⟨_, rfl, Or.inl ⟨Or.inr (Or.inr c3), rfl, rfl⟩, rfl⟩
theorem c_hideM {x y : Int32} (h1 : 1 ≤ A 7 0) (k7 : A 7 0 ≤ 4) (hu : I 20 ≤ 8) : zPi G MX8_hide 2 [.ref a, .int x, .int y] (mH h0 a I A B) n (fun v h' => ((bR x (A 7 0) && bR y 10) = false ∧ v = -1 ∧ h' = mH h0 a I A B) ∨ ∃ p w, (p < A 7 0 ∧ w < 10) ∧ (x = nI p ∧ y = nI w) ∧ v = nI (A 17 (4 + p)) ∧ h' = mH h0 a (va_up I 20 (ntU (I 20))) (va_up (va_up A 18 (ntB (A 18) (A 17) (I 20))) 17 (va_up (A 17) (4 + p) w)) B) := by
  refine zCt.of rfl (Nat.le_of_ble_eq_true rfl) rfl ?_
  refine x_aload_n dX8_hide_0 rfl ?_
  refine x_iload_n dX8_hide_1 rfl ?_
  refine x_cVi1 dX8_hide_2 lkX8_189 mdX8_isParcel isX8_isParcel rfl rfl mH_a (by decide) (c_isParcel h1 k7) (Nat.le_of_ble_eq_true rfl) ⟨Nat.le_refl _, Nat.le_refl _⟩ ?_
  refine b_if_eq (tgt := 20) dX8_hide_5 (by decide) (fun c1 => ?_) (fun c1 => ?_)
  · refine x_iconst (v := -1) dX8_hide_20 (by decide) ?_
    refine x_iret dX8_hide_21 rfl rfl ⟨Nat.le_refl _, Nat.le_refl _⟩ ?_
    exact ⟨_, rfl, Or.inl ⟨by rw [c1]; rfl, rfl, rfl⟩, rfl⟩
  · refine x_iload_n dX8_hide_8 rfl ?_
    refine x_i2l dX8_hide_9 rfl ?_
    refine x_lconst (v := lN 0) dX8_hide_10 (by decide) ?_
    refine x_ldc2 (v := lN 9) dX8_hide_11 coX8_132 ?_
    refine x_cSi3 dX8_hide_14 lkX8_109 mdX8_in stX8_in (by decide) (c_inR y (by decide)) (Nat.le_of_ble_eq_true rfl) ⟨Nat.le_refl _, Nat.le_refl _⟩ ?_
    refine b_if_ne (tgt := 22) dX8_hide_17 (by decide) (fun c2 => ?_) (fun c2 => ?_)
    · have c2 : bR y 10 = true := c2
      obtain ⟨p, hp, rfl⟩ := inR_of (bR_true.mp c1) (by omega)
      obtain ⟨w, hw, rfl⟩ := inR_of (bR_true.mp c2) (by decide)
      refine x_aload_n dX8_hide_22 rfl ?_
      refine x_getf dX8_hide_23 flX8_58 mH_a rfl ?_
      refine x_iconst (v := nI 4) dX8_hide_26 (by decide) ?_
      refine x_iload_n dX8_hide_27 rfl ?_
      refine n_iadd dX8_hide_28 ?_
      refine m_iald dX8_hide_29 rfl (by simp only [mLen]; omega) (by decide) ?_
      refine x_is3 dX8_hide_30 (by decide) rfl ?_
      refine x_aload_n dX8_hide_31 rfl ?_
      refine x_cVV0 dX8_hide_32 lkX8_206 mdX8_note isX8_note rfl rfl mH_a (by decide) (c_note hu) (Nat.le_of_ble_eq_true rfl) ⟨Nat.le_refl _, Nat.le_refl _⟩ ?_
      rintro _ rfl
      refine x_aload_n dX8_hide_35 rfl ?_
      refine x_getf dX8_hide_36 flX8_58 mH_a rfl ?_
      refine x_iconst (v := nI 4) dX8_hide_39 (by decide) ?_
      refine x_iload_n dX8_hide_40 rfl ?_
      refine n_iadd dX8_hide_41 ?_
      refine x_iload_n dX8_hide_42 rfl ?_
      refine m_iast dX8_hide_43 rfl (by simp only [mLen]; omega) (by decide) ?_
      refine x_iload_n dX8_hide_44 rfl ?_
      refine x_iret dX8_hide_45 rfl rfl ⟨Nat.le_refl _, Nat.le_refl _⟩ ?_
      exact ⟨_, rfl, Or.inr ⟨p, w, ⟨hp, hw⟩, ⟨rfl, rfl⟩, rfl, rfl⟩, rfl⟩
    · have c2 : bR y 10 = false := c2
      refine x_iconst (v := -1) dX8_hide_20 (by decide) ?_
      refine x_iret dX8_hide_21 rfl rfl ⟨Nat.le_refl _, Nat.le_refl _⟩ ?_
      exact ⟨_, rfl, Or.inl ⟨by rw [c1, c2]; rfl, rfl, rfl⟩, rfl⟩
/-- a kept block is the scene again -/
def blk (bf nw : Nat → Nat) (u i : Nat) : Nat → Nat := fun x => if x < i then bf (21 * u + x) else nw x
theorem c_undoM (hu : I 20 ≤ 8) : zPi G MX8_undo 0 [.ref a] (mH h0 a I A B) n (fun v h' => (I 20 = 0 ∧ v = -2 ∧ h' = mH h0 a I A B) ∨ (0 < I 20 ∧ v = nI (I 20 - 1) ∧ h' = mH h0 a (va_up I 20 (I 20 - 1)) (va_up A 17 (blk (A 18) (A 17) (I 20 - 1) 21)) B)) := by
  refine zCt.of rfl (Nat.le_of_ble_eq_true rfl) rfl ?_
  refine x_aload_n dX8_undo_0 rfl ?_
  refine x_getf dX8_undo_1 flX8_175 mH_a rfl ?_
  refine n_if_ne (tgt := 10) dX8_undo_4 (by decide) (by omega) (fun c1 => ?_) (fun c1 => ?_)
  · refine x_aload_n dX8_undo_10 rfl ?_
    refine x_dup dX8_undo_11 rfl ?_
    refine x_getf dX8_undo_12 flX8_175 mH_a rfl ?_
    refine x_iconst (v := nI 1) dX8_undo_15 (by decide) ?_
    refine n_isub dX8_undo_16 (by omega) ?_
    refine m_put dX8_undo_17 flX8_175 ftX8_20 (by simp [mFs]) rfl ?_
    refine x_iconst (v := nI 0) dX8_undo_20 (by decide) ?_
    refine x_is1 dX8_undo_21 (by decide) rfl ?_
    refine x_eqA (A' := va_up A 17 (blk (A 18) (A 17) (I 20 - 1) 0)) (by funext k j; simp only [va_up, ite_app, blk]; grind) ?_
    refine z_up 21 (P := fun i => zEx G MX8_undo 0 0 0 22 [some (.ref a), some (.int (nI i))] [] (mH h0 a (va_up I 20 (I 20 - 1)) (va_up A 17 (blk (A 18) (A 17) (I 20 - 1) i)) B) n (0, 0) _) ?_ 0 (by decide)
    intro i hi ih
    refine x_iload_n dX8_undo_22 rfl ?_
    refine x_bipush (v := nI 21) dX8_undo_23 (by decide) ?_
    refine n_icmp_ge (tgt := 54) dX8_undo_25 (by decide) (by omega) (by omega) (fun hc => ?_) (fun hc => ?_)
    · have hi : i = 21 := by omega
      subst hi
      refine x_aload_n dX8_undo_54 rfl ?_
      refine x_getf (v := .int (nI (I 20 - 1))) dX8_undo_55 flX8_175 mH_a rfl ?_
      refine x_iret dX8_undo_58 rfl rfl ⟨Nat.le_refl _, Nat.le_refl _⟩ ?_
      exact ⟨_, rfl, Or.inr ⟨by omega, rfl, rfl⟩, rfl⟩
    · refine x_aload_n dX8_undo_28 rfl ?_
      refine x_getf dX8_undo_29 flX8_58 mH_a rfl ?_
      refine x_iload_n dX8_undo_32 rfl ?_
      refine x_aload_n dX8_undo_33 rfl ?_
      refine x_getf dX8_undo_34 flX8_61 mH_a rfl ?_
      refine x_bipush (v := nI 21) dX8_undo_37 (by decide) ?_
      refine x_aload_n dX8_undo_39 rfl ?_
      refine x_getf (v := .int (nI (I 20 - 1))) dX8_undo_40 flX8_175 mH_a rfl ?_
      refine n_imul dX8_undo_43 ?_
      refine x_iload_n dX8_undo_44 rfl ?_
      refine n_iadd dX8_undo_45 ?_
      refine m_iald dX8_undo_46 rfl (by simp only [mLen]; omega) (by decide) ?_
      refine m_iast dX8_undo_47 rfl (by simp only [mLen]; omega) (by decide) ?_
      refine n_ii1 (w := 1) dX8_undo_48 (by decide) (by decide) rfl ?_
      refine x_goto (tgt := 22) dX8_undo_51 (by decide) ?_
      exact x_eqA (by funext k j; simp only [va_up, ite_app, blk]; grind) (ih (by omega))
  · refine x_bipush (v := -2) dX8_undo_7 (by decide) ?_
    refine x_iret dX8_undo_9 rfl rfl ⟨Nat.le_refl _, Nat.le_refl _⟩ ?_
    exact ⟨_, rfl, Or.inl ⟨c1, rfl, rfl⟩, rfl⟩
def kpB (bf nw : Nat → Nat) (u i : Nat) : Nat → Nat := fun x => if 21 * u ≤ x ∧ x < 21 * u + i then nw (x - 21 * u) else bf x
theorem c_keepM (hu : I 22 ≤ 2) : zPi G MX8_keep 0 [.ref a] (mH h0 a I A B) n (fun v h' => (I 22 = 2 ∧ v = -3 ∧ h' = mH h0 a I A B) ∨ (I 22 < 2 ∧ v = nI (I 22 + 1) ∧ h' = mH h0 a (va_up I 22 (I 22 + 1)) (va_up A 19 (kpB (A 19) (A 17) (I 22) 21)) B)) := by
  refine zCt.of rfl (Nat.le_of_ble_eq_true rfl) rfl ?_
  refine x_aload_n dX8_keep_0 rfl ?_
  refine x_getf dX8_keep_1 flX8_178 mH_a rfl ?_
  refine x_iconst (v := nI 2) dX8_keep_4 (by decide) ?_
  refine n_icmp_ne (tgt := 11) dX8_keep_5 (by decide) (by omega) (by omega) (fun c1 => ?_) (fun c1 => ?_)
  · refine x_iconst (v := nI 0) dX8_keep_11 (by decide) ?_
    refine x_is1 dX8_keep_12 (by decide) rfl ?_
    refine x_eqA (A' := va_up A 19 (kpB (A 19) (A 17) (I 22) 0)) (by funext k j; simp only [va_up, ite_app, kpB]; grind) ?_
    refine z_up 21 (P := fun i => zEx G MX8_keep 0 0 0 13 [some (.ref a), some (.int (nI i))] [] (mH h0 a I (va_up A 19 (kpB (A 19) (A 17) (I 22) i)) B) n (0, 0) _) ?_ 0 (by decide)
    intro i hi ih
    refine x_iload_n dX8_keep_13 rfl ?_
    refine x_bipush (v := nI 21) dX8_keep_14 (by decide) ?_
    refine n_icmp_ge (tgt := 45) dX8_keep_16 (by decide) (by omega) (by omega) (fun hc => ?_) (fun hc => ?_)
    · have hi : i = 21 := by omega
      subst hi
      refine x_aload_n dX8_keep_45 rfl ?_
      refine x_dup dX8_keep_46 rfl ?_
      refine x_getf dX8_keep_47 flX8_178 mH_a rfl ?_
      refine x_iconst (v := nI 1) dX8_keep_50 (by decide) ?_
      refine n_iadd dX8_keep_51 ?_
      refine m_put dX8_keep_52 flX8_178 ftX8_22 (by simp [mFs]) rfl ?_
      refine x_aload_n dX8_keep_55 rfl ?_
      refine x_getf (v := .int (nI (I 22 + 1))) dX8_keep_56 flX8_178 mH_a rfl ?_
      refine x_iret dX8_keep_59 rfl rfl ⟨Nat.le_refl _, Nat.le_refl _⟩ ?_
      exact ⟨_, rfl, Or.inr ⟨by omega, rfl, rfl⟩, rfl⟩
    · refine x_aload_n dX8_keep_19 rfl ?_
      refine x_getf dX8_keep_20 flX8_64 mH_a rfl ?_
      refine x_bipush (v := nI 21) dX8_keep_23 (by decide) ?_
      refine x_aload_n dX8_keep_25 rfl ?_
      refine x_getf dX8_keep_26 flX8_178 mH_a rfl ?_
      refine n_imul dX8_keep_29 ?_
      refine x_iload_n dX8_keep_30 rfl ?_
      refine n_iadd dX8_keep_31 ?_
      refine x_aload_n dX8_keep_32 rfl ?_
      refine x_getf dX8_keep_33 flX8_58 mH_a rfl ?_
      refine x_iload_n dX8_keep_36 rfl ?_
      refine m_iald dX8_keep_37 rfl (by simp only [mLen]; omega) (by decide) ?_
      refine m_iast dX8_keep_38 rfl (by simp only [mLen]; omega) (by decide) ?_
      refine n_ii1 (w := 1) dX8_keep_39 (by decide) (by decide) rfl ?_
      refine x_goto (tgt := 13) dX8_keep_42 (by decide) ?_
      exact x_eqA (by funext k j; simp only [va_up, ite_app, kpB]; grind) (ih (by omega))
  · refine x_bipush (v := -3) dX8_keep_8 (by decide) ?_
    refine x_iret dX8_keep_10 rfl rfl ⟨Nat.le_refl _, Nat.le_refl _⟩ ?_
    exact ⟨_, rfl, Or.inl ⟨c1, rfl, rfl⟩, rfl⟩
theorem c_backM (hu : I 22 ≤ 2) : zPi G MX8_back 0 [.ref a] (mH h0 a I A B) n (fun v h' => (I 22 = 0 ∧ v = -2 ∧ h' = mH h0 a I A B) ∨ (0 < I 22 ∧ v = nI (I 22 - 1) ∧ h' = mH h0 a (va_up (va_up I 22 (I 22 - 1)) 20 0) (va_up A 17 (blk (A 19) (A 17) (I 22 - 1) 21)) B)) := by
  refine zCt.of rfl (Nat.le_of_ble_eq_true rfl) rfl ?_
  refine x_aload_n dX8_back_0 rfl ?_
  refine x_getf dX8_back_1 flX8_178 mH_a rfl ?_
  refine n_if_ne (tgt := 10) dX8_back_4 (by decide) (by omega) (fun c1 => ?_) (fun c1 => ?_)
  · refine x_aload_n dX8_back_10 rfl ?_
    refine x_dup dX8_back_11 rfl ?_
    refine x_getf dX8_back_12 flX8_178 mH_a rfl ?_
    refine x_iconst (v := nI 1) dX8_back_15 (by decide) ?_
    refine n_isub dX8_back_16 (by omega) ?_
    refine m_put dX8_back_17 flX8_178 ftX8_22 (by simp [mFs]) rfl ?_
    refine x_iconst (v := nI 0) dX8_back_20 (by decide) ?_
    refine x_is1 dX8_back_21 (by decide) rfl ?_
    refine x_eqA (A' := va_up A 17 (blk (A 19) (A 17) (I 22 - 1) 0)) (by funext k j; simp only [va_up, ite_app, blk]; grind) ?_
    refine z_up 21 (P := fun i => zEx G MX8_back 0 0 0 22 [some (.ref a), some (.int (nI i))] [] (mH h0 a (va_up I 22 (I 22 - 1)) (va_up A 17 (blk (A 19) (A 17) (I 22 - 1) i)) B) n (0, 0) _) ?_ 0 (by decide)
    intro i hi ih
    refine x_iload_n dX8_back_22 rfl ?_
    refine x_bipush (v := nI 21) dX8_back_23 (by decide) ?_
    refine n_icmp_ge (tgt := 54) dX8_back_25 (by decide) (by omega) (by omega) (fun hc => ?_) (fun hc => ?_)
    · have hi : i = 21 := by omega
      subst hi
      refine x_aload_n dX8_back_54 rfl ?_
      refine x_iconst (v := nI 0) dX8_back_55 (by decide) ?_
      refine m_put dX8_back_56 flX8_175 ftX8_20 (by simp [mFs]) rfl ?_
      refine x_aload_n dX8_back_59 rfl ?_
      refine x_getf (v := .int (nI (I 22 - 1))) dX8_back_60 flX8_178 mH_a rfl ?_
      refine x_iret dX8_back_63 rfl rfl ⟨Nat.le_refl _, Nat.le_refl _⟩ ?_
      exact ⟨_, rfl, Or.inr ⟨by omega, rfl, rfl⟩, rfl⟩
    · refine x_aload_n dX8_back_28 rfl ?_
      refine x_getf dX8_back_29 flX8_58 mH_a rfl ?_
      refine x_iload_n dX8_back_32 rfl ?_
      refine x_aload_n dX8_back_33 rfl ?_
      refine x_getf dX8_back_34 flX8_64 mH_a rfl ?_
      refine x_bipush (v := nI 21) dX8_back_37 (by decide) ?_
      refine x_aload_n dX8_back_39 rfl ?_
      refine x_getf (v := .int (nI (I 22 - 1))) dX8_back_40 flX8_178 mH_a rfl ?_
      refine n_imul dX8_back_43 ?_
      refine x_iload_n dX8_back_44 rfl ?_
      refine n_iadd dX8_back_45 ?_
      refine m_iald dX8_back_46 rfl (by simp only [mLen]; omega) (by decide) ?_
      refine m_iast dX8_back_47 rfl (by simp only [mLen]; omega) (by decide) ?_
      refine n_ii1 (w := 1) dX8_back_48 (by decide) (by decide) rfl ?_
      refine x_goto (tgt := 22) dX8_back_51 (by decide) ?_
      exact x_eqA (by funext k j; simp only [va_up, ite_app, blk]; grind) (ih (by omega))
  · refine x_bipush (v := -2) dX8_back_7 (by decide) ?_
    refine x_iret dX8_back_9 rfl rfl ⟨Nat.le_refl _, Nat.le_refl _⟩ ?_
    exact ⟨_, rfl, Or.inl ⟨c1, rfl, rfl⟩, rfl⟩
def sCount (I : Nat → Nat) (A : Nat → Nat → Nat) : Nat → Int32
  | 0 => nI (A 2 0)
  | 1 => nI (A 7 0)
  | 2 => nI (I 17)
  | 3 => nI (A 17 8)
  | 4 => nI (I 20)
  | 5 => nI (I 22)
  | _ => nI (I 0)
def fCount (I : Nat → Nat) (A : Nat → Nat → Nat) (x : Int32) : Int32 := if bR x 7 then sCount I A x.toNatClampNeg else -1
theorem c_countM {x : Int32} : zI G MX8_count 0 [.ref a, .int x] (mH h0 a I A B) n (fCount I A x) := by
  refine zCt.of rfl (Nat.le_of_ble_eq_true rfl) rfl ?_
  refine x_iload_n dX8_count_0 rfl ?_
  by_cases c1 : bR x 7 = true
  · obtain ⟨w, hw, rfl⟩ := inR_of (bR_true.mp c1) (by decide)
    have ef : fCount I A (nI w) = sCount I A w := by unfold fCount; rw [if_pos c1, nI_clamp (by omega)]
    rw [ef]
    rcases (show w = 0 ∨ w = 1 ∨ w = 2 ∨ w = 3 ∨ w = 4 ∨ w = 5 ∨ w = 6 by omega) with rfl | rfl | rfl | rfl | rfl | rfl | rfl
    · refine n_tsw (off := 43) (tgt := 44) dX8_count_1 (by decide) (by decide +kernel) (by decide) ?_
      refine x_aload_n dX8_count_44 rfl ?_
      refine x_getf dX8_count_45 flX8_13 mH_a rfl ?_
      refine x_iconst (v := nI 0) dX8_count_48 (by decide) ?_
      refine m_iald dX8_count_49 rfl (by simp only [mLen]; omega) (by decide) ?_
      refine x_iret dX8_count_50 rfl rfl ⟨Nat.le_refl _, Nat.le_refl _⟩ ?_
      exact ⟨rfl, rfl, rfl⟩
    · refine n_tsw (off := 50) (tgt := 51) dX8_count_1 (by decide) (by decide +kernel) (by decide) ?_
      refine x_aload_n dX8_count_51 rfl ?_
      refine x_getf dX8_count_52 flX8_28 mH_a rfl ?_
      refine x_iconst (v := nI 0) dX8_count_55 (by decide) ?_
      refine m_iald dX8_count_56 rfl (by simp only [mLen]; omega) (by decide) ?_
      refine x_iret dX8_count_57 rfl rfl ⟨Nat.le_refl _, Nat.le_refl _⟩ ?_
      exact ⟨rfl, rfl, rfl⟩
    · refine n_tsw (off := 57) (tgt := 58) dX8_count_1 (by decide) (by decide +kernel) (by decide) ?_
      refine x_aload_n dX8_count_58 rfl ?_
      refine x_getf dX8_count_59 flX8_172 mH_a rfl ?_
      refine x_iret dX8_count_62 rfl rfl ⟨Nat.le_refl _, Nat.le_refl _⟩ ?_
      exact ⟨rfl, rfl, rfl⟩
    · refine n_tsw (off := 62) (tgt := 63) dX8_count_1 (by decide) (by decide +kernel) (by decide) ?_
      refine x_aload_n dX8_count_63 rfl ?_
      refine x_getf dX8_count_64 flX8_58 mH_a rfl ?_
      refine x_bipush (v := nI 8) dX8_count_67 (by decide) ?_
      refine m_iald dX8_count_69 rfl (by simp only [mLen]; omega) (by decide) ?_
      refine x_iret dX8_count_70 rfl rfl ⟨Nat.le_refl _, Nat.le_refl _⟩ ?_
      exact ⟨rfl, rfl, rfl⟩
    · refine n_tsw (off := 70) (tgt := 71) dX8_count_1 (by decide) (by decide +kernel) (by decide) ?_
      refine x_aload_n dX8_count_71 rfl ?_
      refine x_getf dX8_count_72 flX8_175 mH_a rfl ?_
      refine x_iret dX8_count_75 rfl rfl ⟨Nat.le_refl _, Nat.le_refl _⟩ ?_
      exact ⟨rfl, rfl, rfl⟩
    · refine n_tsw (off := 75) (tgt := 76) dX8_count_1 (by decide) (by decide +kernel) (by decide) ?_
      refine x_aload_n dX8_count_76 rfl ?_
      refine x_getf dX8_count_77 flX8_178 mH_a rfl ?_
      refine x_iret dX8_count_80 rfl rfl ⟨Nat.le_refl _, Nat.le_refl _⟩ ?_
      exact ⟨rfl, rfl, rfl⟩
    · refine n_tsw (off := 80) (tgt := 81) dX8_count_1 (by decide) (by decide +kernel) (by decide) ?_
      refine x_aload_n dX8_count_81 rfl ?_
      refine x_getf dX8_count_82 flX8_113 mH_a rfl ?_
      refine x_iret dX8_count_85 rfl rfl ⟨Nat.le_refl _, Nat.le_refl _⟩ ?_
      exact ⟨rfl, rfl, rfl⟩
  · have hno : ¬ inR x 7 := fun z => c1 (bR_true.mpr z)
    refine x_tsw (off := 85) (tgt := 86) dX8_count_1 (by unfold zsw; rw [if_pos (by unfold inR at hno; omega)]) (by decide) ?_
    refine x_iconst (v := -1) dX8_count_86 (by decide) ?_
    refine x_iret dX8_count_87 rfl rfl ⟨Nat.le_refl _, Nat.le_refl _⟩ ?_
    exact ⟨by unfold fCount; rw [if_neg c1], rfl, rfl⟩
end ZM11
