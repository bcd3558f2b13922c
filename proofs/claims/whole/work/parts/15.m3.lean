abbrev zT : Type := Nat → Nat → Nat
def fig (c : Nat) : Bool := decide (48 ≤ c ∧ c ≤ 57)
def dgs (L : Nat → Nat) (s : Nat) : Nat := if fig (L s) then (if fig (L (s + 1)) then (if fig (L (s + 2)) then 3 else 2) else 1) else 0
def dval (L : Nat → Nat) (s : Nat) : Nat → Nat
  | 0 => 0
  | f + 1 => 10 * dval L s f + L (s + f) - 48
def figL (L : Nat → Nat) : Nat → Nat → Option (Nat × List Nat)
  | 0, s => some (s, [])
  | r + 1, s => if (1 ≤ dgs L s ∧ dgs L s ≤ 2) ∧ L (s + dgs L s) = (if r = 0 then 59 else 44) then (figL L r (s + dgs L s + 1)).map (fun q => (q.1, dval L s (dgs L s) :: q.2)) else none
theorem up_up {α : Type} (f : Nat → α) (k : Nat) (x y : α) : va_up (va_up f k x) k y = va_up f k y := by
  funext j; unfold va_up; by_cases h : j = k <;> simp [h]
theorem up_self {α : Type} (f : Nat → α) (k : Nat) : va_up f k (f k) = f := by
  funext j; unfold va_up; by_cases h : j = k <;> simp [h]
theorem up_eq {α : Type} (f : Nat → α) (k : Nat) (x : α) : va_up f k x k = x := if_pos rfl
theorem up_ne {α : Type} (f : Nat → α) {k j : Nat} (x : α) (h : j ≠ k) : va_up f k x j = f j := if_neg h
section ZM4
variable {G : zG} {n : Nat} {h0 : zF} {a : Nat} {I : Nat → Nat} {A : Nat → Nat → Nat} {B : Nat → Nat}
theorem c_ltr {j s : Nat} {tl : Nat → Nat} (hj : j < 2 ^ 31) (hl : I 0 ≤ 200) : zI G MX8_letterAt 0 [.ref a, .int (nI j)] (mH h0 a (va_up I 23 s) (va_up A 20 tl) B) n (nI (ltr I A j)) := c_letterAt (I := va_up I 23 s) (A := va_up A 20 tl) hj hl
theorem c_figures {m s : Nat} (hm : m ≤ 4) (hl : I 0 ≤ 200) (hs : s < 100000) (hL : ∀ j, ltr I A j < 128) (ht : ∀ j, A 20 j < 1000) : zPi G MX8_figures 1 [.ref a, .int (nI m)] (mH h0 a (va_up I 23 s) A B) n (fun v h' => ∃ s' tl, h' = mH h0 a (va_up I 23 s') (va_up A 20 tl) B ∧ (∀ j, tl j < 1000) ∧ match figL (ltr I A) m s with | some q => v = nI 1 ∧ s' = q.1 ∧ ∀ j, j < m → tl j = q.2.getD j 0 | none => v = nI 0) := by
  refine zCt.of rfl (Nat.le_of_ble_eq_true rfl) rfl ?_
  refine x_iconst (v := nI 0) dX8_figures_0 (by decide) ?_
  refine x_is2 dX8_figures_1 (by decide) rfl ?_
  refine x_eqA (A' := va_up A 20 (A 20)) (up_self A 20).symm ?_
  have loop : ∀ (r k s : Nat) (tl : Nat → Nat) (o3 o4 : Option Value), r + k = m → s < 100000 + 4 * k → (∀ j, tl j < 1000) → zEx G MX8_figures 1 0 0 2 [some (.ref a), some (.int (nI m)), some (.int (nI k)), o3, o4] [] (mH h0 a (va_up I 23 s) (va_up A 20 tl) B) n (0, 0) (fun r1 h' n' => ∃ v, r1 = some (.int v) ∧ (∃ s' tl', h' = mH h0 a (va_up I 23 s') (va_up A 20 tl') B ∧ (∀ j, tl' j < 1000) ∧ match figL (ltr I A) r s with | some q => v = nI 1 ∧ s' = q.1 ∧ (∀ j, j < r → tl' (k + j) = q.2.getD j 0) ∧ ∀ j, j < k → tl' j = tl j | none => v = nI 0) ∧ n' = n) := by
    intro r
    induction r with
    | zero =>
      intro k s tl o3 o4 hrk hs ht
      refine x_iload_n dX8_figures_2 rfl ?_
      refine x_iload_n dX8_figures_3 rfl ?_
      refine n_icmp_ge (tgt := 136) dX8_figures_4 (by decide) (by omega) (by omega) (fun hc => ?_) (fun hc => ?_)
      · refine x_iconst (v := nI 1) dX8_figures_136 (by decide) ?_
        refine x_iret dX8_figures_137 rfl rfl ⟨Nat.le_refl _, Nat.le_refl _⟩ ?_
        exact ⟨_, rfl, ⟨s, tl, rfl, ht, rfl, rfl, fun j hj => absurd hj (by omega), fun j hj => rfl⟩, rfl⟩
      · exact absurd hrk (by omega)
    | succ r ih =>
      intro k s tl o3 o4 hrk hs ht
      refine x_iload_n dX8_figures_2 rfl ?_
      refine x_iload_n dX8_figures_3 rfl ?_
      refine n_icmp_ge (tgt := 136) dX8_figures_4 (by decide) (by omega) (by omega) (fun hc => ?_) (fun hc => ?_)
      · exact absurd hrk (by omega)
      · have K73 : ∀ f, f ≤ 3 → dgs (ltr I A) s = f → zEx G MX8_figures 1 0 0 73 [some (.ref a), some (.int (nI m)), some (.int (nI k)), some (.int (nI f)), some (.int (nI (dval (ltr I A) s f)))] [] (mH h0 a (va_up I 23 (s + f)) (va_up A 20 tl) B) n (0, 0) (fun r1 h' n' => ∃ v, r1 = some (.int v) ∧ (∃ s' tl', h' = mH h0 a (va_up I 23 s') (va_up A 20 tl') B ∧ (∀ j, tl' j < 1000) ∧ match figL (ltr I A) (r + 1) s with | some q => v = nI 1 ∧ s' = q.1 ∧ (∀ j, j < r + 1 → tl' (k + j) = q.2.getD j 0) ∧ ∀ j, j < k → tl' j = tl j | none => v = nI 0) ∧ n' = n) := by
          intro f hf hdg
          refine x_iload_n dX8_figures_73 rfl ?_
          refine n_i2l dX8_figures_74 (by omega) ?_
          refine x_lconst (v := lN 1) dX8_figures_75 (by decide) ?_
          refine x_ldc2 (v := lN 2) dX8_figures_76 coX8_128 ?_
          refine x_cSi3 dX8_figures_79 lkX8_109 mdX8_in stX8_in (by decide) (c_inN (by omega) (by decide) (by decide)) (Nat.le_of_ble_eq_true rfl) ⟨Nat.le_refl _, Nat.le_refl _⟩ ?_
          refine b_if_eq (tgt := 110) dX8_figures_82 (by decide) (fun c1 => ?_) (fun c1 => ?_)
          · simp only [decide_eq_false_iff_not] at c1
            refine x_iconst (v := nI 0) dX8_figures_110 (by decide) ?_
            refine x_iret dX8_figures_111 rfl rfl ⟨Nat.le_refl _, Nat.le_refl _⟩ ?_
            refine ⟨_, rfl, ⟨s + f, tl, rfl, ht, ?_⟩, rfl⟩
            rw [figL, if_neg (by rw [hdg]; exact fun q => c1 q.1)]
          · simp only [decide_eq_true_eq] at c1
            have hmk : ∀ mk : Nat, mk < 128 → mk = (if r = 0 then 59 else 44) → zEx G MX8_figures 1 0 0 107 [some (.ref a), some (.int (nI m)), some (.int (nI k)), some (.int (nI f)), some (.int (nI (dval (ltr I A) s f)))] [.int (nI mk), .int (nI (ltr I A (s + f)))] (mH h0 a (va_up I 23 (s + f)) (va_up A 20 tl) B) n (0, 0) (fun r1 h' n' => ∃ v, r1 = some (.int v) ∧ (∃ s' tl', h' = mH h0 a (va_up I 23 s') (va_up A 20 tl') B ∧ (∀ j, tl' j < 1000) ∧ match figL (ltr I A) (r + 1) s with | some q => v = nI 1 ∧ s' = q.1 ∧ (∀ j, j < r + 1 → tl' (k + j) = q.2.getD j 0) ∧ ∀ j, j < k → tl' j = tl j | none => v = nI 0) ∧ n' = n) := by
              intro mk hmk1 hmk
              have hLf := hL (s + f)
              refine n_icmp_eq (tgt := 112) dX8_figures_107 (by decide) (by omega) (by omega) (fun c2 => ?_) (fun c2 => ?_)
              · have hv : dval (ltr I A) s f < 1000 := by
                  have hL0 := hL s
                  have hL1 := hL (s + 1)
                  rcases (show f = 1 ∨ f = 2 by omega) with rfl | rfl <;> simp only [dval] <;> simp only [Nat.add_zero] <;> omega
                refine x_aload_n dX8_figures_112 rfl ?_
                refine x_getf dX8_figures_113 flX8_67 mH_a rfl ?_
                refine x_iload_n dX8_figures_116 rfl ?_
                refine x_iload dX8_figures_117 rfl ?_
                refine m_iast dX8_figures_119 rfl (by simp only [mLen]; omega) (by decide) ?_
                refine x_aload_n dX8_figures_120 rfl ?_
                refine x_dup dX8_figures_121 rfl ?_
                refine x_getf (v := .int (nI (s + f))) dX8_figures_122 flX8_117 mH_a rfl ?_
                refine x_iconst (v := nI 1) dX8_figures_125 (by decide) ?_
                refine n_iadd dX8_figures_126 ?_
                refine m_put dX8_figures_127 flX8_117 ftX8_23 (by simp [mFs]) rfl ?_
                refine n_ii2 (w := 1) dX8_figures_130 (by decide) (by decide) rfl ?_
                refine x_goto (tgt := 2) dX8_figures_133 (by decide) ?_
                refine x_eqI (I' := va_up I 23 (s + f + 1)) (up_up _ _ _ _) ?_
                refine x_eqA (A' := va_up A 20 (va_up tl k (dval (ltr I A) s f))) (by rw [up_eq, up_up]) ?_
                have h9 := ih (k + 1) (s + f + 1) (va_up tl k (dval (ltr I A) s f)) (some (.int (nI f))) (some (.int (nI (dval (ltr I A) s f)))) (by omega) (by omega) (by intro j; unfold va_up; split; exact hv; exact ht j)
                have hcond : (1 ≤ dgs (ltr I A) s ∧ dgs (ltr I A) s ≤ 2) ∧ ltr I A (s + dgs (ltr I A) s) = (if r = 0 then 59 else 44) := by rw [hdg]; exact ⟨c1, by rw [c2, hmk]⟩
                refine zEx.post h9 ?_
                rintro r1 h' n' ⟨v, rfl, ⟨s', tl', rfl, ht', hm'⟩, rfl⟩
                refine ⟨v, rfl, ⟨s', tl', rfl, ht', ?_⟩, rfl⟩
                rw [figL, if_pos hcond, hdg]
                cases hq : figL (ltr I A) r (s + f + 1) with
                | none => rw [hq] at hm'; exact hm'
                | some q =>
                  rw [hq] at hm'
                  obtain ⟨h1, h2, h3, h4⟩ := hm'
                  refine ⟨h1, h2, fun j hj => ?_, fun j hj => (h4 j (by omega)).trans (up_ne _ _ (by omega))⟩
                  cases j with
                  | zero => exact (h4 k (by omega)).trans (up_eq _ _ _)
                  | succ j => rw [show k + (j + 1) = k + 1 + j by omega]; exact h3 j (by omega)
              · refine x_iconst (v := nI 0) dX8_figures_110 (by decide) ?_
                refine x_iret dX8_figures_111 rfl rfl ⟨Nat.le_refl _, Nat.le_refl _⟩ ?_
                refine ⟨_, rfl, ⟨s + f, tl, rfl, ht, ?_⟩, rfl⟩
                rw [figL, if_neg (by rw [hdg]; exact fun q => c2 (by rw [q.2, hmk]))]
            refine x_aload_n dX8_figures_85 rfl ?_
            refine x_aload_n dX8_figures_86 rfl ?_
            refine x_getf (v := .int (nI (s + f))) dX8_figures_87 flX8_117 mH_a rfl ?_
            refine x_cVi1 dX8_figures_90 lkX8_120 mdX8_letterAt isX8_letterAt rfl rfl mH_a (by decide) (c_ltr (by omega) hl) (Nat.le_of_ble_eq_true rfl) ⟨Nat.le_refl _, Nat.le_refl _⟩ ?_
            refine x_iload_n dX8_figures_93 rfl ?_
            refine x_iload_n dX8_figures_94 rfl ?_
            refine x_iconst (v := nI 1) dX8_figures_95 (by decide) ?_
            refine n_isub dX8_figures_96 (by omega) ?_
            refine n_icmp_ge (tgt := 105) dX8_figures_97 (by decide) (by omega) (by omega) (fun c3 => ?_) (fun c3 => ?_)
            · refine x_bipush (v := nI 59) dX8_figures_105 (by decide) ?_
              exact hmk 59 (by decide) (by rw [if_pos (by omega)])
            · refine x_bipush (v := nI 44) dX8_figures_100 (by decide) ?_
              refine x_goto (tgt := 107) dX8_figures_102 (by decide) ?_
              exact hmk 44 (by decide) (by rw [if_neg (by omega)])
        refine x_iconst (v := nI 0) dX8_figures_7 (by decide) ?_
        refine x_is3 dX8_figures_8 (by decide) rfl ?_
        refine x_iconst (v := nI 0) dX8_figures_9 (by decide) ?_
        refine x_is4 dX8_figures_10 (by decide) rfl ?_
        refine z_up 3 (P := fun f => (∀ i, i < f → fig (ltr I A (s + i)) = true) → zEx G MX8_figures 1 0 0 12 [some (.ref a), some (.int (nI m)), some (.int (nI k)), some (.int (nI f)), some (.int (nI (dval (ltr I A) s f)))] [] (mH h0 a (va_up I 23 (s + f)) (va_up A 20 tl) B) n (0, 0) _) ?_ 0 (by decide) (fun i hi => absurd hi (by omega))
        intro f hf ihf hfig
        have hLf := hL (s + f)
        refine x_aload_n dX8_figures_12 rfl ?_
        refine x_aload_n dX8_figures_13 rfl ?_
        refine x_getf (v := .int (nI (s + f))) dX8_figures_14 flX8_117 mH_a rfl ?_
        refine x_cVi1 dX8_figures_17 lkX8_120 mdX8_letterAt isX8_letterAt rfl rfl mH_a (by decide) (c_ltr (by omega) hl) (Nat.le_of_ble_eq_true rfl) ⟨Nat.le_refl _, Nat.le_refl _⟩ ?_
        refine n_i2l dX8_figures_20 (by omega) ?_
        refine x_ldc2 (v := lN 48) dX8_figures_21 coX8_124 ?_
        refine x_ldc2 (v := lN 57) dX8_figures_24 coX8_126 ?_
        refine x_cSi3 dX8_figures_27 lkX8_109 mdX8_in stX8_in (by decide) (c_inN (by omega) (by decide) (by decide)) (Nat.le_of_ble_eq_true rfl) ⟨Nat.le_refl _, Nat.le_refl _⟩ ?_
        refine b_if_eq (tgt := 73) dX8_figures_30 (by decide) (fun c1 => ?_) (fun c1 => ?_)
        · refine K73 f hf ?_
          have e0 : fig (ltr I A (s + f)) = false := c1
          unfold dgs
          rcases (show f = 0 ∨ f = 1 ∨ f = 2 ∨ f = 3 by omega) with rfl | rfl | rfl | rfl
          · rw [if_neg (by rw [show s = s + 0 from rfl, e0]; decide)]
          · rw [if_pos (show fig (ltr I A s) = true from hfig 0 (by decide)), if_neg (by rw [e0]; decide)]
          · rw [if_pos (show fig (ltr I A s) = true from hfig 0 (by decide)), if_pos (hfig 1 (by decide)), if_neg (by rw [e0]; decide)]
          · rw [if_pos (show fig (ltr I A s) = true from hfig 0 (by decide)), if_pos (hfig 1 (by decide)), if_pos (hfig 2 (by decide))]
        · refine x_iload_n dX8_figures_33 rfl ?_
          refine x_iconst (v := nI 3) dX8_figures_34 (by decide) ?_
          refine n_icmp_ge (tgt := 73) dX8_figures_35 (by decide) (by omega) (by omega) (fun c2 => ?_) (fun c2 => ?_)
          · refine K73 f hf ?_
            have : f = 3 := by omega
            subst this
            unfold dgs
            rw [if_pos (show fig (ltr I A s) = true from hfig 0 (by decide)), if_pos (hfig 1 (by decide)), if_pos (hfig 2 (by decide))]
          · have e1 : 48 ≤ ltr I A (s + f) := (of_decide_eq_true c1).1
            refine x_bipush (v := nI 10) dX8_figures_38 (by decide) ?_
            refine x_iload dX8_figures_40 rfl ?_
            refine n_imul dX8_figures_42 ?_
            refine x_aload_n dX8_figures_43 rfl ?_
            refine x_aload_n dX8_figures_44 rfl ?_
            refine x_getf (v := .int (nI (s + f))) dX8_figures_45 flX8_117 mH_a rfl ?_
            refine x_cVi1 dX8_figures_48 lkX8_120 mdX8_letterAt isX8_letterAt rfl rfl mH_a (by decide) (c_ltr (by omega) hl) (Nat.le_of_ble_eq_true rfl) ⟨Nat.le_refl _, Nat.le_refl _⟩ ?_
            refine n_iadd dX8_figures_51 ?_
            refine x_bipush (v := nI 48) dX8_figures_52 (by decide) ?_
            refine n_isub dX8_figures_54 (by omega) ?_
            refine x_is4 dX8_figures_55 (by decide) rfl ?_
            refine n_ii3 (w := 1) dX8_figures_57 (by decide) (by decide) rfl ?_
            refine x_aload_n dX8_figures_60 rfl ?_
            refine x_dup dX8_figures_61 rfl ?_
            refine x_getf (v := .int (nI (s + f))) dX8_figures_62 flX8_117 mH_a rfl ?_
            refine x_iconst (v := nI 1) dX8_figures_65 (by decide) ?_
            refine n_iadd dX8_figures_66 ?_
            refine m_put dX8_figures_67 flX8_117 ftX8_23 (by simp [mFs]) rfl ?_
            refine x_goto (tgt := 12) dX8_figures_70 (by decide) ?_
            refine x_eqI (I' := va_up I 23 (s + (f + 1))) (up_up _ _ _ _) ?_
            refine ihf (by omega) (fun i hi => ?_)
            rcases (show i < f ∨ i = f by omega) with q | q
            · exact hfig i q
            · rw [q]; exact c1
  refine zEx.post (loop m 0 s (A 20) _ _ rfl (by omega) ht) ?_
  rintro r1 h' n' ⟨v, rfl, ⟨s', tl', rfl, ht', hm'⟩, rfl⟩
  refine ⟨v, rfl, ⟨s', tl', rfl, ht', ?_⟩, rfl⟩
  cases hq : figL (ltr I A) m s with
  | none => rw [hq] at hm'; exact hm'
  | some q =>
    rw [hq] at hm'
    obtain ⟨h1, h2, h3, h4⟩ := hm'
    exact ⟨h1, h2, fun j hj => by have := h3 j hj; rwa [Nat.zero_add] at this⟩
end ZM4
