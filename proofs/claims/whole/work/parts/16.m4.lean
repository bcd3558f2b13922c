def vw (A : Nat → Nat → Nat) (b : Nat) : zT := fun k j => if k = 2 ∨ k = 7 ∨ k = 11 ∨ k = 12 then A k (b + j) else if 3 ≤ k ∧ k ≤ 6 then A k (8 * b + j) else if (8 ≤ k ∧ k ≤ 10) ∨ k = 13 ∨ k = 14 then A k (4 * b + j) else if k = 15 then A k j else 0
def kp (k j : Nat) : Prop := k ≠ 15 ∧ k ≠ 20 ∧ (k = 2 ∨ k = 7 ∨ k = 11 ∨ k = 12 → j = 0) ∧ (3 ≤ k ∧ k ≤ 6 → j < 8) ∧ ((8 ≤ k ∧ k ≤ 10) ∨ k = 13 ∨ k = 14 → j < 4)
def kpA (A A' : Nat → Nat → Nat) : Prop := ∀ k j, kp k j → A' k j = A k j
theorem kpA.rf {A : Nat → Nat → Nat} : kpA A A := fun _ _ _ => rfl
theorem kpA.tr {A A' A'' : Nat → Nat → Nat} (h1 : kpA A A') (h2 : kpA A' A'') : kpA A A'' := fun k j h => (h2 k j h).trans (h1 k j h)
def cntT (c : Nat) : Nat := if c = 116 then 4 else if c = 112 then 3 else if c = 105 then 2 else if c = 103 then 1 else if c = 100 then 1 else if c = 110 then 3 else 0
def takeT (c : Nat) (l : List Nat) (T : zT) : Option zT :=
  if c = 116 then (if T 2 0 < 8 ∧ (1 ≤ l.getD 0 0 ∧ l.getD 0 0 ≤ 20) ∧ l.getD 1 0 < 4 ∧ l.getD 2 0 < 10 ∧ 1 ≤ l.getD 3 0 ∧ l.getD 3 0 ≤ 9 then some (adT T 0 (l.getD 0 0) (l.getD 1 0) (l.getD 2 0) (l.getD 3 0)) else none)
  else if c = 112 then (if T 7 0 ≠ 4 ∧ l.getD 0 0 ≤ 9 ∧ l.getD 1 0 ≤ 1 ∧ 1 ≤ l.getD 2 0 ∧ l.getD 2 0 ≤ 2 then some (adP T 0 (l.getD 0 0) (l.getD 1 0) (l.getD 2 0)) else none)
  else if c = 105 then (if l.getD 0 0 < T 7 0 ∧ l.getD 1 0 < T 2 0 then some (va_up T 15 (va_up (T 15) (l.getD 0 0) (T 15 (l.getD 0 0) ||| 2 ^ l.getD 1 0))) else none)
  else if c = 103 then (if 1 ≤ l.getD 0 0 ∧ l.getD 0 0 ≤ 9 then some (va_up T 11 (va_up (T 11) 0 (l.getD 0 0))) else none)
  else if c = 100 then (if l.getD 0 0 ≤ 40 then some (va_up T 12 (va_up (T 12) 0 (l.getD 0 0))) else none)
  else if c = 110 then (if l.getD 0 0 ≤ 3 ∧ l.getD 1 0 ≤ 9 ∧ 1 ≤ l.getD 2 0 ∧ l.getD 2 0 ≤ 60 then some (va_up (va_up T 13 (va_up (T 13) (l.getD 0 0) (l.getD 1 0))) 14 (va_up (T 14) (l.getD 0 0) (l.getD 2 0))) else none)
  else none
def itemT (L : Nat → Nat) (s : Nat) (T : zT) : Option (Nat × zT) := if cntT (L s) = 0 then none else match figL L (cntT (L s)) (s + 1) with
  | none => none
  | some q => (takeT (L s) q.2 T).map (fun T' => (q.1, T'))
theorem itemT_none {L : Nat → Nat} {s m : Nat} {T : zT} (hc : cntT (L s) = m) (h : figL L m (s + 1) = none) : itemT L s T = none := by
  unfold itemT; rw [hc, h]; split <;> rfl
theorem itemT_some {L : Nat → Nat} {s m : Nat} {T : zT} {q : Nat × List Nat} (hm : m ≠ 0) (hc : cntT (L s) = m) (h : figL L m (s + 1) = some q) : itemT L s T = (takeT (L s) q.2 T).map (fun T' => (q.1, T')) := by
  unfold itemT; rw [hc, h, if_neg hm]
section ZM5
variable {G : zG} {n : Nat} {h0 : zF} {a : Nat} {I : Nat → Nat} {A : Nat → Nat → Nat} {B : Nat → Nat}
theorem sw_item : ∀ c, c < 128 → cntT c = 0 → zsw 443 100 116 #[320, 443, 443, 279, 443, 215, 443, 443, 443, 443, 355, 443, 132, 443, 443, 443, 84] (c : Int) = some 443 := by decide +kernel
theorem c_item {s : Nat} (hl : I 0 ≤ 200) (hs : s < I 0) (hL : ∀ j, ltr I A j < 128) (ht : ∀ j, A 20 j < 1000) (h2 : A 2 1 ≤ 8) (h7 : A 7 1 ≤ 4) : zPi G MX8_item 2 [.ref a] (mH h0 a (va_up I 23 s) A B) n (fun v h' => ∃ s' A', h' = mH h0 a (va_up I 23 s') A' B ∧ (∀ j, A' 20 j < 1000) ∧ kpA A A' ∧ match itemT (ltr I A) s (vw A 1) with | some q => v = nI 1 ∧ s' = q.1 ∧ vw A' 1 = q.2 | none => v = nI 0) := by
  refine zCt.of rfl (Nat.le_of_ble_eq_true rfl) rfl ?_
  have hLs := hL s
  refine x_aload_n dX8_item_0 rfl ?_
  refine x_aload_n dX8_item_1 rfl ?_
  refine x_getf (v := .int (nI s)) dX8_item_2 flX8_117 mH_a rfl ?_
  refine x_cVi1 dX8_item_5 lkX8_120 mdX8_letterAt isX8_letterAt rfl rfl mH_a (by decide) (c_letterAt (I := va_up I 23 s) (by omega) hl) (Nat.le_of_ble_eq_true rfl) ⟨Nat.le_refl _, Nat.le_refl _⟩ ?_
  refine x_is1 dX8_item_8 (by decide) rfl ?_
  refine x_aload_n dX8_item_9 rfl ?_
  refine x_dup dX8_item_10 rfl ?_
  refine x_getf (v := .int (nI s)) dX8_item_11 flX8_117 mH_a rfl ?_
  refine x_iconst (v := nI 1) dX8_item_14 (by decide) ?_
  refine n_iadd dX8_item_15 ?_
  refine m_put dX8_item_16 flX8_117 ftX8_23 (by simp [mFs]) rfl ?_
  refine x_iload_n dX8_item_19 rfl ?_
  refine x_eqI (I' := va_up I 23 (s + 1)) (up_up _ _ _ _) ?_
  have e0 : ltr (va_up I 23 s) A s = ltr I A s := rfl
  rw [e0]
  have fail : ∀ (s' : Nat) (A' : Nat → Nat → Nat), itemT (ltr I A) s (vw A 1) = none → (∀ j, A' 20 j < 1000) → kpA A A' → ∃ v : Int32, some (Value.int (nI 0)) = some (Value.int v) ∧ (∃ s2 A2, mH h0 a (va_up I 23 s') A' B = mH h0 a (va_up I 23 s2) A2 B ∧ (∀ j, A2 20 j < 1000) ∧ kpA A A2 ∧ match itemT (ltr I A) s (vw A 1) with | some q => v = nI 1 ∧ s2 = q.1 ∧ vw A2 1 = q.2 | none => v = nI 0) ∧ n = n := by
    intro s' A' h1 h2 h3
    refine ⟨_, rfl, ⟨s', A', rfl, h2, h3, ?_⟩, rfl⟩
    rw [h1]
  have good : ∀ (s' : Nat) (A' : Nat → Nat → Nat), itemT (ltr I A) s (vw A 1) = some (s', vw A' 1) → (∀ j, A' 20 j < 1000) → kpA A A' → ∃ v : Int32, some (Value.int (nI 1)) = some (Value.int v) ∧ (∃ s2 A2, mH h0 a (va_up I 23 s') A' B = mH h0 a (va_up I 23 s2) A2 B ∧ (∀ j, A2 20 j < 1000) ∧ kpA A A2 ∧ match itemT (ltr I A) s (vw A 1) with | some q => v = nI 1 ∧ s2 = q.1 ∧ vw A2 1 = q.2 | none => v = nI 0) ∧ n = n := by
    intro s' A' h1 h2 h3
    refine ⟨_, rfl, ⟨s', A', rfl, h2, h3, ?_⟩, rfl⟩
    rw [h1]
    exact ⟨rfl, rfl, rfl⟩
  by_cases k116 : ltr I A s = 116
  · rw [k116]
    refine n_tsw (off := 84) (tgt := 104) dX8_item_20 (by decide) (by decide +kernel) (by decide) ?_
    refine x_aload_n dX8_item_104 rfl ?_
    refine x_iconst (v := nI 4) dX8_item_105 (by decide) ?_
    refine x_cVI1 dX8_item_106 lkX8_134 mdX8_figures isX8_figures rfl rfl mH_a (by decide) (c_figures (s := s + 1) (by decide) hl (by omega) hL ht) (Nat.le_of_ble_eq_true rfl) ⟨Nat.le_refl _, Nat.le_refl _⟩ ?_
    rintro v h' ⟨s', tl, rfl, ht', hm⟩
    cases hq : figL (ltr I A) 4 (s + 1) with
    | none =>
      rw [hq] at hm
      subst hm
      refine n_if_eq (tgt := 119) dX8_item_109 (by decide) (by decide) (fun c0 => ?_) (fun c0 => ?_)
      · refine x_iconst (v := nI 0) dX8_item_119 (by decide) ?_
        refine x_iret dX8_item_120 rfl rfl ⟨Nat.le_refl _, Nat.le_refl _⟩ ?_
        exact fail _ _ (itemT_none (m := 4) (by rw [k116]; rfl) hq) (fun j => ht' j) (fun k j hk => up_ne _ _ hk.2.1 ▸ rfl)
      · exact absurd rfl c0
    | some q =>
      rw [hq] at hm
      obtain ⟨rfl, rfl, hx⟩ := hm
      refine n_if_eq (tgt := 119) dX8_item_109 (by decide) (by decide) (fun c0 => ?_) (fun c0 => ?_)
      · exact absurd c0 (by decide)
      · have hi : itemT (ltr I A) s (vw A 1) = (takeT 116 q.2 (vw A 1)).map (fun T' => (q.1, T')) := by rw [itemT_some (m := 4) (by decide) (by rw [k116]; rfl) hq, k116]
        have v2 : vw A 1 2 0 = A 2 1 := rfl
        have v7 : vw A 1 7 0 = A 7 1 := rfl
        have kt : ∀ (b : Nat → Nat), kpA A (va_up A 20 b) := fun b k j hk => up_ne _ _ hk.2.1 ▸ rfl
        have x0 : tl 0 = q.2.getD 0 0 := hx 0 (by decide)
        have y0 : tl 0 < 1000 := ht' 0
        have x1 : tl 1 = q.2.getD 1 0 := hx 1 (by decide)
        have y1 : tl 1 < 1000 := ht' 1
        have x2 : tl 2 = q.2.getD 2 0 := hx 2 (by decide)
        have y2 : tl 2 < 1000 := ht' 2
        have x3 : tl 3 = q.2.getD 3 0 := hx 3 (by decide)
        have y3 : tl 3 < 1000 := ht' 3
        refine x_aload_n dX8_item_112 rfl ?_
        refine x_cVi0 dX8_item_113 lkX8_138 mdX8_isThingTold isX8_isThingTold rfl rfl mH_a (by decide) (c_isThingTold (A := va_up A 20 tl) (show A 2 1 < 2 ^ 31 by omega) ht') (Nat.le_of_ble_eq_true rfl) ⟨Nat.le_refl _, Nat.le_refl _⟩ ?_
        refine b_if_ne (tgt := 121) dX8_item_116 (by decide) (fun c1 => ?_) (fun c1 => ?_)
        · have c1 : A 2 1 < 8 ∧ (1 ≤ tl 0 ∧ tl 0 ≤ 20) ∧ tl 1 < 4 ∧ tl 2 < 10 ∧ 1 ≤ tl 3 ∧ tl 3 ≤ 9 := of_decide_eq_true c1
          refine x_aload_n dX8_item_121 rfl ?_
          refine x_iconst (v := nI 1) dX8_item_122 (by decide) ?_
          refine x_aload_n dX8_item_123 rfl ?_
          refine x_getf dX8_item_124 flX8_67 mH_a rfl ?_
          refine x_iconst (v := nI 0) dX8_item_127 (by decide) ?_
          refine m_iald dX8_item_128 rfl (by simp only [mLen]; omega) (by decide) ?_
          refine x_aload_n dX8_item_129 rfl ?_
          refine x_getf dX8_item_130 flX8_67 mH_a rfl ?_
          refine x_iconst (v := nI 1) dX8_item_133 (by decide) ?_
          refine m_iald dX8_item_134 rfl (by simp only [mLen]; omega) (by decide) ?_
          refine x_aload_n dX8_item_135 rfl ?_
          refine x_getf dX8_item_136 flX8_67 mH_a rfl ?_
          refine x_iconst (v := nI 2) dX8_item_139 (by decide) ?_
          refine m_iald dX8_item_140 rfl (by simp only [mLen]; omega) (by decide) ?_
          refine x_aload_n dX8_item_141 rfl ?_
          refine x_getf dX8_item_142 flX8_67 mH_a rfl ?_
          refine x_iconst (v := nI 3) dX8_item_145 (by decide) ?_
          refine m_iald dX8_item_146 rfl (by simp only [mLen]; omega) (by decide) ?_
          refine x_cVV5 dX8_item_147 lkX8_94 mdX8_addThing isX8_addThing rfl rfl mH_a (by decide) (c_addThing (A := va_up A 20 tl) (by decide) c1.1) (Nat.le_of_ble_eq_true rfl) ⟨Nat.le_refl _, Nat.le_refl _⟩ ?_
          rintro _ rfl
          refine x_iconst (v := nI 1) dX8_item_150 (by decide) ?_
          refine x_iret dX8_item_151 rfl rfl ⟨Nat.le_refl _, Nat.le_refl _⟩ ?_
          refine good _ _ ?_ (fun j => ?_) ?_
          · rw [hi, takeT, if_pos rfl, if_pos (by rw [v2]; omega), ← x0, ← x1, ← x2, ← x3]
            refine congrArg (fun T' => some (q.1, T')) ?_
            funext k j; simp only [vw, va_up, ite_app, adT]; grind
          · have := ht' j; simp only [va_up, ite_app, adT]; grind
          · intro k j hk; simp only [kp] at hk; simp only [va_up, ite_app, adT]; grind
        · have c1 : ¬ (A 2 1 < 8 ∧ (1 ≤ tl 0 ∧ tl 0 ≤ 20) ∧ tl 1 < 4 ∧ tl 2 < 10 ∧ 1 ≤ tl 3 ∧ tl 3 ≤ 9) := of_decide_eq_false c1
          refine x_iconst (v := nI 0) dX8_item_119 (by decide) ?_
          refine x_iret dX8_item_120 rfl rfl ⟨Nat.le_refl _, Nat.le_refl _⟩ ?_
          exact fail _ _ (by rw [hi, takeT]; simp only [if_true, if_false, reduceIte, Nat.reduceEqDiff]; rw [if_neg (by rw [v2]; omega)]; rfl) (fun j => ht' j) (kt _)
  by_cases k112 : ltr I A s = 112
  · rw [k112]
    refine n_tsw (off := 132) (tgt := 152) dX8_item_20 (by decide) (by decide +kernel) (by decide) ?_
    refine x_aload_n dX8_item_152 rfl ?_
    refine x_iconst (v := nI 3) dX8_item_153 (by decide) ?_
    refine x_cVI1 dX8_item_154 lkX8_134 mdX8_figures isX8_figures rfl rfl mH_a (by decide) (c_figures (s := s + 1) (by decide) hl (by omega) hL ht) (Nat.le_of_ble_eq_true rfl) ⟨Nat.le_refl _, Nat.le_refl _⟩ ?_
    rintro v h' ⟨s', tl, rfl, ht', hm⟩
    cases hq : figL (ltr I A) 3 (s + 1) with
    | none =>
      rw [hq] at hm
      subst hm
      refine n_if_eq (tgt := 208) dX8_item_157 (by decide) (by decide) (fun c0 => ?_) (fun c0 => ?_)
      · refine x_iconst (v := nI 0) dX8_item_208 (by decide) ?_
        refine x_iret dX8_item_209 rfl rfl ⟨Nat.le_refl _, Nat.le_refl _⟩ ?_
        exact fail _ _ (itemT_none (m := 3) (by rw [k112]; rfl) hq) (fun j => ht' j) (fun k j hk => up_ne _ _ hk.2.1 ▸ rfl)
      · exact absurd rfl c0
    | some q =>
      rw [hq] at hm
      obtain ⟨rfl, rfl, hx⟩ := hm
      refine n_if_eq (tgt := 208) dX8_item_157 (by decide) (by decide) (fun c0 => ?_) (fun c0 => ?_)
      · exact absurd c0 (by decide)
      · have hi : itemT (ltr I A) s (vw A 1) = (takeT 112 q.2 (vw A 1)).map (fun T' => (q.1, T')) := by rw [itemT_some (m := 3) (by decide) (by rw [k112]; rfl) hq, k112]
        have v2 : vw A 1 2 0 = A 2 1 := rfl
        have v7 : vw A 1 7 0 = A 7 1 := rfl
        have kt : ∀ (b : Nat → Nat), kpA A (va_up A 20 b) := fun b k j hk => up_ne _ _ hk.2.1 ▸ rfl
        have x0 : tl 0 = q.2.getD 0 0 := hx 0 (by decide)
        have y0 : tl 0 < 1000 := ht' 0
        have x1 : tl 1 = q.2.getD 1 0 := hx 1 (by decide)
        have y1 : tl 1 < 1000 := ht' 1
        have x2 : tl 2 = q.2.getD 2 0 := hx 2 (by decide)
        have y2 : tl 2 < 1000 := ht' 2
        refine x_aload_n dX8_item_160 rfl ?_
        refine x_getf dX8_item_161 flX8_28 mH_a rfl ?_
        refine x_iconst (v := nI 1) dX8_item_164 (by decide) ?_
        refine m_iald dX8_item_165 rfl (by simp only [mLen]; omega) (by decide) ?_
        refine x_iconst (v := nI 4) dX8_item_166 (by decide) ?_
        refine n_icmp_eq (x := A 7 1) (tgt := 208) dX8_item_167 (by decide) (by omega) (by decide) (fun c1 => ?_) (fun c1 => ?_)
        · refine x_iconst (v := nI 0) dX8_item_208 (by decide) ?_
          refine x_iret dX8_item_209 rfl rfl ⟨Nat.le_refl _, Nat.le_refl _⟩ ?_
          exact fail _ _ (by rw [hi, takeT]; simp only [if_true, if_false, reduceIte, Nat.reduceEqDiff]; rw [if_neg (by rw [v7]; omega)]; rfl) (fun j => ht' j) (kt _)
        · refine x_aload_n dX8_item_170 rfl ?_
          refine x_getf dX8_item_171 flX8_67 mH_a rfl ?_
          refine x_iconst (v := nI 0) dX8_item_174 (by decide) ?_
          refine m_iald dX8_item_175 rfl (by simp only [mLen]; omega) (by decide) ?_
          refine x_bipush (v := nI 9) dX8_item_176 (by decide) ?_
          refine n_icmp_gt (x := tl 0) (tgt := 208) dX8_item_178 (by decide) (by omega) (by decide) (fun c2 => ?_) (fun c2 => ?_)
          · refine x_iconst (v := nI 0) dX8_item_208 (by decide) ?_
            refine x_iret dX8_item_209 rfl rfl ⟨Nat.le_refl _, Nat.le_refl _⟩ ?_
            exact fail _ _ (by rw [hi, takeT]; simp only [if_true, if_false, reduceIte, Nat.reduceEqDiff]; rw [if_neg (by omega)]; rfl) (fun j => ht' j) (kt _)
          · refine x_aload_n dX8_item_181 rfl ?_
            refine x_getf dX8_item_182 flX8_67 mH_a rfl ?_
            refine x_iconst (v := nI 1) dX8_item_185 (by decide) ?_
            refine m_iald dX8_item_186 rfl (by simp only [mLen]; omega) (by decide) ?_
            refine x_iconst (v := nI 1) dX8_item_187 (by decide) ?_
            refine n_icmp_gt (x := tl 1) (tgt := 208) dX8_item_188 (by decide) (by omega) (by decide) (fun c3 => ?_) (fun c3 => ?_)
            · refine x_iconst (v := nI 0) dX8_item_208 (by decide) ?_
              refine x_iret dX8_item_209 rfl rfl ⟨Nat.le_refl _, Nat.le_refl _⟩ ?_
              exact fail _ _ (by rw [hi, takeT]; simp only [if_true, if_false, reduceIte, Nat.reduceEqDiff]; rw [if_neg (by omega)]; rfl) (fun j => ht' j) (kt _)
            · refine x_aload_n dX8_item_191 rfl ?_
              refine x_getf dX8_item_192 flX8_67 mH_a rfl ?_
              refine x_iconst (v := nI 2) dX8_item_195 (by decide) ?_
              refine m_iald dX8_item_196 rfl (by simp only [mLen]; omega) (by decide) ?_
              refine n_i2l (x := tl 2) dX8_item_197 (by omega) ?_
              refine x_lconst (v := lN 1) dX8_item_198 (by decide) ?_
              refine x_ldc2 (v := lN 2) dX8_item_199 coX8_128 ?_
              refine x_cSi3 dX8_item_202 lkX8_109 mdX8_in stX8_in (by decide) (c_inN (by omega) (by decide) (by decide)) (Nat.le_of_ble_eq_true rfl) ⟨Nat.le_refl _, Nat.le_refl _⟩ ?_
              refine b_if_ne (tgt := 210) dX8_item_205 (by decide) (fun c4 => ?_) (fun c4 => ?_)
              · have c4 := of_decide_eq_true c4
                refine x_aload_n dX8_item_210 rfl ?_
                refine x_iconst (v := nI 1) dX8_item_211 (by decide) ?_
                refine x_aload_n dX8_item_212 rfl ?_
                refine x_getf dX8_item_213 flX8_67 mH_a rfl ?_
                refine x_iconst (v := nI 0) dX8_item_216 (by decide) ?_
                refine m_iald dX8_item_217 rfl (by simp only [mLen]; omega) (by decide) ?_
                refine x_aload_n dX8_item_218 rfl ?_
                refine x_getf dX8_item_219 flX8_67 mH_a rfl ?_
                refine x_iconst (v := nI 1) dX8_item_222 (by decide) ?_
                refine m_iald dX8_item_223 rfl (by simp only [mLen]; omega) (by decide) ?_
                refine x_aload_n dX8_item_224 rfl ?_
                refine x_getf dX8_item_225 flX8_67 mH_a rfl ?_
                refine x_iconst (v := nI 2) dX8_item_228 (by decide) ?_
                refine m_iald dX8_item_229 rfl (by simp only [mLen]; omega) (by decide) ?_
                refine x_cVV4 dX8_item_230 lkX8_98 mdX8_addParcel isX8_addParcel rfl rfl mH_a (by decide) (c_addParcel (A := va_up A 20 tl) (by decide) (show A 7 1 < 4 by omega)) (Nat.le_of_ble_eq_true rfl) ⟨Nat.le_refl _, Nat.le_refl _⟩ ?_
                rintro _ rfl
                refine x_iconst (v := nI 1) dX8_item_233 (by decide) ?_
                refine x_iret dX8_item_234 rfl rfl ⟨Nat.le_refl _, Nat.le_refl _⟩ ?_
                refine good _ _ ?_ (fun j => ?_) ?_
                · rw [hi, takeT]; simp only [if_true, if_false, reduceIte, Nat.reduceEqDiff]; rw [if_pos (by rw [v7]; omega), ← x0, ← x1, ← x2]
                  refine congrArg (fun T' => some (q.1, T')) ?_
                  funext k j; simp only [vw, va_up, ite_app, adP]; grind
                · have := ht' j; simp only [va_up, ite_app, adP]; grind
                · intro k j hk; simp only [kp] at hk; simp only [va_up, ite_app, adP]; grind
              · have c4 := of_decide_eq_false c4
                refine x_iconst (v := nI 0) dX8_item_208 (by decide) ?_
                refine x_iret dX8_item_209 rfl rfl ⟨Nat.le_refl _, Nat.le_refl _⟩ ?_
                exact fail _ _ (by rw [hi, takeT]; simp only [if_true, if_false, reduceIte, Nat.reduceEqDiff]; rw [if_neg (by omega)]; rfl) (fun j => ht' j) (kt _)
  by_cases k105 : ltr I A s = 105
  · rw [k105]
    refine n_tsw (off := 215) (tgt := 235) dX8_item_20 (by decide) (by decide +kernel) (by decide) ?_
    refine x_aload_n dX8_item_235 rfl ?_
    refine x_iconst (v := nI 2) dX8_item_236 (by decide) ?_
    refine x_cVI1 dX8_item_237 lkX8_134 mdX8_figures isX8_figures rfl rfl mH_a (by decide) (c_figures (s := s + 1) (by decide) hl (by omega) hL ht) (Nat.le_of_ble_eq_true rfl) ⟨Nat.le_refl _, Nat.le_refl _⟩ ?_
    rintro v h' ⟨s', tl, rfl, ht', hm⟩
    cases hq : figL (ltr I A) 2 (s + 1) with
    | none =>
      rw [hq] at hm
      subst hm
      refine n_if_eq (tgt := 273) dX8_item_240 (by decide) (by decide) (fun c0 => ?_) (fun c0 => ?_)
      · refine x_iconst (v := nI 0) dX8_item_273 (by decide) ?_
        refine x_iret dX8_item_274 rfl rfl ⟨Nat.le_refl _, Nat.le_refl _⟩ ?_
        exact fail _ _ (itemT_none (m := 2) (by rw [k105]; rfl) hq) (fun j => ht' j) (fun k j hk => up_ne _ _ hk.2.1 ▸ rfl)
      · exact absurd rfl c0
    | some q =>
      rw [hq] at hm
      obtain ⟨rfl, rfl, hx⟩ := hm
      refine n_if_eq (tgt := 273) dX8_item_240 (by decide) (by decide) (fun c0 => ?_) (fun c0 => ?_)
      · exact absurd c0 (by decide)
      · have hi : itemT (ltr I A) s (vw A 1) = (takeT 105 q.2 (vw A 1)).map (fun T' => (q.1, T')) := by rw [itemT_some (m := 2) (by decide) (by rw [k105]; rfl) hq, k105]
        have v2 : vw A 1 2 0 = A 2 1 := rfl
        have v7 : vw A 1 7 0 = A 7 1 := rfl
        have kt : ∀ (b : Nat → Nat), kpA A (va_up A 20 b) := fun b k j hk => up_ne _ _ hk.2.1 ▸ rfl
        have x0 : tl 0 = q.2.getD 0 0 := hx 0 (by decide)
        have y0 : tl 0 < 1000 := ht' 0
        have x1 : tl 1 = q.2.getD 1 0 := hx 1 (by decide)
        have y1 : tl 1 < 1000 := ht' 1
        refine x_aload_n dX8_item_243 rfl ?_
        refine x_getf dX8_item_244 flX8_67 mH_a rfl ?_
        refine x_iconst (v := nI 0) dX8_item_247 (by decide) ?_
        refine m_iald dX8_item_248 rfl (by simp only [mLen]; omega) (by decide) ?_
        refine x_aload_n dX8_item_249 rfl ?_
        refine x_getf dX8_item_250 flX8_28 mH_a rfl ?_
        refine x_iconst (v := nI 1) dX8_item_253 (by decide) ?_
        refine m_iald dX8_item_254 rfl (by simp only [mLen]; omega) (by decide) ?_
        refine n_icmp_ge (x := tl 0) (y := A 7 1) (tgt := 273) dX8_item_255 (by decide) (by omega) (by omega) (fun c1 => ?_) (fun c1 => ?_)
        · refine x_iconst (v := nI 0) dX8_item_273 (by decide) ?_
          refine x_iret dX8_item_274 rfl rfl ⟨Nat.le_refl _, Nat.le_refl _⟩ ?_
          exact fail _ _ (by rw [hi, takeT]; simp only [if_true, if_false, reduceIte, Nat.reduceEqDiff]; rw [if_neg (by rw [v7]; omega)]; rfl) (fun j => ht' j) (kt _)
        · refine x_aload_n dX8_item_258 rfl ?_
          refine x_getf dX8_item_259 flX8_67 mH_a rfl ?_
          refine x_iconst (v := nI 1) dX8_item_262 (by decide) ?_
          refine m_iald dX8_item_263 rfl (by simp only [mLen]; omega) (by decide) ?_
          refine x_aload_n dX8_item_264 rfl ?_
          refine x_getf dX8_item_265 flX8_13 mH_a rfl ?_
          refine x_iconst (v := nI 1) dX8_item_268 (by decide) ?_
          refine m_iald dX8_item_269 rfl (by simp only [mLen]; omega) (by decide) ?_
          refine n_icmp_lt (x := tl 1) (y := A 2 1) (tgt := 275) dX8_item_270 (by decide) (by omega) (by omega) (fun c2 => ?_) (fun c2 => ?_)
          · refine x_aload_n dX8_item_275 rfl ?_
            refine x_getf dX8_item_276 flX8_52 mH_a rfl ?_
            refine x_aload_n dX8_item_279 rfl ?_
            refine x_getf dX8_item_280 flX8_67 mH_a rfl ?_
            refine x_iconst (v := nI 0) dX8_item_283 (by decide) ?_
            refine m_iald dX8_item_284 rfl (by simp only [mLen]; omega) (by decide) ?_
            refine x_dup2_11 dX8_item_285 rfl rfl ?_
            refine m_iald (j := tl 0) dX8_item_286 rfl (by simp only [mLen]; omega) (by decide) ?_
            refine x_iconst (v := nI 1) dX8_item_287 (by decide) ?_
            refine x_aload_n dX8_item_288 rfl ?_
            refine x_getf dX8_item_289 flX8_67 mH_a rfl ?_
            refine x_iconst (v := nI 1) dX8_item_292 (by decide) ?_
            refine m_iald dX8_item_293 rfl (by simp only [mLen]; omega) (by decide) ?_
            refine n_ishl (y := tl 1) dX8_item_294 (by omega) ?_
            refine n_ior dX8_item_295 ?_
            refine m_iast (j := tl 0) dX8_item_296 rfl (by simp only [mLen]; omega) (by decide) ?_
            refine x_iconst (v := nI 1) dX8_item_297 (by decide) ?_
            refine x_iret dX8_item_298 rfl rfl ⟨Nat.le_refl _, Nat.le_refl _⟩ ?_
            refine good _ _ ?_ (fun j => ?_) ?_
            · rw [hi, takeT]; simp only [if_true, if_false, reduceIte, Nat.reduceEqDiff]; rw [if_pos (by rw [v7, v2]; omega), ← x0, ← x1]
              refine congrArg (fun T' => some (q.1, T')) ?_
              funext k j; simp only [vw, va_up, ite_app]; grind
            · have := ht' j; simp only [va_up, ite_app]; grind
            · intro k j hk; simp only [kp] at hk; simp only [va_up, ite_app]; grind
          · refine x_iconst (v := nI 0) dX8_item_273 (by decide) ?_
            refine x_iret dX8_item_274 rfl rfl ⟨Nat.le_refl _, Nat.le_refl _⟩ ?_
            exact fail _ _ (by rw [hi, takeT]; simp only [if_true, if_false, reduceIte, Nat.reduceEqDiff]; rw [if_neg (by rw [v2]; omega)]; rfl) (fun j => ht' j) (kt _)
  by_cases k103 : ltr I A s = 103
  · rw [k103]
    refine n_tsw (off := 279) (tgt := 299) dX8_item_20 (by decide) (by decide +kernel) (by decide) ?_
    refine x_aload_n dX8_item_299 rfl ?_
    refine x_iconst (v := nI 1) dX8_item_300 (by decide) ?_
    refine x_cVI1 dX8_item_301 lkX8_134 mdX8_figures isX8_figures rfl rfl mH_a (by decide) (c_figures (s := s + 1) (by decide) hl (by omega) hL ht) (Nat.le_of_ble_eq_true rfl) ⟨Nat.le_refl _, Nat.le_refl _⟩ ?_
    rintro v h' ⟨s', tl, rfl, ht', hm⟩
    cases hq : figL (ltr I A) 1 (s + 1) with
    | none =>
      rw [hq] at hm
      subst hm
      refine n_if_eq (tgt := 324) dX8_item_304 (by decide) (by decide) (fun c0 => ?_) (fun c0 => ?_)
      · refine x_iconst (v := nI 0) dX8_item_324 (by decide) ?_
        refine x_iret dX8_item_325 rfl rfl ⟨Nat.le_refl _, Nat.le_refl _⟩ ?_
        exact fail _ _ (itemT_none (m := 1) (by rw [k103]; rfl) hq) (fun j => ht' j) (fun k j hk => up_ne _ _ hk.2.1 ▸ rfl)
      · exact absurd rfl c0
    | some q =>
      rw [hq] at hm
      obtain ⟨rfl, rfl, hx⟩ := hm
      refine n_if_eq (tgt := 324) dX8_item_304 (by decide) (by decide) (fun c0 => ?_) (fun c0 => ?_)
      · exact absurd c0 (by decide)
      · have hi : itemT (ltr I A) s (vw A 1) = (takeT 103 q.2 (vw A 1)).map (fun T' => (q.1, T')) := by rw [itemT_some (m := 1) (by decide) (by rw [k103]; rfl) hq, k103]
        have v2 : vw A 1 2 0 = A 2 1 := rfl
        have v7 : vw A 1 7 0 = A 7 1 := rfl
        have kt : ∀ (b : Nat → Nat), kpA A (va_up A 20 b) := fun b k j hk => up_ne _ _ hk.2.1 ▸ rfl
        have x0 : tl 0 = q.2.getD 0 0 := hx 0 (by decide)
        have y0 : tl 0 < 1000 := ht' 0
        refine x_aload_n dX8_item_307 rfl ?_
        refine x_getf dX8_item_308 flX8_67 mH_a rfl ?_
        refine x_iconst (v := nI 0) dX8_item_311 (by decide) ?_
        refine m_iald dX8_item_312 rfl (by simp only [mLen]; omega) (by decide) ?_
        refine n_i2l (x := tl 0) dX8_item_313 (by omega) ?_
        refine x_lconst (v := lN 1) dX8_item_314 (by decide) ?_
        refine x_ldc2 (v := lN 9) dX8_item_315 coX8_132 ?_
        refine x_cSi3 dX8_item_318 lkX8_109 mdX8_in stX8_in (by decide) (c_inN (by omega) (by decide) (by decide)) (Nat.le_of_ble_eq_true rfl) ⟨Nat.le_refl _, Nat.le_refl _⟩ ?_
        refine b_if_ne (tgt := 326) dX8_item_321 (by decide) (fun c4 => ?_) (fun c4 => ?_)
        · have c4 := of_decide_eq_true c4
          refine x_aload_n dX8_item_326 rfl ?_
          refine x_getf dX8_item_327 flX8_40 mH_a rfl ?_
          refine x_iconst (v := nI 1) dX8_item_330 (by decide) ?_
          refine x_aload_n dX8_item_331 rfl ?_
          refine x_getf dX8_item_332 flX8_67 mH_a rfl ?_
          refine x_iconst (v := nI 0) dX8_item_335 (by decide) ?_
          refine m_iald dX8_item_336 rfl (by simp only [mLen]; omega) (by decide) ?_
          refine m_iast dX8_item_337 rfl (by simp only [mLen]; omega) (by decide) ?_
          refine x_iconst (v := nI 1) dX8_item_338 (by decide) ?_
          refine x_iret dX8_item_339 rfl rfl ⟨Nat.le_refl _, Nat.le_refl _⟩ ?_
          refine good _ _ ?_ (fun j => ?_) ?_
          · rw [hi, takeT]; simp only [if_true, if_false, reduceIte, Nat.reduceEqDiff]; rw [if_pos (by omega), ← x0]
            refine congrArg (fun T' => some (q.1, T')) ?_
            funext k j; simp only [vw, va_up, ite_app]; grind
          · have := ht' j; simp only [va_up, ite_app]; grind
          · intro k j hk; simp only [kp] at hk; simp only [va_up, ite_app]; grind
        · have c4 := of_decide_eq_false c4
          refine x_iconst (v := nI 0) dX8_item_324 (by decide) ?_
          refine x_iret dX8_item_325 rfl rfl ⟨Nat.le_refl _, Nat.le_refl _⟩ ?_
          exact fail _ _ (by rw [hi, takeT]; simp only [if_true, if_false, reduceIte, Nat.reduceEqDiff]; rw [if_neg (by omega)]; rfl) (fun j => ht' j) (kt _)
  by_cases k100 : ltr I A s = 100
  · rw [k100]
    refine n_tsw (off := 320) (tgt := 340) dX8_item_20 (by decide) (by decide +kernel) (by decide) ?_
    refine x_aload_n dX8_item_340 rfl ?_
    refine x_iconst (v := nI 1) dX8_item_341 (by decide) ?_
    refine x_cVI1 dX8_item_342 lkX8_134 mdX8_figures isX8_figures rfl rfl mH_a (by decide) (c_figures (s := s + 1) (by decide) hl (by omega) hL ht) (Nat.le_of_ble_eq_true rfl) ⟨Nat.le_refl _, Nat.le_refl _⟩ ?_
    rintro v h' ⟨s', tl, rfl, ht', hm⟩
    cases hq : figL (ltr I A) 1 (s + 1) with
    | none =>
      rw [hq] at hm
      subst hm
      refine n_if_eq (tgt := 359) dX8_item_345 (by decide) (by decide) (fun c0 => ?_) (fun c0 => ?_)
      · refine x_iconst (v := nI 0) dX8_item_359 (by decide) ?_
        refine x_iret dX8_item_360 rfl rfl ⟨Nat.le_refl _, Nat.le_refl _⟩ ?_
        exact fail _ _ (itemT_none (m := 1) (by rw [k100]; rfl) hq) (fun j => ht' j) (fun k j hk => up_ne _ _ hk.2.1 ▸ rfl)
      · exact absurd rfl c0
    | some q =>
      rw [hq] at hm
      obtain ⟨rfl, rfl, hx⟩ := hm
      refine n_if_eq (tgt := 359) dX8_item_345 (by decide) (by decide) (fun c0 => ?_) (fun c0 => ?_)
      · exact absurd c0 (by decide)
      · have hi : itemT (ltr I A) s (vw A 1) = (takeT 100 q.2 (vw A 1)).map (fun T' => (q.1, T')) := by rw [itemT_some (m := 1) (by decide) (by rw [k100]; rfl) hq, k100]
        have v2 : vw A 1 2 0 = A 2 1 := rfl
        have v7 : vw A 1 7 0 = A 7 1 := rfl
        have kt : ∀ (b : Nat → Nat), kpA A (va_up A 20 b) := fun b k j hk => up_ne _ _ hk.2.1 ▸ rfl
        have x0 : tl 0 = q.2.getD 0 0 := hx 0 (by decide)
        have y0 : tl 0 < 1000 := ht' 0
        refine x_aload_n dX8_item_348 rfl ?_
        refine x_getf dX8_item_349 flX8_67 mH_a rfl ?_
        refine x_iconst (v := nI 0) dX8_item_352 (by decide) ?_
        refine m_iald dX8_item_353 rfl (by simp only [mLen]; omega) (by decide) ?_
        refine x_bipush (v := nI 40) dX8_item_354 (by decide) ?_
        refine n_icmp_le (x := tl 0) (tgt := 361) dX8_item_356 (by decide) (by omega) (by decide) (fun c4 => ?_) (fun c4 => ?_)
        · refine x_aload_n dX8_item_361 rfl ?_
          refine x_getf dX8_item_362 flX8_43 mH_a rfl ?_
          refine x_iconst (v := nI 1) dX8_item_365 (by decide) ?_
          refine x_aload_n dX8_item_366 rfl ?_
          refine x_getf dX8_item_367 flX8_67 mH_a rfl ?_
          refine x_iconst (v := nI 0) dX8_item_370 (by decide) ?_
          refine m_iald dX8_item_371 rfl (by simp only [mLen]; omega) (by decide) ?_
          refine m_iast dX8_item_372 rfl (by simp only [mLen]; omega) (by decide) ?_
          refine x_iconst (v := nI 1) dX8_item_373 (by decide) ?_
          refine x_iret dX8_item_374 rfl rfl ⟨Nat.le_refl _, Nat.le_refl _⟩ ?_
          refine good _ _ ?_ (fun j => ?_) ?_
          · rw [hi, takeT]; simp only [if_true, if_false, reduceIte, Nat.reduceEqDiff]; rw [if_pos (by omega), ← x0]
            refine congrArg (fun T' => some (q.1, T')) ?_
            funext k j; simp only [vw, va_up, ite_app]; grind
          · have := ht' j; simp only [va_up, ite_app]; grind
          · intro k j hk; simp only [kp] at hk; simp only [va_up, ite_app]; grind
        · refine x_iconst (v := nI 0) dX8_item_359 (by decide) ?_
          refine x_iret dX8_item_360 rfl rfl ⟨Nat.le_refl _, Nat.le_refl _⟩ ?_
          exact fail _ _ (by rw [hi, takeT]; simp only [if_true, if_false, reduceIte, Nat.reduceEqDiff]; rw [if_neg (by omega)]; rfl) (fun j => ht' j) (kt _)
  by_cases k110 : ltr I A s = 110
  · rw [k110]
    refine n_tsw (off := 355) (tgt := 375) dX8_item_20 (by decide) (by decide +kernel) (by decide) ?_
    refine x_aload_n dX8_item_375 rfl ?_
    refine x_iconst (v := nI 3) dX8_item_376 (by decide) ?_
    refine x_cVI1 dX8_item_377 lkX8_134 mdX8_figures isX8_figures rfl rfl mH_a (by decide) (c_figures (s := s + 1) (by decide) hl (by omega) hL ht) (Nat.le_of_ble_eq_true rfl) ⟨Nat.le_refl _, Nat.le_refl _⟩ ?_
    rintro v h' ⟨s', tl, rfl, ht', hm⟩
    cases hq : figL (ltr I A) 3 (s + 1) with
    | none =>
      rw [hq] at hm
      subst hm
      refine n_if_eq (tgt := 421) dX8_item_380 (by decide) (by decide) (fun c0 => ?_) (fun c0 => ?_)
      · refine x_iconst (v := nI 0) dX8_item_421 (by decide) ?_
        refine x_iret dX8_item_422 rfl rfl ⟨Nat.le_refl _, Nat.le_refl _⟩ ?_
        exact fail _ _ (itemT_none (m := 3) (by rw [k110]; rfl) hq) (fun j => ht' j) (fun k j hk => up_ne _ _ hk.2.1 ▸ rfl)
      · exact absurd rfl c0
    | some q =>
      rw [hq] at hm
      obtain ⟨rfl, rfl, hx⟩ := hm
      refine n_if_eq (tgt := 421) dX8_item_380 (by decide) (by decide) (fun c0 => ?_) (fun c0 => ?_)
      · exact absurd c0 (by decide)
      · have hi : itemT (ltr I A) s (vw A 1) = (takeT 110 q.2 (vw A 1)).map (fun T' => (q.1, T')) := by rw [itemT_some (m := 3) (by decide) (by rw [k110]; rfl) hq, k110]
        have v2 : vw A 1 2 0 = A 2 1 := rfl
        have v7 : vw A 1 7 0 = A 7 1 := rfl
        have kt : ∀ (b : Nat → Nat), kpA A (va_up A 20 b) := fun b k j hk => up_ne _ _ hk.2.1 ▸ rfl
        have x0 : tl 0 = q.2.getD 0 0 := hx 0 (by decide)
        have y0 : tl 0 < 1000 := ht' 0
        have x1 : tl 1 = q.2.getD 1 0 := hx 1 (by decide)
        have y1 : tl 1 < 1000 := ht' 1
        have x2 : tl 2 = q.2.getD 2 0 := hx 2 (by decide)
        have y2 : tl 2 < 1000 := ht' 2
        refine x_aload_n dX8_item_383 rfl ?_
        refine x_getf dX8_item_384 flX8_67 mH_a rfl ?_
        refine x_iconst (v := nI 0) dX8_item_387 (by decide) ?_
        refine m_iald dX8_item_388 rfl (by simp only [mLen]; omega) (by decide) ?_
        refine x_iconst (v := nI 3) dX8_item_389 (by decide) ?_
        refine n_icmp_gt (x := tl 0) (tgt := 421) dX8_item_390 (by decide) (by omega) (by decide) (fun c2 => ?_) (fun c2 => ?_)
        · refine x_iconst (v := nI 0) dX8_item_421 (by decide) ?_
          refine x_iret dX8_item_422 rfl rfl ⟨Nat.le_refl _, Nat.le_refl _⟩ ?_
          exact fail _ _ (by rw [hi, takeT]; simp only [if_true, if_false, reduceIte, Nat.reduceEqDiff]; rw [if_neg (by omega)]; rfl) (fun j => ht' j) (kt _)
        · refine x_aload_n dX8_item_393 rfl ?_
          refine x_getf dX8_item_394 flX8_67 mH_a rfl ?_
          refine x_iconst (v := nI 1) dX8_item_397 (by decide) ?_
          refine m_iald dX8_item_398 rfl (by simp only [mLen]; omega) (by decide) ?_
          refine x_bipush (v := nI 9) dX8_item_399 (by decide) ?_
          refine n_icmp_gt (x := tl 1) (tgt := 421) dX8_item_401 (by decide) (by omega) (by decide) (fun c3 => ?_) (fun c3 => ?_)
          · refine x_iconst (v := nI 0) dX8_item_421 (by decide) ?_
            refine x_iret dX8_item_422 rfl rfl ⟨Nat.le_refl _, Nat.le_refl _⟩ ?_
            exact fail _ _ (by rw [hi, takeT]; simp only [if_true, if_false, reduceIte, Nat.reduceEqDiff]; rw [if_neg (by omega)]; rfl) (fun j => ht' j) (kt _)
          · refine x_aload_n dX8_item_404 rfl ?_
            refine x_getf dX8_item_405 flX8_67 mH_a rfl ?_
            refine x_iconst (v := nI 2) dX8_item_408 (by decide) ?_
            refine m_iald dX8_item_409 rfl (by simp only [mLen]; omega) (by decide) ?_
            refine n_i2l (x := tl 2) dX8_item_410 (by omega) ?_
            refine x_lconst (v := lN 1) dX8_item_411 (by decide) ?_
            refine x_ldc2 (v := lN 60) dX8_item_412 coX8_142 ?_
            refine x_cSi3 dX8_item_415 lkX8_109 mdX8_in stX8_in (by decide) (c_inN (by omega) (by decide) (by decide)) (Nat.le_of_ble_eq_true rfl) ⟨Nat.le_refl _, Nat.le_refl _⟩ ?_
            refine b_if_ne (tgt := 423) dX8_item_418 (by decide) (fun c4 => ?_) (fun c4 => ?_)
            · have c4 := of_decide_eq_true c4
              refine x_aload_n dX8_item_423 rfl ?_
              refine x_getf dX8_item_424 flX8_46 mH_a rfl ?_
              refine x_iconst (v := nI 4) dX8_item_427 (by decide) ?_
              refine x_aload_n dX8_item_428 rfl ?_
              refine x_getf dX8_item_429 flX8_67 mH_a rfl ?_
              refine x_iconst (v := nI 0) dX8_item_432 (by decide) ?_
              refine m_iald dX8_item_433 rfl (by simp only [mLen]; omega) (by decide) ?_
              refine n_iadd (y := tl 0) dX8_item_434 ?_
              refine x_aload_n dX8_item_435 rfl ?_
              refine x_getf dX8_item_436 flX8_67 mH_a rfl ?_
              refine x_iconst (v := nI 1) dX8_item_439 (by decide) ?_
              refine m_iald dX8_item_440 rfl (by simp only [mLen]; omega) (by decide) ?_
              refine m_iast (x := tl 1) dX8_item_441 rfl (by simp only [mLen]; omega) (by decide) ?_
              refine x_aload_n dX8_item_442 rfl ?_
              refine x_getf dX8_item_443 flX8_49 mH_a rfl ?_
              refine x_iconst (v := nI 4) dX8_item_446 (by decide) ?_
              refine x_aload_n dX8_item_447 rfl ?_
              refine x_getf dX8_item_448 flX8_67 mH_a rfl ?_
              refine x_iconst (v := nI 0) dX8_item_451 (by decide) ?_
              refine m_iald dX8_item_452 rfl (by simp only [mLen]; omega) (by decide) ?_
              refine n_iadd (y := tl 0) dX8_item_453 ?_
              refine x_aload_n dX8_item_454 rfl ?_
              refine x_getf dX8_item_455 flX8_67 mH_a rfl ?_
              refine x_iconst (v := nI 2) dX8_item_458 (by decide) ?_
              refine m_iald dX8_item_459 rfl (by simp only [mLen]; omega) (by decide) ?_
              refine m_iast (x := tl 2) dX8_item_460 rfl (by simp only [mLen]; omega) (by decide) ?_
              refine x_iconst (v := nI 1) dX8_item_461 (by decide) ?_
              refine x_iret dX8_item_462 rfl rfl ⟨Nat.le_refl _, Nat.le_refl _⟩ ?_
              refine good _ _ ?_ (fun j => ?_) ?_
              · rw [hi, takeT]; simp only [if_true, if_false, reduceIte, Nat.reduceEqDiff]; rw [if_pos (by omega), ← x0, ← x1, ← x2]
                refine congrArg (fun T' => some (q.1, T')) ?_
                funext k j; simp only [vw, va_up, ite_app]; grind
              · have := ht' j; simp only [va_up, ite_app]; grind
              · intro k j hk; simp only [kp] at hk; simp only [va_up, ite_app]; grind
            · have c4 := of_decide_eq_false c4
              refine x_iconst (v := nI 0) dX8_item_421 (by decide) ?_
              refine x_iret dX8_item_422 rfl rfl ⟨Nat.le_refl _, Nat.le_refl _⟩ ?_
              exact fail _ _ (by rw [hi, takeT]; simp only [if_true, if_false, reduceIte, Nat.reduceEqDiff]; rw [if_neg (by omega)]; rfl) (fun j => ht' j) (kt _)
  have hz : cntT (ltr I A s) = 0 := by unfold cntT; rw [if_neg k116, if_neg k112, if_neg k105, if_neg k103, if_neg k100, if_neg k110]
  refine n_tsw (tgt := 463) dX8_item_20 (by omega) (sw_item _ hLs hz) (by decide) ?_
  refine x_iconst (v := nI 0) dX8_item_463 (by decide) ?_
  refine x_iret dX8_item_464 rfl rfl ⟨Nat.le_refl _, Nat.le_refl _⟩ ?_
  exact fail _ _ (by unfold itemT; rw [if_pos hz]) ht kpA.rf
end ZM5
