abbrev sC (len : Nat) : (Nat → Nat) → zC := fun f => .inl (.char, len, .inl (fun j => nI (f j)))
abbrev sX (a b : Nat) : (Nat → Nat) → zC := fun f => .inr (3, [.ref a, .int (nI (f 1)), .ref b, .int (nI (f 3))])
/-- the letters of the class's text -/
def lt3 (V : Nat → Nat → Nat) (x a : Nat) : Nat → Nat := fun j => if j < V x 1 then V a j else 0
/-- the numbers of an item, as the class reads them -/
def rnF (L : Nat → Nat) : Nat → Nat → Option (Nat × List Nat)
  | 0, _ => none
  | r + 1, s => if fig (L s) then (if L (s + (if fig (L (s + 1)) then 2 else 1)) = 59 then some (s + (if fig (L (s + 1)) then 2 else 1) + 1, [dval L s (if fig (L (s + 1)) then 2 else 1)]) else if L (s + (if fig (L (s + 1)) then 2 else 1)) = 44 then (rnF L r (s + (if fig (L (s + 1)) then 2 else 1) + 1)).map (fun q => (q.1, dval L s (if fig (L (s + 1)) then 2 else 1) :: q.2)) else none) else none
section ZS20
variable {G : zG} {n : Nat} {h0 : zF} {L : zSh} {V : Nat → Nat → Nat} {x a b : Nat}
theorem c_letterS {j : Nat} (hx : L x = some (sX a b)) (ha : L a = some (sC 200)) (hj : j < 2 ^ 31) (hl : V x 1 ≤ 200) : zI G MX3_letterAt 0 [.ref x, .int (nI j)] (gH h0 L V) n (nI (lt3 V x a j)) := by
  refine zCt.of rfl (Nat.le_of_ble_eq_true rfl) rfl ?_
  refine x_iload_n dX3_letterAt_0 rfl ?_
  refine x_if_lt (tgt := 30) dX3_letterAt_1 (by decide) (fun c1 => absurd c1 (nI_pos hj)) (fun c1 => ?_)
  refine x_iload_n dX3_letterAt_4 rfl ?_
  refine x_aload_n dX3_letterAt_5 rfl ?_
  refine x_getf dX3_letterAt_6 flX3_19 (g_c hx) rfl ?_
  refine n_icmp_ge (tgt := 30) dX3_letterAt_9 (by decide) (by omega) (by omega) (fun c2 => ?_) (fun c2 => ?_)
  · refine x_iconst (v := nI 0) dX3_letterAt_30 (by decide) ?_
    refine x_iret dX3_letterAt_31 rfl rfl ⟨Nat.le_refl _, Nat.le_refl _⟩ ?_
    exact ⟨by unfold lt3; rw [if_neg (by omega)], rfl, rfl⟩
  · refine x_iload_n dX3_letterAt_12 rfl ?_
    refine x_aload_n dX3_letterAt_13 rfl ?_
    refine x_getf dX3_letterAt_14 flX3_9 (g_c hx) rfl ?_
    refine x_alen dX3_letterAt_17 (g_c ha) rfl ?_
    refine n_icmp_ge (y := 200) (tgt := 30) dX3_letterAt_18 (by decide) hj (by decide) (fun c3 => ?_) (fun c3 => ?_)
    · omega
    · refine x_aload_n dX3_letterAt_21 rfl ?_
      refine x_getf dX3_letterAt_22 flX3_9 (g_c hx) rfl ?_
      refine x_iload_n dX3_letterAt_25 rfl ?_
      refine x_cald dX3_letterAt_26 (g_c ha) (vp_in_nI (by omega) (by decide)) ?_
      rw [nI_clamp hj]
      refine x_goto (tgt := 31) dX3_letterAt_27 (by decide) ?_
      refine x_iret dX3_letterAt_31 rfl rfl ⟨Nat.le_refl _, Nat.le_refl _⟩ ?_
      exact ⟨by unfold lt3; rw [if_pos (by omega)], rfl, rfl⟩
theorem c_isFigure {h : zF} {c : Nat} (hc : c < 2 ^ 31) : zI G MX3_isFigure 1 [.int (nI c)] h n (nI (fig c).toNat) := by
  refine zCt.of rfl (Nat.le_of_ble_eq_true rfl) rfl ?_
  refine x_iload_n dX3_isFigure_0 rfl ?_
  refine x_bipush (v := nI 48) dX3_isFigure_1 (by decide) ?_
  refine x_bipush (v := nI 57) dX3_isFigure_3 (by decide) ?_
  refine x_cSi3 dX3_isFigure_5 lkX3_57 mdX7_isWithin stX7_isWithin (by decide) (c_isWithin hc (by decide) (by decide)) (Nat.le_of_ble_eq_true rfl) ⟨Nat.le_refl _, Nat.le_refl _⟩ ?_
  refine x_iret dX3_isFigure_8 rfl (nar_b _) ⟨Nat.le_refl _, Nat.le_refl _⟩ ?_
  exact ⟨rfl, rfl, rfl⟩
theorem c_figuresAt {j : Nat} (hx : L x = some (sX a b)) (ha : L a = some (sC 200)) (hj : j < 2 ^ 30) (hl : V x 1 ≤ 200) (hL : ∀ j, lt3 V x a j < 128) : zI G MX3_figuresAt 2 [.ref x, .int (nI j)] (gH h0 L V) n (nI (if fig (lt3 V x a j) then (if fig (lt3 V x a (j + 1)) then 2 else 1) else 0)) := by
  refine zCt.of rfl (Nat.le_of_ble_eq_true rfl) rfl ?_
  have l0 := hL j
  have l1 := hL (j + 1)
  refine x_aload_n dX3_figuresAt_0 rfl ?_
  refine x_iload_n dX3_figuresAt_1 rfl ?_
  refine x_cVi1 dX3_figuresAt_2 lkX3_32 mdX3_letterAt isX3_letterAt rfl rfl (g_c hx) (by decide) (c_letterS hx ha (by omega) hl) (Nat.le_of_ble_eq_true rfl) ⟨Nat.le_refl _, Nat.le_refl _⟩ ?_
  refine x_cSi1 dX3_figuresAt_5 lkX3_53 mdX3_isFigure stX3_isFigure (by decide) (c_isFigure (by omega)) (Nat.le_of_ble_eq_true rfl) ⟨Nat.le_refl _, Nat.le_refl _⟩ ?_
  refine b_if_ne (tgt := 13) dX3_figuresAt_8 (by decide) (fun c1 => ?_) (fun c1 => ?_)
  · refine x_aload_n dX3_figuresAt_13 rfl ?_
    refine x_iload_n dX3_figuresAt_14 rfl ?_
    refine x_iconst (v := nI 1) dX3_figuresAt_15 (by decide) ?_
    refine n_iadd dX3_figuresAt_16 ?_
    refine x_cVi1 dX3_figuresAt_17 lkX3_32 mdX3_letterAt isX3_letterAt rfl rfl (g_c hx) (by decide) (c_letterS hx ha (by omega) hl) (Nat.le_of_ble_eq_true rfl) ⟨Nat.le_refl _, Nat.le_refl _⟩ ?_
    refine x_cSi1 dX3_figuresAt_20 lkX3_53 mdX3_isFigure stX3_isFigure (by decide) (c_isFigure (by omega)) (Nat.le_of_ble_eq_true rfl) ⟨Nat.le_refl _, Nat.le_refl _⟩ ?_
    refine b_if_eq (tgt := 30) dX3_figuresAt_23 (by decide) (fun c2 => ?_) (fun c2 => ?_)
    · refine x_iconst (v := nI 1) dX3_figuresAt_30 (by decide) ?_
      refine x_iret dX3_figuresAt_31 rfl rfl ⟨Nat.le_refl _, Nat.le_refl _⟩ ?_
      exact ⟨by rw [c1, c2]; rfl, rfl, rfl⟩
    · refine x_iconst (v := nI 2) dX3_figuresAt_26 (by decide) ?_
      refine x_goto (tgt := 31) dX3_figuresAt_27 (by decide) ?_
      refine x_iret dX3_figuresAt_31 rfl rfl ⟨Nat.le_refl _, Nat.le_refl _⟩ ?_
      exact ⟨by rw [c1, c2]; rfl, rfl, rfl⟩
  · refine x_iconst (v := nI 0) dX3_figuresAt_11 (by decide) ?_
    refine x_iret dX3_figuresAt_12 rfl rfl ⟨Nat.le_refl _, Nat.le_refl _⟩ ?_
    exact ⟨by rw [c1]; rfl, rfl, rfl⟩
theorem c_numberAt {j : Nat} (hx : L x = some (sX a b)) (ha : L a = some (sC 200)) (hj : j < 2 ^ 30) (hl : V x 1 ≤ 200) (hL : ∀ j, lt3 V x a j < 128) (h1 : fig (lt3 V x a j) = true) : zI G MX3_numberAt 1 [.ref x, .int (nI j), .int (nI (if fig (lt3 V x a (j + 1)) then 2 else 1))] (gH h0 L V) n (nI (dval (lt3 V x a) j (if fig (lt3 V x a (j + 1)) then 2 else 1))) := by
  refine zCt.of rfl (Nat.le_of_ble_eq_true rfl) rfl ?_
  have l0 := hL j
  have l1 := hL (j + 1)
  have hf := of_decide_eq_true h1
  refine x_aload_n dX3_numberAt_0 rfl ?_
  refine x_iload_n dX3_numberAt_1 rfl ?_
  refine x_cVi1 dX3_numberAt_2 lkX3_32 mdX3_letterAt isX3_letterAt rfl rfl (g_c hx) (by decide) (c_letterS hx ha (by omega) hl) (Nat.le_of_ble_eq_true rfl) ⟨Nat.le_refl _, Nat.le_refl _⟩ ?_
  refine x_bipush (v := nI 48) dX3_numberAt_5 (by decide) ?_
  refine n_isub dX3_numberAt_7 (by omega) ?_
  refine x_is3 dX3_numberAt_8 (by decide) rfl ?_
  refine x_iload_n dX3_numberAt_9 rfl ?_
  refine x_iconst (v := nI 1) dX3_numberAt_10 (by decide) ?_
  by_cases c2 : fig (lt3 V x a (j + 1)) = true
  · rw [if_pos c2]
    have hf2 := of_decide_eq_true c2
    refine n_icmp_ne (tgt := 18) dX3_numberAt_11 (by decide) (by omega) (by omega) (fun c3 => ?_) (fun c3 => ?_)
    · refine x_bipush (v := nI 10) dX3_numberAt_18 (by decide) ?_
      refine x_iload_n dX3_numberAt_20 rfl ?_
      refine n_imul dX3_numberAt_21 ?_
      refine x_aload_n dX3_numberAt_22 rfl ?_
      refine x_iload_n dX3_numberAt_23 rfl ?_
      refine x_iconst (v := nI 1) dX3_numberAt_24 (by decide) ?_
      refine n_iadd dX3_numberAt_25 ?_
      refine x_cVi1 dX3_numberAt_26 lkX3_32 mdX3_letterAt isX3_letterAt rfl rfl (g_c hx) (by decide) (c_letterS hx ha (by omega) hl) (Nat.le_of_ble_eq_true rfl) ⟨Nat.le_refl _, Nat.le_refl _⟩ ?_
      refine n_iadd dX3_numberAt_29 ?_
      refine x_bipush (v := nI 48) dX3_numberAt_30 (by decide) ?_
      refine n_isub dX3_numberAt_32 (by omega) ?_
      refine x_iret dX3_numberAt_33 rfl rfl ⟨Nat.le_refl _, Nat.le_refl _⟩ ?_
      refine ⟨?_, rfl, rfl⟩
      simp [dval]
    · omega
  · rw [if_neg c2]
    refine n_icmp_ne (tgt := 18) dX3_numberAt_11 (by decide) (by omega) (by omega) (fun c3 => ?_) (fun c3 => ?_)
    · omega
    · refine x_iload_n dX3_numberAt_14 rfl ?_
      refine x_goto (tgt := 33) dX3_numberAt_15 (by decide) ?_
      refine x_iret dX3_numberAt_33 rfl rfl ⟨Nat.le_refl _, Nat.le_refl _⟩ ?_
      refine ⟨?_, rfl, rfl⟩
      simp [dval]
end ZS20
