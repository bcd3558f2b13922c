theorem chO_lt {T : zT} {l : List Nat} : ∀ k, 1 ≤ k → (chO T l k).1 < k ∧ (chO T l k).2 ≤ l.length
  | 0, h => absurd h (by decide)
  | k + 1, _ => by
    have h2 := mxA_le (T := T) (p := k / 4) (sort := k % 4) (l := l)
    unfold chO
    by_cases hc : mxA T (k / 4) (k % 4) l < (chO T l k).2
    · rw [if_pos hc]; exact ⟨Nat.lt_succ_self k, h2⟩
    · rw [if_neg hc]
      by_cases k0 : k = 0
      · subst k0
        exfalso
        apply hc
        show _ < l.length + 1
        omega
      · have := chO_lt (T := T) (l := l) k (by omega)
        exact ⟨by omega, this.2⟩
/-- the solving, by lists -/
def slL (T : zT) (c : Nat) : Nat → List Nat → Nat → Nat → Option Nat × Nat
  | 0, l, m, took => if l.length = 1 then (some m, took) else (none, took)
  | r + 1, l, m, took => if l.length ≤ 1 then (if l.length = 1 then (some m, took) else (none, took)) else if l.length ≤ (chO T l (4 * T 7 0)).2 then (none, took) else slL T c r (naL T ((chO T l (4 * T 7 0)).1 / 4) ((chO T l (4 * T 7 0)).1 % 4) (ansF T ((chO T l (4 * T 7 0)).1 / 4) ((chO T l (4 * T 7 0)).1 % 4) (sI c ((chO T l (4 * T 7 0)).1 / 4)) 0) l) (m + 1) (took + T 14 ((chO T l (4 * T 7 0)).1 % 4))
def slP (V' : Nat → Nat → Nat) (y : Nat) (q : Option Nat × Nat) (v : Int32) : Prop := match q.1 with
  | some m => v = nI 1 ∧ V' y 2 = m ∧ V' y 3 = q.2
  | none => v = nI 0
section ZS26
variable {G : zG} {n : Nat} {h0 : zF} {L : zSh} {V : Nat → Nat → Nat} {y w r len t : Nat} {J : Nat → Nat} {X : Nat → Nat → Nat} {T : zT}
/-- what a list of worlds is, for the finder -/
def lOK (T : zT) (l : List Nat) : Prop := (∀ x ∈ l, ∀ p, p < T 7 0 → ∀ so, so < 4 → (1 ≤ sI x p ∧ sI x p < 2 ^ T 2 0) ∧ ansF T p so (sI x p) 0 < 60) ∧ (∀ x ∈ l, x < 2 ^ 32) ∧ l.length < 2 ^ 29
theorem lOK.fil {l : List Nat} {g : Nat → Bool} (h : lOK T l) : lOK T (l.filter g) := ⟨fun x hx => h.1 x ((List.mem_filter.mp hx).1), fun x hx => h.2.1 x ((List.mem_filter.mp hx).1), Nat.lt_of_le_of_lt (List.length_filter_le _ _) h.2.2⟩
set_option maxRecDepth 100000 in
theorem c_solves {l : List Nat} {c : Nat} (hy : zFi L y) (hw : L w = some (sW r)) (hr : L r = some (sA len)) (hm : len < 2 ^ 31) (hl : isWs V w r l) (hln : l.length ≤ len) (hT : ∀ V, zTr (gH h0 L V) t J X) (hI : tI J X T) (hk : tR T) (h71 : 1 ≤ T 7 0) (hok : lOK T l) (hc32 : c < 2 ^ 32) (hry : r < y ∨ y + 5 < r) : zPi G MX0_solves 5 [.ref y, .ref t, .ref w, .int (nI c)] (gH h0 L V) n (fun v h' => ∃ V', h' = gH h0 L V' ∧ (∀ b, b ≠ y → b ≠ y + 1 → b ≠ y + 2 → b ≠ w → b ≠ r → V' b = V b) ∧ slP V' y (if c ∈ l then slL T c 20 l 0 0 else (none, 0)) v) := by
  refine zCt.of rfl (Nat.le_of_ble_eq_true rfl) rfl ?_
  have k2 := hk.1
  have k7 := hk.2.1
  have hne := wr_ne hw hr
  have hpow : 2 ^ T 2 0 ≤ 256 := (Nat.pow_le_pow_right (by decide) k2 : 2 ^ T 2 0 ≤ 2 ^ 8)
  have w0 : w ≠ y := by
    rintro rfl
    have := hy.1
    rw [hw] at this
    have := congrFun (Option.some.inj this) (fun _ => 0)
    cases this
  have w1 := ws_ne hw hy.2.1
  have w2 := ws_ne hw hy.2.2.1
  refine x_aload_n dX0_solves_0 rfl ?_
  refine x_iconst (v := nI 0) dX0_solves_1 (by decide) ?_
  refine g_put dX0_solves_2 flX0_86 ftX0_2 hy.1 (Nat.le_of_ble_eq_true rfl) rfl ?_
  refine x_aload_n dX0_solves_5 rfl ?_
  refine x_iconst (v := nI 0) dX0_solves_6 (by decide) ?_
  refine g_put dX0_solves_7 flX0_89 ftX0_3 hy.1 (Nat.le_of_ble_eq_true rfl) rfl ?_
  generalize hV0 : va_up (va_up V y (va_up (V y) 2 0)) y (va_up ((va_up V y (va_up (V y) 2 0)) y) 3 0) = V0
  have u1 : ∀ b, b ≠ y → V0 b = V b := fun b hb => by rw [← hV0, up_ne _ _ hb, up_ne _ _ hb]
  have u2 : V0 y 2 = 0 ∧ V0 y 3 = 0 := by rw [← hV0, up_eq, up_eq]; exact ⟨rfl, rfl⟩
  have hl0 : isWs V0 w r l := ⟨by rw [u1 w w0]; exact hl.1, by rw [u1 r (by omega)]; exact hl.2⟩
  refine x_aload_n dX0_solves_10 rfl ?_
  refine x_iload_n dX0_solves_11 rfl ?_
  refine x_cVi1 dX0_solves_12 lkX0_92 mdX6_holds isX6_holds rfl rfl (g_c hw) (by decide) (c_holds hw hr hm hl0 hln hc32 hok.2.1) (Nat.le_of_ble_eq_true rfl) ⟨Nat.le_refl _, Nat.le_refl _⟩ ?_
  by_cases hcl : c ∈ l
  · rw [decide_eq_true hcl, if_pos hcl]
    refine b_if_ne (b := true) (tgt := 20) dX0_solves_15 (by decide) (fun _ => ?_) (fun z => by cases z)
    generalize hRES : slL T c 20 l 0 0 = RES
    refine x_iconst (v := nI 0) dX0_solves_20 (by decide) ?_
    refine x_is4 dX0_solves_21 (by decide) rfl ?_
    have K133 : ∀ (V' : Nat → Nat → Nat) (l : List Nat) (i took : Nat) (o5 o6 : Option Value), (∀ b, b ≠ y → b ≠ y + 1 → b ≠ y + 2 → b ≠ w → b ≠ r → V' b = V b) → isWs V' w r l → l.length < 2 ^ 29 → V' y 2 = i → V' y 3 = took → RES = (if l.length = 1 then (some i, took) else (none, took)) → zEx G MX0_solves 5 0 0 133 [some (.ref y), some (.ref t), some (.ref w), some (.int (nI c)), some (.int (nI i)), o5, o6] [] (gH h0 L V') n (0, 0) (fun r1 h' n' => ∃ v, r1 = some (.int v) ∧ (∃ V', h' = gH h0 L V' ∧ (∀ b, b ≠ y → b ≠ y + 1 → b ≠ y + 2 → b ≠ w → b ≠ r → V' b = V b) ∧ slP V' y RES v) ∧ n' = n) := by
      intro V' l i took o5 o6 g1 g2 g3 g4 g5 g6
      have ew : V' w 1 = l.length := g2.1
      refine x_aload_n dX0_solves_133 rfl ?_
      refine x_getf dX0_solves_134 flX0_31 (g_c hw) rfl ?_
      refine x_iconst (v := nI 1) dX0_solves_137 (by decide) ?_
      rw [ew]
      refine n_icmp_ne (tgt := 145) dX0_solves_138 (by decide) (by omega) (by omega) (fun c1 => ?_) (fun c1 => ?_)
      · refine x_iconst (v := nI 0) dX0_solves_145 (by decide) ?_
        refine x_iret dX0_solves_146 rfl (nar_b false) ⟨Nat.le_refl _, Nat.le_refl _⟩ ?_
        refine ⟨_, rfl, ⟨V', rfl, g1, ?_⟩, rfl⟩
        rw [g6, if_neg c1]; rfl
      · refine x_iconst (v := nI 1) dX0_solves_141 (by decide) ?_
        refine x_goto (tgt := 146) dX0_solves_142 (by decide) ?_
        refine x_iret dX0_solves_146 rfl (nar_b true) ⟨Nat.le_refl _, Nat.le_refl _⟩ ?_
        refine ⟨_, rfl, ⟨V', rfl, g1, ?_⟩, rfl⟩
        rw [g6, if_pos c1]; exact ⟨rfl, g4, g5⟩
    have key : ∀ r' i, i + r' = 20 → ∀ (V' : Nat → Nat → Nat) (l : List Nat) (took : Nat) (o5 o6 : Option Value), (∀ b, b ≠ y → b ≠ y + 1 → b ≠ y + 2 → b ≠ w → b ≠ r → V' b = V b) → isWs V' w r l → l.length ≤ len → lOK T l → c ∈ l → V' y 2 = i → V' y 3 = took → RES = slL T c r' l i took → zEx G MX0_solves 5 0 0 23 [some (.ref y), some (.ref t), some (.ref w), some (.int (nI c)), some (.int (nI i)), o5, o6] [] (gH h0 L V') n (0, 0) (fun r1 h' n' => ∃ v, r1 = some (.int v) ∧ (∃ V', h' = gH h0 L V' ∧ (∀ b, b ≠ y → b ≠ y + 1 → b ≠ y + 2 → b ≠ w → b ≠ r → V' b = V b) ∧ slP V' y RES v) ∧ n' = n) := by
      intro r'
      induction r' with
      | zero =>
        intro i hi V' l took o5 o6 g1 g2 g2l g3 gc g4 g5 g6
        refine x_iload dX0_solves_23 rfl ?_
        refine x_bipush (v := nI 20) dX0_solves_25 (by decide) ?_
        refine n_icmp_ge (tgt := 133) dX0_solves_27 (by decide) (by omega) (by omega) (fun c1 => ?_) (fun c1 => ?_)
        · exact K133 V' l i took _ _ g1 g2 g3.2.2 g4 g5 g6
        · omega
      | succ r' ih =>
        intro i hi V' l took o5 o6 g1 g2 g2l g3 gc g4 g5 g6
        have hll := g3.2.2
        have ew : V' w 1 = l.length := g2.1
        have eS : slL T c (r' + 1) l i took = if l.length ≤ 1 then (if l.length = 1 then (some i, took) else (none, took)) else if l.length ≤ (chO T l (4 * T 7 0)).2 then (none, took) else slL T c r' (naL T ((chO T l (4 * T 7 0)).1 / 4) ((chO T l (4 * T 7 0)).1 % 4) (ansF T ((chO T l (4 * T 7 0)).1 / 4) ((chO T l (4 * T 7 0)).1 % 4) (sI c ((chO T l (4 * T 7 0)).1 / 4)) 0) l) (i + 1) (took + T 14 ((chO T l (4 * T 7 0)).1 % 4)) := rfl
        rw [← g6] at eS
        have hch := chO_lt (T := T) (l := l) (4 * T 7 0) (by omega)
        refine x_iload dX0_solves_23 rfl ?_
        refine x_bipush (v := nI 20) dX0_solves_25 (by decide) ?_
        refine n_icmp_ge (tgt := 133) dX0_solves_27 (by decide) (by omega) (by omega) (fun c1 => ?_) (fun c1 => ?_)
        · omega
        · refine x_aload_n dX0_solves_30 rfl ?_
          refine x_getf dX0_solves_31 flX0_31 (g_c hw) rfl ?_
          refine x_iconst (v := nI 1) dX0_solves_34 (by decide) ?_
          rw [ew]
          refine n_icmp_le (tgt := 133) dX0_solves_35 (by decide) (by omega) (by omega) (fun c2 => ?_) (fun c2 => ?_)
          · refine K133 V' l i took _ _ g1 g2 g3.2.2 g4 g5 ?_
            rw [eS, if_pos c2]
          · rw [if_neg c2] at eS
            refine x_aload_n dX0_solves_38 rfl ?_
            refine x_aload_n dX0_solves_39 rfl ?_
            refine x_aload_n dX0_solves_40 rfl ?_
            refine x_cVV2 dX0_solves_41 lkX0_96 mdX0_choose isX0_choose rfl rfl (g_c (And.left hy)) (by decide) (c_choose hy hw hr hm g2 g2l hT hI hk g3.1 g3.2.2 hry) (Nat.le_of_ble_eq_true rfl) ⟨Nat.le_refl _, Nat.le_refl _⟩ ?_
            generalize chO T l (4 * T 7 0) = ch at eS hch
            obtain ⟨tr, wo⟩ := ch
            simp only at eS hch
            rintro h' ⟨V1, rfl, f1, f2, f3, f4⟩
            simp only at f3 f4
            have e1 : isWs V1 w r l := ⟨by rw [f1 w w0 w1 w2]; exact g2.1, by rw [f1 r (by omega) (by omega) (by omega)]; exact g2.2⟩
            have ew1 : V1 w 1 = l.length := e1.1
            refine x_aload_n dX0_solves_44 rfl ?_
            refine x_getf dX0_solves_45 flX0_36 (g_c (And.left hy)) rfl ?_
            rw [f4]
            refine x_aload_n dX0_solves_48 rfl ?_
            refine x_getf dX0_solves_49 flX0_31 (g_c hw) rfl ?_
            rw [ew1]
            refine n_icmp_lt (tgt := 57) dX0_solves_52 (by decide) (by omega) (by omega) (fun c3 => ?_) (fun c3 => ?_)
            · rw [if_neg (by omega)] at eS
              have hx := fun x hx => (g3.1 x hx (tr / 4) (by omega) (tr % 4) (by omega)).1.2
              have hcs := hx c gc
              have hal := ansF_K hk (show tr / 4 < T 7 0 by omega) (show tr % 4 < 4 by omega) (show sI c (tr / 4) < 256 by omega)
              generalize hae : ansF T (tr / 4) (tr % 4) (sI c (tr / 4)) 0 = ae at hal eS
              have crep := c_reply (G := G) (n := n) (hT V1) hI hk (show tr / 4 < T 7 0 by omega) (show tr % 4 < 4 by omega) hcs (show 0 < 100 by decide)
              rw [hae] at crep
              have e14 := ((hI.2.2.2.1 (tr % 4) (by omega)).2)
              refine x_aload_n dX0_solves_57 rfl ?_
              refine x_getf dX0_solves_58 flX0_27 (g_c (And.left hy)) rfl ?_
              rw [f3]
              refine x_cSi1 dX0_solves_61 lkX0_100 mdX7_parcelOf stX7_parcelOf (by decide) (c_parcelOf (by omega)) (Nat.le_of_ble_eq_true rfl) ⟨Nat.le_refl _, Nat.le_refl _⟩ ?_
              refine x_is5 dX0_solves_64 (by decide) rfl ?_
              refine x_aload_n dX0_solves_66 rfl ?_
              refine x_getf dX0_solves_67 flX0_27 (g_c (And.left hy)) rfl ?_
              rw [f3]
              refine x_cSi1 dX0_solves_70 lkX0_103 mdX7_sortOf stX7_sortOf (by decide) (c_sortOf (by omega)) (Nat.le_of_ble_eq_true rfl) ⟨Nat.le_refl _, Nat.le_refl _⟩ ?_
              refine x_is6 dX0_solves_73 (by decide) rfl ?_
              refine x_aload_n dX0_solves_75 rfl ?_
              refine x_aload_n dX0_solves_76 rfl ?_
              refine x_iload dX0_solves_77 rfl ?_
              refine x_iload dX0_solves_79 rfl ?_
              refine x_aload_n dX0_solves_81 rfl ?_
              refine x_iload dX0_solves_82 rfl ?_
              refine x_iload dX0_solves_84 rfl ?_
              refine x_iload_n dX0_solves_86 rfl ?_
              refine x_iload dX0_solves_87 rfl ?_
              refine x_cSi2 dX0_solves_89 lkX0_66 mdX7_inside stX7_inside (by decide) (c_inside c (by omega)) (Nat.le_of_ble_eq_true rfl) ⟨Nat.le_refl _, Nat.le_refl _⟩ ?_
              refine x_iconst (v := nI 0) dX0_solves_92 (by decide) ?_
              refine x_cVi4 dX0_solves_93 lkX0_73 mdX5_reply isX5_reply rfl rfl (And.left (hT _)) (by decide) (crep) (Nat.le_of_ble_eq_true rfl) ⟨Nat.le_refl _, Nat.le_refl _⟩ ?_
              refine x_cVV4 dX0_solves_96 lkX0_106 mdX6_narrow isX6_narrow rfl rfl (g_c hw) (by decide) (c_narrow hw hr hm e1 g2l hT hI hk (by omega) (by omega) (by omega) hx) (Nat.le_of_ble_eq_true rfl) ⟨Nat.le_refl _, Nat.le_refl _⟩ ?_
              rintro h' ⟨V2, rfl, q1, q2⟩
              have ey : V2 y = V1 y := q2 y (Ne.symm w0) (by omega)
              refine x_aload_n dX0_solves_99 rfl ?_
              refine x_dup dX0_solves_100 rfl ?_
              refine x_getf dX0_solves_101 flX0_89 (g_c (And.left hy)) rfl ?_
              rw [ey, f2 3 (by decide) (by decide), g5]
              refine x_aload_n dX0_solves_104 rfl ?_
              refine x_getf dX0_solves_105 flX0_110 (And.left (hT _)) rfl ?_
              refine x_iload dX0_solves_108 rfl ?_
              refine x_cSi2 dX0_solves_110 lkX0_77 mdX7_at stX7_at (by decide) (c_atN ((hT _).2.2 13 (by decide) (by decide)) (by decide) (by simp only [tLen]; omega)) (Nat.le_of_ble_eq_true rfl) ⟨Nat.le_refl _, Nat.le_refl _⟩ ?_
              rw [e14]
              refine n_iadd dX0_solves_113 ?_
              refine g_put dX0_solves_114 flX0_89 ftX0_3 hy.1 (Nat.le_of_ble_eq_true rfl) rfl ?_
              generalize hV3 : va_up V2 y (va_up (V2 y) 3 (took + T 14 (tr % 4))) = V3
              have r1 : ∀ b, b ≠ y → V3 b = V2 b := fun b hb => by rw [← hV3]; exact up_ne _ _ hb
              have r2 : V3 y = va_up (V2 y) 3 (took + T 14 (tr % 4)) := by rw [← hV3]; exact up_eq _ _ _
              have r3 : V3 y 2 = i := by rw [r2, up_ne _ _ (by decide), ey, f2 2 (by decide) (by decide), g4]
              refine x_aload_n dX0_solves_117 rfl ?_
              refine x_dup dX0_solves_118 rfl ?_
              refine x_getf dX0_solves_119 flX0_86 (g_c (And.left hy)) rfl ?_
              rw [r3]
              refine x_iconst (v := nI 1) dX0_solves_122 (by decide) ?_
              refine n_iadd dX0_solves_123 ?_
              refine g_put dX0_solves_124 flX0_86 ftX0_2 hy.1 (Nat.le_of_ble_eq_true rfl) rfl ?_
              refine n_ii4 (w := 1) dX0_solves_127 (by decide) (by decide) rfl ?_
              refine x_goto (tgt := 23) dX0_solves_130 (by decide) ?_
              refine ih (i + 1) (by omega) _ (naL T (tr / 4) (tr % 4) ae l) (took + T 14 (tr % 4)) _ _ ?_ ?_ ?_ g3.fil ?_ ?_ ?_ eS
              · intro b h1 h2 h3 h4 h5; rw [up_ne _ _ h1, r1 b h1, q2 b h4 h5, f1 b h1 h2 h3, g1 b h1 h2 h3 h4 h5]
              · exact ⟨by rw [up_ne _ _ w0, r1 w w0]; exact q1.1, by rw [up_ne _ _ (by omega), r1 r (by omega)]; exact q1.2⟩
              · exact Nat.le_trans (List.length_filter_le _ _) g2l
              · exact List.mem_filter.mpr ⟨gc, by rw [hae]; simp⟩
              · rw [up_eq, up_eq]
              · rw [up_eq, up_ne _ _ (by decide), r2, up_eq]
            · rw [if_pos (by omega)] at eS
              refine x_iconst (v := nI 0) dX0_solves_55 (by decide) ?_
              refine x_iret dX0_solves_56 rfl (nar_b false) ⟨Nat.le_refl _, Nat.le_refl _⟩ ?_
              refine ⟨_, rfl, ⟨V1, rfl, fun b h1 h2 h3 h4 h5 => (f1 b h1 h2 h3).trans (g1 b h1 h2 h3 h4 h5), ?_⟩, rfl⟩
              rw [eS]; rfl
    exact key 20 0 (by omega) V0 l 0 _ _ (fun b h1 _ _ _ _ => u1 b h1) hl0 hln hok hcl u2.1 u2.2 hRES.symm
  · rw [decide_eq_false hcl, if_neg hcl]
    refine b_if_ne (b := false) (tgt := 20) dX0_solves_15 (by decide) (fun z => by cases z) (fun _ => ?_)
    refine x_iconst (v := nI 0) dX0_solves_18 (by decide) ?_
    refine x_iret dX0_solves_19 rfl (nar_b false) ⟨Nat.le_refl _, Nat.le_refl _⟩ ?_
    exact ⟨_, rfl, ⟨V0, rfl, fun b h1 _ _ _ _ => u1 b h1, rfl⟩, rfl⟩
end ZS26
