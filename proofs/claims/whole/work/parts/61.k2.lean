def zPr (G : zG) (M : zM) (k : Nat) (av : List Value) (h : zF) (n : Nat) (P : Nat → zF → Prop) : Prop := zCt G M k 0 0 av h n (fun r h' n' => ∃ v, r = some (.ref v) ∧ P v h' ∧ n' = n)
section ZK2
variable {G : zG} {M : zM} {k mc ms pc n : Nat} {lv : List (Option Value)} {st : List Value} {h : zF} {u : Nat × Nat} {Q : zQ}
theorem x_cVa0 {M' : zM} {k' idx : Nat} {a ci : Nat} {fs : List Value} {r : vw_C} {P : Nat → zF → Prop} (hd : decode M.2.1 pc = .ok (.invokevirtual idx, 3)) (hlk : zLk M.1.cls idx M') (hmd : zMd M' 0) (hinst : Cond.instanceMethod M'.1 ∈ zTbl ∧ Cond.selects M'.1.cls M'.1 M'.1 ∈ zTbl) (hr : zCl[ci]? = some r) (hrc : r.1 = M'.1.cls) (hc : h a = some (.inr (ci, fs))) (hk : k' + 1 ≤ k) (hct : zPr G M' k' (.ref a :: []) h n P) (hrest : (st.map fun v => v.category).sum ≤ 8) (hu : u.1 ≤ mc ∧ u.2 ≤ ms) (K : ∀ (v : Nat) (h' : zF), P v h' → zEx G M k mc ms (pc + 3) lv (.ref v :: st) h' n u Q) : zEx G M k mc ms pc lv (.ref a :: st) h n u Q := x_callV (mc' := 0) (ms' := 0) (As := []) (rest := st) hd hlk hmd hinst hr hrc hc hk hct rfl hrest rfl hu (by rintro r h' _ ⟨v, rfl, hp, rfl⟩; exact K v h' hp)
theorem g_putZ {h0 : zF} {L : zSh} {V : Nat → Nat → Nat} {w idx ci i : Nat} {b : Bool} {fs : (Nat → Nat) → List Value} (hd : decode M.2.1 pc = .ok (.putfield idx, 3)) (hk : zFld M.1.cls idx ci i) (hty : zFty ci i .boolean false) (hL : L w = some (fun f => .inr (ci, fs f))) (hlen : i < (fs (V w)).length) (hs : (fs (V w)).set i (.int (nI b.toNat)) = fs (va_up (V w) i b.toNat)) (K : zEx G M k mc ms (pc + 3) lv st (gH h0 L (va_up V w (va_up (V w) i b.toNat))) n u Q) : zEx G M k mc ms pc lv (.int (nI b.toNat) :: .ref w :: st) (gH h0 L V) n u Q := by
  refine x_putf hd hk hty (g_c hL) (nar_b b) (by cases b <;> rfl) hlen ?_
  rw [hs, g_up hL (va_up (V w) i b.toNat)]
  exact K
end ZK2
section ZK3
variable {G : zG} {n : Nat} {h0 : zF} {L : zSh} {V : Nat → Nat → Nat} {c : Nat} {P J I : Nat → Nat} {X A : Nat → Nat → Nat}
theorem naL_rem (i : Nat) : naL A (A 17 (9 + i) / 4 % 4) (A 17 (9 + i) % 4) (A 17 (9 + i) / 16) (remL A i) = remL A (i + 1) := by
  unfold remL
  rw [naL_fil]
  congr 1
  funext x
  rw [fitT, Bool.and_comm]
  rfl
theorem remL_0 : remL A 0 = wl (vw A 0) := by
  unfold remL
  rw [List.filter_eq_self]
  intro x _
  rfl
theorem mR_rem (hA : arrIs (A 16) (wl (vw A 0))) (k : Nat) : mR (wl (vw A 0)) (fun x => fitT A (A 17) x k) (lf A k) := by
  intro w hw
  unfold lf
  rw [hA w hw]
theorem nLeft_rem (hA : arrIs (A 16) (wl (vw A 0))) (k : Nat) : nLeft A k (wl (vw A 0)).length = (remL A k).length := nMu_list (mR_rem hA k)
theorem remL_le (k : Nat) : (remL A k).length ≤ (wl (vw A 0)).length := List.length_filter_le _ _
theorem remL_ok (hk : tR A) (k : Nat) : lOK A (remL A k) := (wl_ok hk).1.fil
theorem remL_mem {x k : Nat} (h : x ∈ remL A k) : x ∈ wl (vw A 0) := (List.mem_filter.mp h).1
/-- the first answer that can not be, among the first i -/
def jp (A : Nat → Nat → Nat) : Nat → Nat
  | 0 => 4294967292
  | i + 1 => if (remL A (i + 1)).length = 0 ∧ jp A i = 4294967292 then i else jp A i
theorem jp_spec : ∀ i, i < 100 → (jp A i = 4294967292 ∧ ∀ j, j < i → (remL A (j + 1)).length ≠ 0) ∨ (∃ j, j < i ∧ jp A i = j ∧ (remL A (j + 1)).length = 0 ∧ ∀ j', j' < j → (remL A (j' + 1)).length ≠ 0)
  | 0, _ => Or.inl ⟨rfl, fun j h => absurd h (by omega)⟩
  | i + 1, hi => by
    unfold jp
    rcases jp_spec i (by omega) with ⟨h1, h2⟩ | ⟨j, h1, h2, h3, h4⟩
    · by_cases h0 : (remL A (i + 1)).length = 0
      · rw [if_pos ⟨h0, h1⟩]
        exact Or.inr ⟨i, by omega, rfl, h0, h2⟩
      · rw [if_neg (fun z => h0 z.1)]
        refine Or.inl ⟨h1, fun j hj => ?_⟩
        by_cases e : j = i
        · subst e; exact h0
        · exact h2 j (by omega)
    · rw [if_neg (by omega)]
      exact Or.inr ⟨j, by omega, h2, h3, h4⟩
theorem jdF_spec (hA : arrIs (A 16) (wl (vw A 0))) (h17 : I 17 = (wl (vw A 0)).length) : ∀ r k, (jdF I A r k = -4 ∧ ∀ j, k ≤ j → j < k + r → (remL A (j + 1)).length ≠ 0) ∨ (∃ j, (k ≤ j ∧ j < k + r) ∧ jdF I A r k = nI j ∧ (remL A (j + 1)).length = 0 ∧ ∀ j', k ≤ j' → j' < j → (remL A (j' + 1)).length ≠ 0)
  | 0, k => Or.inl ⟨rfl, fun j h1 h2 => absurd h2 (by omega)⟩
  | r + 1, k => by
    unfold jdF
    rw [h17, nLeft_rem hA]
    by_cases h0 : (remL A (k + 1)).length = 0
    · rw [if_pos h0]
      exact Or.inr ⟨k, by omega, rfl, h0, fun j' h1 h2 => absurd h2 (by omega)⟩
    · rw [if_neg h0]
      rcases jdF_spec hA h17 r (k + 1) with ⟨h1, h2⟩ | ⟨j, h1, h2, h3, h4⟩
      · refine Or.inl ⟨h1, fun j h3 h4 => ?_⟩
        by_cases e : j = k
        · subst e; exact h0
        · exact h2 j (by omega) (by omega)
      · refine Or.inr ⟨j, by omega, h2, h3, fun j' h5 h6 => ?_⟩
        by_cases e : j' = k
        · subst e; exact h0
        · exact h4 j' (by omega) h6
theorem jp_jd (hA : arrIs (A 16) (wl (vw A 0))) (h17 : I 17 = (wl (vw A 0)).length) {m : Nat} (hm : m < 100) : nI (jp A m) = jdF I A m 0 := by
  rcases jp_spec (A := A) m hm with ⟨h1, h2⟩ | ⟨j, h1, h2, h3, h4⟩
  · rcases jdF_spec (I := I) hA h17 m 0 with ⟨q1, q2⟩ | ⟨j', q1, q2, q3, q4⟩
    · rw [h1, q1]; decide
    · exact absurd q3 (h2 j' (by omega))
  · rcases jdF_spec (I := I) hA h17 m 0 with ⟨q1, q2⟩ | ⟨j', q1, q2, q3, q4⟩
    · exact absurd h3 (q2 j (by omega) (by omega))
    · rw [h2, q2]
      have : j = j' := by
        rcases Nat.lt_trichotomy j j' with z | z | z
        · exact absurd h3 (q4 j (by omega) z)
        · exact z
        · exact absurd q3 (h4 j' z)
      rw [this]
/-- the remaining worlds are laid -/
def kRm (V : Nat → Nat → Nat) (c : Nat) (P I : Nat → Nat) (A : Nat → Nat → Nat) : Prop := V c 11 = 0 ∧ isWs V (c + 34) (P 3) (remL A (A 17 8)) ∧ nI (V c 12) = jdF I A (A 17 8) 0
set_option maxRecDepth 100000 in
theorem k_find (hL : kL L c P) (hT : ∀ V, zTr (gH h0 L V) (P 0) J X) (hV : kV V c P J X I A) : zPr G MX7_findRemaining 4 [.ref c] (gH h0 L V) n (fun v h' => v = c + 34 ∧ ∃ V', h' = gH h0 L V' ∧ kV V' c P J X I A ∧ kRm V' c P I A ∧ ∀ b, b ≠ c → b ≠ c + 34 → b ≠ P 3 → V' b = V b) := by
  refine zCt.of rfl (Nat.le_of_ble_eq_true rfl) rfl ?_
  have hR := hV.2.1
  obtain ⟨w1, w2, w3, w4, w5, w6, w7⟩ := hV.2.2.1
  obtain ⟨n1, n2⟩ := hV.2.2.2.1
  have n8 := n2.1.1
  have hS : zSc L (c + 44) := hL.2.2.2.2.2.2.1
  have hWa := hL.2.2.1
  have hWb := hL.2.2.2.1
  have hP := hL.2.2.2.2.2.2.2.2.2.2.2.2.1
  have hb5 := hL.2.2.2.2.2.2.2.2.2.2.2.2.2
  have hl5 := (wl_ok hR.2.1).1.2.2
  have kfr : ∀ V' : Nat → Nat → Nat, kRm V' c P I A → (∀ b, b ≠ c → b ≠ c + 34 → b ≠ P 3 → V' b = V b) → kV V' c P J X I A := by
    intro V' hr e
    obtain ⟨a1, a2, a3, a4, a5, a6, a7⟩ := hV
    exact ⟨a1.fr (e _ (by omega) (by omega) (by omega)) (e _ (by omega) (by omega) (by omega)) (e _ (by omega) (by omega) (by omega)), a2, a3.fr (e _ (by omega) (by omega) (by omega)) (e _ (by omega) (by omega) (by omega)), a4.fr (fun b h1 h2 => e _ (by omega) (by omega) (by omega)), a5.fr (fun b h1 h2 => e _ (by omega) (by omega) (by omega)), a6.fr (fun b h1 h2 => e _ (by omega) (by omega) (by omega)), Or.inr hr⟩
  refine x_aload_n dX7_findRemaining_0 rfl ?_
  refine x_getf dX7_findRemaining_1 flX7_69 (g_c (And.left hL)) rfl ?_
  rcases hV.2.2.2.2.2.2 with hst | ⟨hst, hrm⟩
  · rw [hst]
    refine n_if_eq (tgt := 114) dX7_findRemaining_4 (by decide) (by decide) (fun z => by cases z) (fun _ => ?_)
    refine x_aload_n dX7_findRemaining_7 rfl ?_
    refine x_getf dX7_findRemaining_8 flX7_33 (g_c (And.left hL)) rfl ?_
    refine x_aload_n dX7_findRemaining_11 rfl ?_
    refine x_getf dX7_findRemaining_12 flX7_29 (g_c (And.left hL)) rfl ?_
    refine x_cVV1 dX7_findRemaining_15 lkX7_312 mdX6_copy isX6_copy rfl rfl (g_c hWb.1) (by decide) (c_wCopy hWb.1 hWb.2 (by omega) hWa.1 hWa.2 (by omega) (by rw [w1.1]; exact w6) (by rw [w1.1]; exact w5) (by omega)) (Nat.le_of_ble_eq_true rfl) ⟨Nat.le_refl _, Nat.le_refl _⟩ ?_
    rintro h' rfl
    generalize hV1 : va_up (va_up V (c + 34) (va_up (V (c + 34)) 1 (V (c + 32) 1))) (P 3) (fun j => if j < V (c + 32) 1 then V (P 2) j else V (P 3) j) = V1
    have f1 : ∀ b, b ≠ c + 34 → b ≠ P 3 → V1 b = V b := fun b h1 h2 => by rw [← hV1, up_ne _ _ h2, up_ne _ _ h1]
    have f2 : isWs V1 (c + 34) (P 3) (remL A 0) := by
      rw [remL_0, ← hV1]
      refine ⟨?_, ?_⟩
      · rw [up_ne _ _ (by omega), up_eq, up_eq]; exact w1.1
      · intro j hj
        rw [up_eq, if_pos (by rw [w1.1]; exact hj)]
        exact w1.2 j hj
    refine x_aload_n dX7_findRemaining_18 rfl ?_
    refine x_bipush (v := nI 4294967292) dX7_findRemaining_19 (by decide) ?_
    refine g_put dX7_findRemaining_21 flX7_73 ftX7_12 hL.1 (Nat.le_of_ble_eq_true rfl) rfl ?_
    refine x_iconst (v := nI 0) dX7_findRemaining_24 (by decide) ?_
    refine x_is1 dX7_findRemaining_25 (by decide) rfl ?_
    have key : ∀ i, i ≤ A 17 8 → ∀ (V' : Nat → Nat → Nat) (o2 : Option Value), (∀ b, b ≠ c → b ≠ c + 34 → b ≠ P 3 → V' b = V b) → isWs V' (c + 34) (P 3) (remL A i) → V' c 12 = jp A i → zEx G MX7_findRemaining 4 0 0 26 [some (.ref c), some (.int (nI i)), o2] [] (gH h0 L V') n (0, 0) (fun r h' n' => ∃ v, r = some (.ref v) ∧ (v = c + 34 ∧ ∃ V', h' = gH h0 L V' ∧ kV V' c P J X I A ∧ kRm V' c P I A ∧ ∀ b, b ≠ c → b ≠ c + 34 → b ≠ P 3 → V' b = V b) ∧ n' = n) := by
      refine z_up (A 17 8) ?_
      intro i hi ih V' o2 g1 g2 g3
      have e44 : V' (c + 44) = V (c + 44) := g1 _ (by omega) (by omega) (by omega)
      have e46 : V' (c + 44 + 2) = V (c + 44 + 2) := g1 _ (by omega) (by omega) (by omega)
      have e47 : V' (c + 44 + 3) = V (c + 44 + 3) := g1 _ (by omega) (by omega) (by omega)
      refine x_iload_n dX7_findRemaining_26 rfl ?_
      refine x_aload_n dX7_findRemaining_27 rfl ?_
      refine x_getf dX7_findRemaining_28 flX7_49 (g_c (And.left hL)) rfl ?_
      refine x_getf dX7_findRemaining_31 flX7_185 (g_c hS.1) rfl ?_
      rw [e44, n1.2.2.1]
      refine n_icmp_ge (tgt := 109) dX7_findRemaining_34 (by decide) (by omega) (by omega) (fun c1 => ?_) (fun c1 => ?_)
      · have hie : i = A 17 8 := by omega
        subst hie
        refine x_aload_n dX7_findRemaining_109 rfl ?_
        refine x_iconst (v := nI 0) dX7_findRemaining_110 (by decide) ?_
        refine g_putZ (b := false) dX7_findRemaining_111 flX7_69 ftX7_11 hL.1 (Nat.le_of_ble_eq_true rfl) rfl ?_
        refine x_aload_n dX7_findRemaining_114 rfl ?_
        refine x_getf dX7_findRemaining_115 flX7_33 (g_c (And.left hL)) rfl ?_
        refine x_aret dX7_findRemaining_118 rfl ⟨Nat.le_refl _, Nat.le_refl _⟩ ?_
        have hrm : kRm (va_up V' c (va_up (V' c) 11 false.toNat)) c P I A := by
          refine ⟨by rw [up_eq, up_eq]; rfl, ⟨?_, ?_⟩, ?_⟩
          · rw [up_ne _ _ (by omega)]; exact g2.1
          · rw [up_ne _ _ (by omega)]; exact g2.2
          · rw [up_eq, up_ne _ _ (by decide), g3]
            exact jp_jd w3 w2 (by omega)
        have hfr : ∀ b, b ≠ c → b ≠ c + 34 → b ≠ P 3 → (va_up V' c (va_up (V' c) 11 false.toNat)) b = V b := fun b h1 h2 h3 => by rw [up_ne _ _ h1, g1 b h1 h2 h3]
        exact ⟨_, rfl, ⟨rfl, _, rfl, kfr _ hrm hfr, hrm, hfr⟩, rfl⟩
      · have et := n1.2.2.2 i (by omega)
        have eo := n2.1.2 i (by omega)
        have ca := c_atN (G := G) (n := n) (h := gH h0 L V') (j := i) (g_c hS.2.2.1) (by decide) (by omega)
        have cb := c_atN (G := G) (n := n) (h := gH h0 L V') (j := i) (g_c hS.2.2.2) (by decide) (by omega)
        rw [e46, et.1] at ca
        rw [e47, et.2] at cb
        have hrl := remL_le (A := A) i
        have hrl1 := remL_le (A := A) (i + 1)
        have cn := c_narrow (G := G) (n := n) (V := V') (p := A 17 (9 + i) / 4 % 4) (sort := A 17 (9 + i) % 4) (a := A 17 (9 + i) / 16) hWb.1 hWb.2 (by omega) g2 (by omega) hT hR.1 hR.2.1 eo.2 (by omega) (by omega) (fun x hx => ((remL_ok hR.2.1 i).1 x hx _ eo.2 0 (by decide)).1.2)
        rw [naL_rem] at cn
        refine x_aload_n dX7_findRemaining_37 rfl ?_
        refine x_getf dX7_findRemaining_38 flX7_49 (g_c (And.left hL)) rfl ?_
        refine x_getf dX7_findRemaining_41 flX7_248 (g_c hS.1) rfl ?_
        refine x_iload_n dX7_findRemaining_44 rfl ?_
        refine x_cSi2 dX7_findRemaining_45 lkX7_122 mdX7_at stX7_at (by decide) (ca) (Nat.le_of_ble_eq_true rfl) ⟨Nat.le_refl _, Nat.le_refl _⟩ ?_
        refine x_is2 dX7_findRemaining_48 (by decide) rfl ?_
        refine x_aload_n dX7_findRemaining_49 rfl ?_
        refine x_getf dX7_findRemaining_50 flX7_33 (g_c (And.left hL)) rfl ?_
        refine x_aload_n dX7_findRemaining_53 rfl ?_
        refine x_getf dX7_findRemaining_54 flX7_19 (g_c (And.left hL)) rfl ?_
        refine x_iload_n dX7_findRemaining_57 rfl ?_
        refine x_cSi1 dX7_findRemaining_58 lkX7_315 mdX7_parcelOf stX7_parcelOf (by decide) (c_parcelOf (by omega)) (Nat.le_of_ble_eq_true rfl) ⟨Nat.le_refl _, Nat.le_refl _⟩ ?_
        rw [show A 17 (9 + i) % 16 / 4 = A 17 (9 + i) / 4 % 4 by omega]
        refine x_iload_n dX7_findRemaining_61 rfl ?_
        refine x_cSi1 dX7_findRemaining_62 lkX7_251 mdX7_sortOf stX7_sortOf (by decide) (c_sortOf (by omega)) (Nat.le_of_ble_eq_true rfl) ⟨Nat.le_refl _, Nat.le_refl _⟩ ?_
        rw [show A 17 (9 + i) % 16 % 4 = A 17 (9 + i) % 4 by omega]
        refine x_aload_n dX7_findRemaining_65 rfl ?_
        refine x_getf dX7_findRemaining_66 flX7_49 (g_c (And.left hL)) rfl ?_
        refine x_getf dX7_findRemaining_69 flX7_318 (g_c hS.1) rfl ?_
        refine x_iload_n dX7_findRemaining_72 rfl ?_
        refine x_cSi2 dX7_findRemaining_73 lkX7_122 mdX7_at stX7_at (by decide) (cb) (Nat.le_of_ble_eq_true rfl) ⟨Nat.le_refl _, Nat.le_refl _⟩ ?_
        refine x_cVV4 dX7_findRemaining_76 lkX7_321 mdX6_narrow isX6_narrow rfl rfl (g_c hWb.1) (by decide) (cn) (Nat.le_of_ble_eq_true rfl) ⟨Nat.le_refl _, Nat.le_refl _⟩ ?_
        rintro h' ⟨V2, rfl, q1, q2⟩
        have ec : V2 c = V' c := q2 c (by omega) (by omega)
        have gfr : ∀ b, b ≠ c → b ≠ c + 34 → b ≠ P 3 → V2 b = V b := fun b h1 h2 h3 => (q2 b h2 h3).trans (g1 b h1 h2 h3)
        refine x_aload_n dX7_findRemaining_79 rfl ?_
        refine x_getf dX7_findRemaining_80 flX7_33 (g_c (And.left hL)) rfl ?_
        refine x_getf dX7_findRemaining_83 flX7_106 (g_c hWb.1) rfl ?_
        rw [q1.1]
        refine n_if_ne (tgt := 103) dX7_findRemaining_86 (by decide) (by omega) (fun c2 => ?_) (fun c2 => ?_)
        · refine n_ii1 (w := 1) dX7_findRemaining_103 (by decide) (by decide) rfl ?_
          refine x_goto (tgt := 26) dX7_findRemaining_106 (by decide) ?_
          refine ih (by omega) V2 _ gfr q1 ?_
          rw [ec, g3]
          show _ = if _ then _ else _
          rw [if_neg (fun z => c2 z.1)]
        · refine x_aload_n dX7_findRemaining_89 rfl ?_
          refine x_getf dX7_findRemaining_90 flX7_73 (g_c (And.left hL)) rfl ?_
          refine x_bipush (v := -4) dX7_findRemaining_93 (by decide) ?_
          rw [ec, g3]
          have hjp : jp A i < 2 ^ 32 := by
            rcases jp_spec (A := A) i (by omega) with ⟨h1, _⟩ | ⟨j, h1, h2, _⟩ <;> omega
          refine x_icmp_ne (tgt := 103) dX7_findRemaining_95 (by decide) (fun c3 => ?_) (fun c3 => ?_)
          · refine n_ii1 (w := 1) dX7_findRemaining_103 (by decide) (by decide) rfl ?_
            refine x_goto (tgt := 26) dX7_findRemaining_106 (by decide) ?_
            refine ih (by omega) V2 _ gfr q1 ?_
            rw [ec, g3]
            show _ = if _ then _ else _
            rw [if_neg (fun z => c3 (by rw [z.2]; decide))]
          · have c3 : jp A i = 4294967292 := (nI_inj32 hjp (by decide)).mp (c3.trans (by decide))
            refine x_aload_n dX7_findRemaining_98 rfl ?_
            refine x_iload_n dX7_findRemaining_99 rfl ?_
            refine g_put dX7_findRemaining_100 flX7_73 ftX7_12 hL.1 (Nat.le_of_ble_eq_true rfl) rfl ?_
            refine n_ii1 (w := 1) dX7_findRemaining_103 (by decide) (by decide) rfl ?_
            refine x_goto (tgt := 26) dX7_findRemaining_106 (by decide) ?_
            refine ih (by omega) _ _ ?_ ⟨?_, ?_⟩ ?_
            · intro b h1 h2 h3; rw [up_ne _ _ h1, gfr b h1 h2 h3]
            · rw [up_ne _ _ (by omega)]; exact q1.1
            · rw [up_ne _ _ (by omega)]; exact q1.2
            · rw [up_eq, up_eq]
              show _ = if _ then _ else _
              rw [if_pos ⟨c2, c3⟩]
    refine key 0 (Nat.zero_le _) _ _ ?_ ⟨?_, ?_⟩ ?_
    · intro b h1 h2 h3; rw [up_ne _ _ h1, f1 b h2 h3]
    · rw [up_ne _ _ (by omega)]; exact f2.1
    · rw [up_ne _ _ (by omega)]; exact f2.2
    · rw [up_eq, up_eq]; rfl
  · rw [hst]
    refine n_if_eq (tgt := 114) dX7_findRemaining_4 (by decide) (by decide) (fun _ => ?_) (fun z => absurd rfl z)
    refine x_aload_n dX7_findRemaining_114 rfl ?_
    refine x_getf dX7_findRemaining_115 flX7_33 (g_c (And.left hL)) rfl ?_
    refine x_aret dX7_findRemaining_118 rfl ⟨Nat.le_refl _, Nat.le_refl _⟩ ?_
    exact ⟨_, rfl, ⟨rfl, V, rfl, hV, ⟨hst, hrm⟩, fun _ _ _ _ => rfl⟩, rfl⟩
theorem k_left (hL : kL L c P) (hT : ∀ V, zTr (gH h0 L V) (P 0) J X) (hV : kV V c P J X I A) : zPi G MX7_left 5 [.ref c] (gH h0 L V) n (fun v h' => v = nI (nLeft A (A 17 8) (I 17)) ∧ kPo h0 L c P J X I A h') := by
  refine zCt.of rfl (Nat.le_of_ble_eq_true rfl) rfl ?_
  have hWb := hL.2.2.2.1
  refine x_aload_n dX7_left_0 rfl ?_
  refine x_cVa0 dX7_left_1 lkX7_208 mdX7_findRemaining isX7_findRemaining rfl rfl (g_c (And.left hL)) (by decide) (k_find hL hT hV) (Nat.le_of_ble_eq_true rfl) ⟨Nat.le_refl _, Nat.le_refl _⟩ ?_
  rintro v h' ⟨rfl, V', rfl, kv, km, kf⟩
  refine x_getf dX7_left_4 flX7_106 (g_c hWb.1) rfl ?_
  refine x_iret dX7_left_7 rfl rfl ⟨Nat.le_refl _, Nat.le_refl _⟩ ?_
  refine ⟨_, rfl, ⟨?_, V', rfl, kv⟩, rfl⟩
  rw [km.2.1.1, hV.2.2.1.2.1, nLeft_rem hV.2.2.1.2.2.1]
theorem k_judge (hL : kL L c P) (hT : ∀ V, zTr (gH h0 L V) (P 0) J X) (hV : kV V c P J X I A) : zPi G MX7_judge 5 [.ref c] (gH h0 L V) n (fun v h' => v = jdF I A (A 17 8) 0 ∧ kPo h0 L c P J X I A h') := by
  refine zCt.of rfl (Nat.le_of_ble_eq_true rfl) rfl ?_
  refine x_aload_n dX7_judge_0 rfl ?_
  refine x_cVa0 dX7_judge_1 lkX7_208 mdX7_findRemaining isX7_findRemaining rfl rfl (g_c (And.left hL)) (by decide) (k_find hL hT hV) (Nat.le_of_ble_eq_true rfl) ⟨Nat.le_refl _, Nat.le_refl _⟩ ?_
  rintro v h' ⟨rfl, V', rfl, kv, km, kf⟩
  refine x_pop dX7_judge_4 rfl ?_
  refine x_aload_n dX7_judge_5 rfl ?_
  refine x_getf dX7_judge_6 flX7_73 (g_c (And.left hL)) rfl ?_
  refine x_iret dX7_judge_9 rfl rfl ⟨Nat.le_refl _, Nat.le_refl _⟩ ?_
  exact ⟨_, rfl, ⟨km.2.2, V', rfl, kv⟩, rfl⟩
end ZK3
