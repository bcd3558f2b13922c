section ZS12
variable {G : zG} {n : Nat} {h0 : zF} {L : zSh} {w r len t : Nat} {J : Nat → Nat} {X : Nat → Nat → Nat} {T : zT}
set_option maxRecDepth 100000 in
theorem c_addWorlds (hw : L w = some (sW r)) (hr : L r = some (sA len)) (hm : len < 2 ^ 31) (hT : ∀ V, zTr (gH h0 L V) t J X) (hI : tI J X T) (hk : tR T) : ∀ d p, p + d = T 7 0 → ∀ (V : Nat → Nat → Nat) (l : List Nat) (x u : Nat), isWs V w r l → x ∈ lev T p → (p ≤ 3 → u = usedW x) → u < 256 → l.length + (dfs T d p x).length ≤ len → zPv G MX5_addWorlds (3 + d) [.ref t, .ref w, .int (nI p), .int (nI u), .int (nI x)] (gH h0 L V) n (fun h' => ∃ V', h' = gH h0 L V' ∧ isWs V' w r (l ++ dfs T d p x) ∧ ∀ b, b ≠ w → b ≠ r → V' b = V b)
  | 0, p, hpd, V, l, x, u, hl, hx, hu, hu2, hlen => by
    refine zCt.of rfl (Nat.le_of_ble_eq_true rfl) rfl ?_
    have hne := wr_ne hw hr
    have hTa := fun V => (hT V).1
    have hTb := fun V => (hT V).2.1
    have k2 := hk.1
    have k7 := hk.2.1
    have e4 := hI.1.2.1
    have hpe : p = T 7 0 := by omega
    subst hpe
    have hd := wOK_dj (lev_ok k2 (T 7 0) k7 x hx)
    refine x_iload_n dX5_addWorlds_0 rfl ?_
    refine x_aload_n dX5_addWorlds_1 rfl ?_
    refine x_getf dX5_addWorlds_2 flX5_41 (hTa _) rfl ?_
    rw [e4]
    refine n_icmp_ge (tgt := 13) dX5_addWorlds_5 (by decide) (by omega) (by omega) (fun c1 => ?_) (fun c1 => ?_)
    · refine x_aload_n dX5_addWorlds_13 rfl ?_
      refine x_iload dX5_addWorlds_14 rfl ?_
      refine x_cVi1 dX5_addWorlds_16 lkX5_112 mdX5_isFair isX5_isFair rfl rfl (hTa _) (by omega) (c_isFairS (hT _) hI hk hd) (Nat.le_of_ble_eq_true rfl) ⟨Nat.le_refl _, Nat.le_refl _⟩ ?_
      refine b_if_eq (tgt := 28) dX5_addWorlds_19 (by decide) (fun c2 => ?_) (fun c2 => ?_)
      · refine x_vret dX5_addWorlds_28 rfl ⟨Nat.le_refl _, Nat.le_refl _⟩ ?_
        exact ⟨rfl, ⟨V, rfl, by simpa [dfs, c2] using hl, fun _ _ _ => rfl⟩, rfl⟩
      · simp only [dfs, c2, List.length_cons, List.length_nil, if_true] at hlen
        have e1 : V w 1 = l.length := hl.1
        refine x_aload_n dX5_addWorlds_22 rfl ?_
        refine x_iload dX5_addWorlds_23 rfl ?_
        refine x_cVV1 dX5_addWorlds_25 lkX5_154 mdX6_add isX6_add rfl rfl (g_c hw) (by omega) (c_wAdd hw hr hm (by omega)) (Nat.le_of_ble_eq_true rfl) ⟨Nat.le_refl _, Nat.le_refl _⟩ ?_
        rintro h' rfl
        refine x_vret dX5_addWorlds_28 rfl ⟨Nat.le_refl _, Nat.le_refl _⟩ ?_
        refine ⟨rfl, ⟨_, rfl, ⟨?_, ?_⟩, ?_⟩, rfl⟩
        · simp [va_up, dfs, c2, e1]
        · have : (va_up (va_up V r (va_up (V r) (V w 1) x)) w (va_up (V w) 1 (V w 1 + 1))) r = va_up (V r) (V w 1) x := by
            simp [va_up, Ne.symm hne]
          rw [this, e1]
          simp only [dfs, c2, if_true]
          exact arrIs.push hl.2 rfl _
        · intro b hb1 hb2
          simp [va_up, hb1, hb2]
    · omega
  | d + 1, p, hpd, V, l, x, u, hl, hx, hu, hu2, hlen => by
    refine zCt.of rfl (Nat.le_of_ble_eq_true rfl) rfl ?_
    have hne := wr_ne hw hr
    have hTa := fun V => (hT V).1
    have hTb := fun V => (hT V).2.1
    have k2 := hk.1
    have k7 := hk.2.1
    have k4 := hk.2.2.2.1
    have e4 := hI.1.2.1
    have e24 := hI.1.1
    have hpow : 2 ^ T 2 0 ≤ 256 := (Nat.pow_le_pow_right (by decide) k2 : 2 ^ T 2 0 ≤ 2 ^ 8)
    have hu := hu (by omega)
    subst hu
    have hxl := (lev_ok k2 p (by omega) x hx).1
    have h10 := (k4 p (by omega)).2.2
    have e11 := (hI.2.2.1 p (by omega)).2.2
    have edfs : dfs T (d + 1) p x = mO T p (usedW x) (fun s => dfs T d (p + 1) (x ||| s * 2 ^ (8 * p))) (T 2 0) := rfl
    rw [edfs] at hlen ⊢
    generalize hF : (fun s => dfs T d (p + 1) (x ||| s * 2 ^ (8 * p))) = F at hlen ⊢
    have hFs : ∀ s, F s = dfs T d (p + 1) (x ||| s * 2 ^ (8 * p)) := fun s => by rw [← hF]
    refine x_iload_n dX5_addWorlds_0 rfl ?_
    refine x_aload_n dX5_addWorlds_1 rfl ?_
    refine x_getf dX5_addWorlds_2 flX5_41 (hTa _) rfl ?_
    rw [e4]
    refine n_icmp_ge (tgt := 13) dX5_addWorlds_5 (by decide) (by omega) (by omega) (fun c1 => ?_) (fun c1 => ?_)
    · omega
    · refine x_iload_n dX5_addWorlds_8 rfl ?_
      refine x_iconst (v := nI 4) dX5_addWorlds_9 (by decide) ?_
      refine n_icmp_lt (tgt := 29) dX5_addWorlds_10 (by decide) (by omega) (by omega) (fun c2 => ?_) (fun c2 => ?_)
      · refine x_iconst (v := nI 0) dX5_addWorlds_29 (by decide) ?_
        refine x_is5 dX5_addWorlds_30 (by decide) rfl ?_
        have outer : ∀ hi, hi ≤ T 2 0 → ∀ (V' : Nat → Nat → Nat) (o6 o7 : Option Value), isWs V' w r (l ++ mO T p (usedW x) F hi) → (∀ b, b ≠ w → b ≠ r → V' b = V b) → zEx G MX5_addWorlds (3 + (d + 1)) 0 0 32 [some (.ref t), some (.ref w), some (.int (nI p)), some (.int (nI (usedW x))), some (.int (nI x)), some (.int (nI hi)), o6, o7] [] (gH h0 L V') n (0, 0) (fun r1 h' n' => r1 = none ∧ (∃ V', h' = gH h0 L V' ∧ isWs V' w r (l ++ mO T p (usedW x) F (T 2 0)) ∧ ∀ b, b ≠ w → b ≠ r → V' b = V b) ∧ n' = n) := by
          refine z_up (T 2 0) ?_
          intro hi hhi ih V' o6 o7 h1 h3
          refine x_iload dX5_addWorlds_32 rfl ?_
          refine x_aload_n dX5_addWorlds_34 rfl ?_
          refine x_getf dX5_addWorlds_35 flX5_12 (hTa _) rfl ?_
          refine x_getf dX5_addWorlds_38 flX5_82 (hTb _) rfl ?_
          rw [e24]
          refine n_icmp_ge (tgt := 122) dX5_addWorlds_41 (by decide) (by omega) (by omega) (fun c3 => ?_) (fun c3 => ?_)
          · have hie : hi = T 2 0 := by omega
            subst hie
            refine x_vret dX5_addWorlds_122 rfl ⟨Nat.le_refl _, Nat.le_refl _⟩ ?_
            exact ⟨rfl, ⟨V', rfl, h1, h3⟩, rfl⟩
          · have hlen1 := mO_le (T := T) (p := p) (u := usedW x) (F := F) (T 2 0 - (hi + 1)) (hi + 1)
            rw [show hi + 1 + (T 2 0 - (hi + 1)) = T 2 0 by omega, mO_succ, List.length_append] at hlen1
            refine x_iconst (v := nI 0) dX5_addWorlds_44 (by decide) ?_
            refine x_is6 dX5_addWorlds_45 (by decide) rfl ?_
            have inner : ∀ lo, lo ≤ hi + 1 → ∀ (V' : Nat → Nat → Nat) (o7 : Option Value), isWs V' w r (l ++ (mO T p (usedW x) F hi ++ mI T p (usedW x) F hi lo)) → (∀ b, b ≠ w → b ≠ r → V' b = V b) → zEx G MX5_addWorlds (3 + (d + 1)) 0 0 47 [some (.ref t), some (.ref w), some (.int (nI p)), some (.int (nI (usedW x))), some (.int (nI x)), some (.int (nI hi)), some (.int (nI lo)), o7] [] (gH h0 L V') n (0, 0) (fun r1 h' n' => r1 = none ∧ (∃ V', h' = gH h0 L V' ∧ isWs V' w r (l ++ mO T p (usedW x) F (T 2 0)) ∧ ∀ b, b ≠ w → b ≠ r → V' b = V b) ∧ n' = n) := by
              refine z_up (hi + 1) ?_
              intro lo hlo ihl V1 o7 g1 g3
              refine x_iload dX5_addWorlds_47 rfl ?_
              refine x_iload dX5_addWorlds_49 rfl ?_
              refine n_icmp_gt (tgt := 116) dX5_addWorlds_51 (by decide) (by omega) (by omega) (fun c4 => ?_) (fun c4 => ?_)
              · have hloe : lo = hi + 1 := by omega
                subst hloe
                refine n_ii5 (w := 1) dX5_addWorlds_116 (by decide) (by decide) rfl ?_
                refine x_goto (tgt := 32) dX5_addWorlds_119 (by decide) ?_
                exact ih (by omega) V1 _ _ (by rw [mO_succ]; exact g1) g3
              · have hlo' : lo ≤ hi := by omega
                have p1 : 2 ^ hi < 2 ^ T 2 0 := Nat.pow_lt_pow_right (by decide) (by omega)
                have p2 : 2 ^ lo < 2 ^ T 2 0 := Nat.pow_lt_pow_right (by decide) (by omega)
                have hsl : pr2 hi lo < 2 ^ T 2 0 := Nat.or_lt_two_pow p1 p2
                have hs1 : 1 ≤ pr2 hi lo := Nat.le_trans (Nat.two_pow_pos hi) Nat.left_le_or
                have hpl := pop_lt (pr2 hi lo) (by omega)
                have hand : pr2 hi lo &&& usedW x ≤ pr2 hi lo := Nat.and_le_left
                have K110 : okS T p (usedW x) (pr2 hi lo) = false → zEx G MX5_addWorlds (3 + (d + 1)) 0 0 110 [some (.ref t), some (.ref w), some (.int (nI p)), some (.int (nI (usedW x))), some (.int (nI x)), some (.int (nI hi)), some (.int (nI lo)), some (.int (nI (pr2 hi lo)))] [] (gH h0 L V1) n (0, 0) (fun r1 h' n' => r1 = none ∧ (∃ V', h' = gH h0 L V' ∧ isWs V' w r (l ++ mO T p (usedW x) F (T 2 0)) ∧ ∀ b, b ≠ w → b ≠ r → V' b = V b) ∧ n' = n) := by
                  intro ho
                  refine n_ii6 (w := 1) dX5_addWorlds_110 (by decide) (by decide) rfl ?_
                  refine x_goto (tgt := 47) dX5_addWorlds_113 (by decide) ?_
                  refine ihl (by omega) V1 _ ?_ g3
                  rw [mI_succ, ho]
                  simpa using g1
                refine x_iconst (v := nI 1) dX5_addWorlds_54 (by decide) ?_
                refine x_iload dX5_addWorlds_55 rfl ?_
                refine n_ishl dX5_addWorlds_57 (by omega) ?_
                refine x_iconst (v := nI 1) dX5_addWorlds_58 (by decide) ?_
                refine x_iload dX5_addWorlds_59 rfl ?_
                refine n_ishl dX5_addWorlds_61 (by omega) ?_
                refine n_ior dX5_addWorlds_62 ?_
                rw [show 1 * 2 ^ hi ||| 1 * 2 ^ lo = pr2 hi lo by simp [pr2]]
                refine x_is7 dX5_addWorlds_63 (by decide) rfl ?_
                refine x_iload dX5_addWorlds_65 rfl ?_
                refine x_iload_n dX5_addWorlds_67 rfl ?_
                refine n_iand dX5_addWorlds_68 ?_
                refine n_if_ne (tgt := 110) dX5_addWorlds_69 (by decide) (by omega) (fun c5 => ?_) (fun c5 => ?_)
                · exact K110 (by unfold okS; rw [beq_false_of_ne c5]; rfl)
                · refine x_iload dX5_addWorlds_72 rfl ?_
                  refine x_cSi1 dX5_addWorlds_74 lkX5_106 mdJ6_bitCount_0f7a4 stJ6_bitCount_0f7a4 (by omega) (c_bitCount (by omega)) (Nat.le_of_ble_eq_true rfl) ⟨Nat.le_refl _, Nat.le_refl _⟩ ?_
                  refine x_aload_n dX5_addWorlds_77 rfl ?_
                  refine x_getf dX5_addWorlds_78 flX5_25 (hTa _) rfl ?_
                  refine x_iload_n dX5_addWorlds_81 rfl ?_
                  refine x_cSi2 dX5_addWorlds_82 lkX5_63 mdX7_at stX7_at (by omega) (c_atN ((hT _).2.2 11 (by decide) (by decide)) (by decide) (by simp only [tLen]; omega)) (Nat.le_of_ble_eq_true rfl) ⟨Nat.le_refl _, Nat.le_refl _⟩ ?_
                  rw [e11]
                  refine n_icmp_ne (tgt := 110) dX5_addWorlds_85 (by decide) (by omega) (by omega) (fun c6 => ?_) (fun c6 => ?_)
                  · exact K110 (by unfold okS; rw [beq_false_of_ne c6]; simp)
                  · have ho : okS T p (usedW x) (pr2 hi lo) = true := by unfold okS; rw [c5, c6]; simp
                    have hlen2 := mI_le (T := T) (p := p) (u := usedW x) (F := F) (hi := hi) (hi + 1 - (lo + 1)) (lo + 1)
                    rw [show lo + 1 + (hi + 1 - (lo + 1)) = hi + 1 by omega, mI_succ, ho, if_pos rfl, List.length_append] at hlen2
                    have hc := c_addWorlds hw hr hm hT hI hk d (p + 1) (by omega) V1 _ (x ||| pr2 hi lo * 2 ^ (8 * p)) (usedW x ||| pr2 hi lo) g1 (lev_next k2 hx ⟨hs1, hsl⟩ ho) (fun hp3 => (used_put (by omega) hxl (by omega)).symm) (Nat.or_lt_two_pow (n := 8) hu2 (by omega)) (by rw [← hFs, List.length_append, List.length_append]; omega)
                    rw [← hFs] at hc
                    refine x_aload_n dX5_addWorlds_88 rfl ?_
                    refine x_aload_n dX5_addWorlds_89 rfl ?_
                    refine x_iload_n dX5_addWorlds_90 rfl ?_
                    refine x_iconst (v := nI 1) dX5_addWorlds_91 (by decide) ?_
                    refine n_iadd dX5_addWorlds_92 ?_
                    refine x_iload_n dX5_addWorlds_93 rfl ?_
                    refine x_iload dX5_addWorlds_94 rfl ?_
                    refine n_ior dX5_addWorlds_96 ?_
                    refine x_iload dX5_addWorlds_97 rfl ?_
                    refine x_iload dX5_addWorlds_99 rfl ?_
                    refine x_bipush (v := nI 8) dX5_addWorlds_101 (by decide) ?_
                    refine x_iload_n dX5_addWorlds_103 rfl ?_
                    refine n_imul dX5_addWorlds_104 ?_
                    refine n_ishl dX5_addWorlds_105 (by omega) ?_
                    refine n_ior dX5_addWorlds_106 ?_
                    refine x_cSV5 dX5_addWorlds_107 lkX5_150 mdX5_addWorlds stX5_addWorlds (by omega) (hc) (Nat.le_of_ble_eq_true rfl) ⟨Nat.le_refl _, Nat.le_refl _⟩ ?_
                    rintro h' ⟨V2, rfl, q1, q3⟩
                    refine n_ii6 (w := 1) dX5_addWorlds_110 (by decide) (by decide) rfl ?_
                    refine x_goto (tgt := 47) dX5_addWorlds_113 (by decide) ?_
                    refine ihl (by omega) V2 _ ?_ (fun b hb1 hb2 => (q3 b hb1 hb2).trans (g3 b hb1 hb2))
                    rw [mI_succ, ho, if_pos rfl]
                    simpa using q1
            refine inner 0 (Nat.zero_le _) V' _ ?_ h3
            simpa [mI] using h1
        refine outer 0 (Nat.zero_le _) V _ _ ?_ (fun _ _ _ => rfl)
        simpa [mO, sets2] using hl
      · omega
end ZS12
