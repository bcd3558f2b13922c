theorem cntm_1 : ∀ m, m ≤ 8 → ∀ u, u < 2 ^ m → cntD u 1 (2 ^ m) ≤ m - pop u := by decide +kernel
theorem cntm_2 : ∀ m, m ≤ 8 → ∀ u, u < 2 ^ m → cntD u 2 (2 ^ m) ≤ (m - pop u) * (m - pop u - 1) / 2 := by decide +kernel
theorem sI_big {x p q : Nat} (hx : x < 2 ^ (8 * p)) (hq : p ≤ q) : sI x q = 0 := by
  unfold sI
  rw [Nat.div_eq_of_lt (Nat.lt_of_lt_of_le hx (Nat.pow_le_pow_right (by decide) (by omega)))]
theorem lev_mw {T : zT} (h2 : T 2 0 ≤ 8) (h7 : T 7 0 ≤ 4) (hz : ∀ p, p < T 7 0 → 1 ≤ T 10 p ∧ T 10 p ≤ 2) : ∀ p, p ≤ T 7 0 → (lev T p).length ≤ mw T p
  | 0, _ => Nat.le_refl _
  | p + 1, hp => by
    have ih := lev_mw h2 h7 hz p (by omega)
    have hzp := hz p (by omega)
    have := levTo_len (T := T) (p := p) (c := if T 10 p = 1 then T 2 0 - szs T p else (T 2 0 - szs T p) * (T 2 0 - szs T p - 1) / 2) (L := lev T p) (fun j hj => by
      have hok := lev_ok h2 p (by omega) _ (getD_mem hj)
      have ho := hok.2.2.2 (by omega)
      have hlt : ∀ q, sI ((lev T p).getD j 0) q < 2 ^ T 2 0 := by
        intro q
        by_cases hq : q < p
        · exact (hok.2.1 q hq).1.2
        · rw [sI_big hok.1 (by omega)]; exact Nat.two_pow_pos _
      have hul : usedW ((lev T p).getD j 0) < 2 ^ T 2 0 := Nat.or_lt_two_pow (Nat.or_lt_two_pow (hlt 0) (hlt 1)) (hlt 2)
      rw [extTo_len, ← ho.1]
      rcases (show T 10 p = 1 ∨ T 10 p = 2 by omega) with q | q
      · rw [q, if_pos rfl]; exact cntm_1 _ h2 _ hul
      · rw [q, if_neg (by decide)]; exact cntm_2 _ h2 _ hul) (lev T p).length (Nat.le_refl _)
    exact Nat.le_trans this (Nat.mul_le_mul_right _ ih)
theorem filTo_len (T : zT) (l : List Nat) : ∀ i, (filTo T l i).length ≤ i
  | 0 => Nat.le_refl _
  | i + 1 => by
    have := filTo_len T l i
    rw [filTo, List.length_append]
    split <;> simp <;> omega
theorem wl_mw {T : zT} (hk : tR T) : (wl T).length ≤ mw T (T 7 0) := by
  refine Nat.le_trans (filTo_len T _ _) (lev_mw hk.1 hk.2.1 (fun p hp => (hk.2.2.2.1 p hp).2.2) _ (Nat.le_refl _))
section ZS13
variable {G : zG} {n : Nat} {h0 : zF} {L : zSh} {V : Nat → Nat → Nat} {w r len t : Nat} {J : Nat → Nat} {X : Nat → Nat → Nat} {T : zT}
theorem c_listWorlds (hw : L w = some (sW r)) (hr : L r = some (sA len)) (hm : len < 2 ^ 31) (hT : ∀ V, zTr (gH h0 L V) t J X) (hI : tI J X T) (hk : tR T) (hlen : mw T (T 7 0) ≤ len) : zPv G MX5_listWorlds 8 [.ref t, .ref w] (gH h0 L V) n (fun h' => ∃ V', h' = gH h0 L V' ∧ isWs V' w r (wl T) ∧ ∀ b, b ≠ w → b ≠ r → V' b = V b) := by
  refine zCt.of rfl (Nat.le_of_ble_eq_true rfl) rfl ?_
  have hne := wr_ne hw hr
  have k7 := hk.2.1
  have hwl := wl_dfs hk.1 (fun p hp => (hk.2.2.2.1 p hp).2.2)
  have hmw := wl_mw hk
  rw [hwl] at hmw ⊢
  refine x_aload_n dX5_listWorlds_0 rfl ?_
  refine x_cVV0 dX5_listWorlds_1 lkX5_147 mdX6_clear isX6_clear rfl rfl (g_c hw) (by decide) (c_wClear hw) (Nat.le_of_ble_eq_true rfl) ⟨Nat.le_refl _, Nat.le_refl _⟩ ?_
  rintro h' rfl
  have hc := c_addWorlds (G := G) (n := n) hw hr hm hT hI hk (T 7 0) 0 (by omega) (va_up V w (va_up (V w) 1 0)) [] 0 0 ⟨by simp [va_up], fun j hj => absurd hj (by simp)⟩ (by simp [lev]) (fun _ => rfl) (by decide) (by simp; omega)
  refine x_aload_n dX5_listWorlds_4 rfl ?_
  refine x_aload_n dX5_listWorlds_5 rfl ?_
  refine x_iconst (v := nI 0) dX5_listWorlds_6 (by decide) ?_
  refine x_iconst (v := nI 0) dX5_listWorlds_7 (by decide) ?_
  refine x_iconst (v := nI 0) dX5_listWorlds_8 (by decide) ?_
  refine x_cSV5 dX5_listWorlds_9 lkX5_150 mdX5_addWorlds stX5_addWorlds (by omega) (hc) (Nat.le_of_ble_eq_true rfl) ⟨Nat.le_refl _, Nat.le_refl _⟩ ?_
  rintro h' ⟨V', rfl, q1, q2⟩
  refine x_vret dX5_listWorlds_12 rfl ⟨Nat.le_refl _, Nat.le_refl _⟩ ?_
  refine ⟨rfl, ⟨V', rfl, by simpa using q1, fun b hb1 hb2 => (q2 b hb1 hb2).trans (by simp [va_up, hb1])⟩, rfl⟩
end ZS13
