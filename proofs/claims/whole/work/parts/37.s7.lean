section ZS11
variable {G : zG} {n : Nat} {h0 : zF} {L : zSh} {V : Nat → Nat → Nat} {w r len t : Nat} {J : Nat → Nat} {X : Nat → Nat → Nat} {T : zT}
theorem take_succ' {l : List Nat} {i : Nat} (h : i < l.length) : l.take (i + 1) = l.take i ++ [l.getD i 0] := by
  rw [List.take_succ, List.getD_eq_getElem?_getD, List.getElem?_eq_getElem h]; rfl
theorem filter_take_le (g : Nat → Bool) (l : List Nat) (i : Nat) : ((l.take i).filter g).length ≤ i := by
  have h1 := List.length_filter_le g (l.take i)
  have h2 := List.length_take_le i l
  omega
/-- the worlds that answer trial (p, sort) by a -/
def naL (T : zT) (p sort a : Nat) (l : List Nat) : List Nat := l.filter (fun x => ansF T p sort (sI x p) 0 == a)
theorem ansF_K {p sort s : Nat} (hk : tR T) (hp : p < T 7 0) (hso : sort < 4) (hs : s < 256) : ansF T p sort s 0 < 1000 := by
  have k2 := hk.1
  have hw := wOf_le (p := p) (s := s) k2 (fun t ht => (hk.2.2.1 t ht).1.2)
  have hbx := (hk.2.2.2.1 p hp).1
  have hpl := pop_lt s hs
  rcases (show sort = 0 ∨ sort = 1 ∨ sort = 2 ∨ sort = 3 by omega) with rfl | rfl | rfl | rfl
  · show (wOf T p s + 0) / T 11 0 < 1000
    have := Nat.div_le_self (wOf T p s + 0) (T 11 0)
    omega
  · show (if 0 < mnOf T s 2 then 2 else 0) + (if 0 < mnOf T s 1 then 1 else 0) < 1000
    split <;> split <;> omega
  · show pop s - mnOf T s 0 < 1000
    omega
  · show (if pop s = mnOf T s 0 then 1 else 0) < 1000
    split <;> omega
theorem c_narrow {p sort a : Nat} {l : List Nat} (hw : L w = some (sW r)) (hr : L r = some (sA len)) (hm : len < 2 ^ 31) (hl : isWs V w r l) (hln : l.length ≤ len) (hT : ∀ V, zTr (gH h0 L V) t J X) (hI : tI J X T) (hk : tR T) (hp : p < T 7 0) (hso : sort < 4) (ha : a < 2 ^ 31) (hx : ∀ x ∈ l, sI x p < 2 ^ T 2 0) : zPv G MX6_narrow 3 [.ref w, .ref t, .int (nI p), .int (nI sort), .int (nI a)] (gH h0 L V) n (fun h' => ∃ V', h' = gH h0 L V' ∧ isWs V' w r (naL T p sort a l) ∧ ∀ b, b ≠ w → b ≠ r → V' b = V b) := by
  refine zCt.of rfl (Nat.le_of_ble_eq_true rfl) rfl ?_
  have hne := wr_ne hw hr
  have k2 := hk.1
  have k7 := hk.2.1
  have hpow : 2 ^ T 2 0 ≤ 256 := (Nat.pow_le_pow_right (by decide) k2 : 2 ^ T 2 0 ≤ 2 ^ 8)
  have e1 : V w 1 = l.length := hl.1
  refine x_aload_n dX6_narrow_0 rfl ?_
  refine x_getf dX6_narrow_1 flX6_13 (g_c hw) rfl ?_
  rw [e1]
  refine x_is5 dX6_narrow_4 (by decide) rfl ?_
  refine x_aload_n dX6_narrow_6 rfl ?_
  refine x_cVV0 dX6_narrow_7 lkX6_43 mdX6_clear isX6_clear rfl rfl (g_c hw) (by decide) (c_wClear hw) (Nat.le_of_ble_eq_true rfl) ⟨Nat.le_refl _, Nat.le_refl _⟩ ?_
  rintro h' rfl
  refine x_iconst (v := nI 0) dX6_narrow_10 (by decide) ?_
  refine x_is6 dX6_narrow_11 (by decide) rfl ?_
  have key : ∀ i, i ≤ l.length → ∀ (V' : Nat → Nat → Nat) (o7 : Option Value), isWs V' w r (naL T p sort a (l.take i)) → (∀ j, i ≤ j → j < l.length → V' r j = l.getD j 0) → (∀ b, b ≠ w → b ≠ r → V' b = V b) → zEx G MX6_narrow 3 0 0 13 [some (.ref w), some (.ref t), some (.int (nI p)), some (.int (nI sort)), some (.int (nI a)), some (.int (nI l.length)), some (.int (nI i)), o7] [] (gH h0 L V') n (0, 0) (fun r1 h' n' => r1 = none ∧ (∃ V', h' = gH h0 L V' ∧ isWs V' w r (naL T p sort a l) ∧ ∀ b, b ≠ w → b ≠ r → V' b = V b) ∧ n' = n) := by
    refine z_up l.length ?_
    intro i hi ih V' o7 h1 h2 h3
    have hfl := filter_take_le (fun x => ansF T p sort (sI x p) 0 == a) l i
    refine x_iload dX6_narrow_13 rfl ?_
    refine x_iload dX6_narrow_15 rfl ?_
    refine n_icmp_ge (tgt := 58) dX6_narrow_17 (by decide) (by omega) (by omega) (fun hc => ?_) (fun hc => ?_)
    · have hie : i = l.length := by omega
      subst hie
      rw [List.take_length] at h1
      refine x_vret dX6_narrow_58 rfl ⟨Nat.le_refl _, Nat.le_refl _⟩ ?_
      exact ⟨rfl, ⟨V', rfl, h1, h3⟩, rfl⟩
    · have hi' : i < l.length := by omega
      have ev := h2 i (Nat.le_refl _) hi'
      have hs := hx _ (getD_mem hi')
      have hal := ansF_K hk hp hso (show sI (l.getD i 0) p < 256 by omega)
      have et := take_succ' hi'
      have en : V' w 1 = (naL T p sort a (l.take i)).length := h1.1
      have hle : V' w 1 ≤ i := by rw [en]; exact hfl
      refine x_aload_n dX6_narrow_20 rfl ?_
      refine x_iload dX6_narrow_21 rfl ?_
      refine x_cVi1 dX6_narrow_23 lkX6_39 mdX6_take isX6_take rfl rfl (g_c hw) (by decide) (c_take hw hr hm (by omega)) (Nat.le_of_ble_eq_true rfl) ⟨Nat.le_refl _, Nat.le_refl _⟩ ?_
      rw [ev]
      refine x_is7 dX6_narrow_26 (by decide) rfl ?_
      refine x_aload_n dX6_narrow_28 rfl ?_
      refine x_iload_n dX6_narrow_29 rfl ?_
      refine x_iload_n dX6_narrow_30 rfl ?_
      refine x_iload dX6_narrow_31 rfl ?_
      refine x_iload_n dX6_narrow_33 rfl ?_
      refine x_cSi2 dX6_narrow_34 lkX6_46 mdX7_inside stX7_inside (by decide) (c_inside _ (by omega)) (Nat.le_of_ble_eq_true rfl) ⟨Nat.le_refl _, Nat.le_refl _⟩ ?_
      refine x_iconst (v := nI 0) dX6_narrow_37 (by decide) ?_
      refine x_cVi4 dX6_narrow_38 lkX6_49 mdX5_reply isX5_reply rfl rfl (And.left (hT _)) (by decide) (c_reply (hT _) hI hk hp hso hs (by decide)) (Nat.le_of_ble_eq_true rfl) ⟨Nat.le_refl _, Nat.le_refl _⟩ ?_
      refine x_iload dX6_narrow_41 rfl ?_
      refine n_icmp_ne (tgt := 52) dX6_narrow_43 (by decide) (by omega) (by omega) (fun c1 => ?_) (fun c1 => ?_)
      · refine n_ii6 (w := 1) dX6_narrow_52 (by decide) (by decide) rfl ?_
        refine x_goto (tgt := 13) dX6_narrow_55 (by decide) ?_
        refine ih (by omega) V' _ ?_ (fun j hj => h2 j (by omega)) h3
        rw [et, naL, List.filter_append, List.filter_cons_of_neg (by simpa using c1)]
        simpa [naL] using h1
      · refine x_aload_n dX6_narrow_46 rfl ?_
        refine x_iload dX6_narrow_47 rfl ?_
        refine x_cVV1 dX6_narrow_49 lkX6_55 mdX6_add isX6_add rfl rfl (g_c hw) (by decide) (c_wAdd hw hr hm (by omega)) (Nat.le_of_ble_eq_true rfl) ⟨Nat.le_refl _, Nat.le_refl _⟩ ?_
        rintro h' rfl
        refine n_ii6 (w := 1) dX6_narrow_52 (by decide) (by decide) rfl ?_
        refine x_goto (tgt := 13) dX6_narrow_55 (by decide) ?_
        refine ih (by omega) _ _ ?_ ?_ ?_
        · rw [et, naL, List.filter_append, List.filter_cons_of_pos (by simpa using c1)]
          refine ⟨?_, ?_⟩
          · simp only [va_up, if_pos, List.length_append, List.filter_nil, List.length_cons, List.length_nil]
            rw [en]; rfl
          · have : (va_up (va_up V' r (va_up (V' r) (V' w 1) (l.getD i 0))) w (va_up (V' w) 1 (V' w 1 + 1))) r = va_up (V' r) (V' w 1) (l.getD i 0) := by
              simp [va_up, Ne.symm hne]
            rw [this, en]
            exact arrIs.push h1.2 rfl _
        · intro j hj hjl
          have : (va_up (va_up V' r (va_up (V' r) (V' w 1) (l.getD i 0))) w (va_up (V' w) 1 (V' w 1 + 1))) r = va_up (V' r) (V' w 1) (l.getD i 0) := by
            simp [va_up, Ne.symm hne]
          rw [this]
          unfold va_up
          rw [if_neg (by omega)]
          exact h2 j (by omega) hjl
        · intro b hb1 hb2
          rw [← h3 b hb1 hb2]
          simp [va_up, hb1, hb2]
  have er : (va_up V w (va_up (V w) 1 0)) r = V r := by simp [va_up, Ne.symm hne]
  refine key 0 (Nat.zero_le _) _ _ ⟨?_, ?_⟩ ?_ ?_
  · simp [va_up, naL]
  · intro j hj; exact absurd hj (by simp [naL])
  · intro j _ hj; rw [er]; exact hl.2 j hj
  · intro b hb1 hb2; simp [va_up, hb1]
theorem c_makeRoom {x : Nat} (hw : L w = some (sW r)) (hr : L r = some (sA len)) (hm : len < 2 ^ 31) (hx : x < 100000000) (hwn : w ≠ n) : zCt G MX6_makeRoom 0 1 x [.ref w, .int (nI x)] (gH h0 L V) n (fun v h' n' => v = none ∧ if len < x then h' = gH h0 (va_up (va_up L n (some (sA x))) w (some (sW n))) (va_up (va_up V n (fun _ => 0)) w (va_up (V w) 1 0)) ∧ n' = n + 1 else h' = gH h0 L V ∧ n' = n) := by
  refine zCt.of rfl (Nat.le_of_ble_eq_true rfl) rfl ?_
  refine x_iload_n dX6_makeRoom_0 rfl ?_
  refine x_aload_n dX6_makeRoom_1 rfl ?_
  refine x_getf dX6_makeRoom_2 flX6_7 (g_c hw) rfl ?_
  refine x_alen dX6_makeRoom_5 (g_c hr) rfl ?_
  refine n_icmp_le (tgt := 21) dX6_makeRoom_6 (by decide) (by omega) (by omega) (fun c1 => ?_) (fun c1 => ?_)
  · refine x_vret dX6_makeRoom_21 rfl ⟨Nat.zero_le _, Nat.zero_le _⟩ ?_
    exact ⟨rfl, by rw [if_neg (by omega)]; exact ⟨rfl, rfl⟩⟩
  · refine x_aload_n dX6_makeRoom_9 rfl ?_
    refine x_iload_n dX6_makeRoom_10 rfl ?_
    refine x_newa (ty := .int) (N := x) (a0 := (x, .inl (fun _ => nI 0))) dX6_makeRoom_11 rfl ac_int (fun cA => rfl) (nI_pos (by omega)) (nI_clamp (by omega)) (by show x * 4 ≤ _; omega) ⟨Nat.le_refl _, by simp⟩ ?_
    rw [show (va_up (gH h0 L V) n (some (Sum.inl (FieldType.int, x, Sum.inl (fun _ => nI 0))) : Option zC)) = gH h0 (va_up L n (some (sA x))) (va_up V n (fun _ => 0)) from g_new (sA x) (fun _ => 0)]
    have hw1 : (va_up L n (some (sA x))) w = some (sW r) := by unfold va_up; rw [if_neg hwn]; exact hw
    have hV1 : (va_up V n (fun _ => 0)) w = V w := by unfold va_up; rw [if_neg hwn]
    have hw2 : (va_up (va_up L n (some (sA x))) w (some (sW n))) w = some (sW n) := by unfold va_up; rw [if_pos rfl]
    refine x_putf dX6_makeRoom_13 flX6_7 ftX6_0 (g_c hw1) rfl rfl (Nat.le_of_ble_eq_true rfl) ?_
    rw [show (va_up (gH h0 (va_up L n (some (sA x))) (va_up V n (fun _ => 0))) w (some (Sum.inr (6, [Value.ref r, Value.int (nI ((va_up V n (fun _ => 0)) w 1))].set 0 (Value.ref n))) : Option zC)) = gH h0 (va_up (va_up L n (some (sA x))) w (some (sW n))) (va_up (va_up V n (fun _ => 0)) w ((va_up V n (fun _ => 0)) w)) from g_new (sW n) _]
    refine x_aload_n dX6_makeRoom_16 rfl ?_
    refine x_iconst (v := nI 0) dX6_makeRoom_17 (by decide) ?_
    refine g_put dX6_makeRoom_18 flX6_13 ftX6_1 hw2 (Nat.le_of_ble_eq_true rfl) rfl ?_
    refine x_vret dX6_makeRoom_21 rfl ⟨Nat.le_refl _, by simp⟩ ?_
    refine ⟨rfl, ?_⟩
    rw [if_pos (by omega)]
    refine ⟨?_, rfl⟩
    rw [hV1, up_up]
    simp [va_up]
end ZS11
