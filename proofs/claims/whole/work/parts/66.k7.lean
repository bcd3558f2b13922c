def rWr (I : Nat → Nat) (A : Nat → Nat → Nat) (x v : Int32) (I' : Nat → Nat) (A' : Nat → Nat → Nat) : Prop := (¬ ((32 : Int) ≤ x.toInt ∧ x.toInt ≤ 126) ∧ v = -1 ∧ I' = I ∧ A' = A) ∨ (((32 : Int) ≤ x.toInt ∧ x.toInt ≤ 126) ∧ I 0 = 200 ∧ v = -3 ∧ I' = I ∧ A' = A) ∨ (((32 : Int) ≤ x.toInt ∧ x.toInt ≤ 126) ∧ I 0 < 200 ∧ ∃ c, (32 ≤ c ∧ c ≤ 126) ∧ x = nI c ∧ v = nI (I 0 + 1) ∧ I' = va_up I 0 (I 0 + 1) ∧ A' = va_up A 1 (va_up (A 1) (I 0) c))
def rAt (I : Nat → Nat) (A : Nat → Nat → Nat) (x y v : Int32) (I' : Nat → Nat) (A' : Nat → Nat → Nat) : Prop := ((bR x (A 7 0) && bR y 4) = false ∧ v = -1 ∧ I' = I ∧ A' = A) ∨ ((bR x (A 7 0) && bR y 4) = true ∧ A 17 8 = 12 ∧ v = -3 ∧ I' = I ∧ A' = A) ∨ ((bR x (A 7 0) && bR y 4) = true ∧ A 17 8 < 12 ∧ ∃ p sort, (p < A 7 0 ∧ sort < 4) ∧ (x = nI p ∧ y = nI sort) ∧ v = nI (ansF A p sort (A 17 p) (A 17 (4 + p))) ∧ I' = va_up I 20 (ntU (I 20)) ∧ A' = va_up (va_up A 18 (ntB (A 18) (A 17) (I 20))) 17 (adS (A 17) p sort (ansF A p sort (A 17 p) (A 17 (4 + p)))))
def rHe (I : Nat → Nat) (A : Nat → Nat → Nat) (x y z v : Int32) (I' : Nat → Nat) (A' : Nat → Nat → Nat) : Prop := ((bR x (A 7 0) && bR y 4 && bR z 100) = false ∧ v = -1 ∧ I' = I ∧ A' = A) ∨ ((bR x (A 7 0) && bR y 4 && bR z 100) = true ∧ A 17 8 = 12 ∧ v = -3 ∧ I' = I ∧ A' = A) ∨ ((bR x (A 7 0) && bR y 4 && bR z 100) = true ∧ A 17 8 < 12 ∧ ∃ p sort w, (p < A 7 0 ∧ sort < 4 ∧ w < 100) ∧ (x = nI p ∧ y = nI sort ∧ z = nI w) ∧ v = nI (A 17 8 + 1) ∧ I' = va_up I 20 (ntU (I 20)) ∧ A' = va_up (va_up A 18 (ntB (A 18) (A 17) (I 20))) 17 (adS (A 17) p sort w))
def rCh (I : Nat → Nat) (A : Nat → Nat → Nat) (x y v : Int32) (I' : Nat → Nat) (A' : Nat → Nat → Nat) : Prop := ((bR x (A 7 0) = false ∨ bR y (A 7 0) = false ∨ x = y) ∧ v = -1 ∧ I' = I ∧ A' = A) ∨ (¬ (bR x (A 7 0) = false ∨ bR y (A 7 0) = false ∨ x = y) ∧ ∃ p q, (p < A 7 0 ∧ q < A 7 0 ∧ p ≠ q) ∧ (x = nI p ∧ y = nI q) ∧ ((¬ (A 10 p = A 10 q ∧ fairT (vw A 0) (chW (A 17) p q) = true) ∧ v = -2 ∧ I' = I ∧ A' = A) ∨ ((A 10 p = A 10 q ∧ fairT (vw A 0) (chW (A 17) p q) = true) ∧ v = nI (chS (A 17) p q p) ∧ I' = va_up I 20 (ntU (I 20)) ∧ A' = va_up (va_up A 18 (ntB (A 18) (A 17) (I 20))) 17 (chS (A 17) p q))))
def rHi (I : Nat → Nat) (A : Nat → Nat → Nat) (x y v : Int32) (I' : Nat → Nat) (A' : Nat → Nat → Nat) : Prop := ((bR x (A 7 0) && bR y 10) = false ∧ v = -1 ∧ I' = I ∧ A' = A) ∨ ((bR x (A 7 0) && bR y 10) = true ∧ ∃ p w, (p < A 7 0 ∧ w < 10) ∧ (x = nI p ∧ y = nI w) ∧ v = nI (A 17 (4 + p)) ∧ I' = va_up I 20 (ntU (I 20)) ∧ A' = va_up (va_up A 18 (ntB (A 18) (A 17) (I 20))) 17 (va_up (A 17) (4 + p) w))
def rUd (I : Nat → Nat) (A : Nat → Nat → Nat) (v : Int32) (I' : Nat → Nat) (A' : Nat → Nat → Nat) : Prop := (I 20 = 0 ∧ v = -2 ∧ I' = I ∧ A' = A) ∨ (0 < I 20 ∧ v = nI (I 20 - 1) ∧ I' = va_up I 20 (I 20 - 1) ∧ A' = va_up A 17 (blk (A 18) (A 17) (I 20 - 1) 21))
def rKp (I : Nat → Nat) (A : Nat → Nat → Nat) (v : Int32) (I' : Nat → Nat) (A' : Nat → Nat → Nat) : Prop := (I 22 = 2 ∧ v = -3 ∧ I' = I ∧ A' = A) ∨ (I 22 < 2 ∧ v = nI (I 22 + 1) ∧ I' = va_up I 22 (I 22 + 1) ∧ A' = va_up A 19 (kpB (A 19) (A 17) (I 22) 21))
def rBk (I : Nat → Nat) (A : Nat → Nat → Nat) (v : Int32) (I' : Nat → Nat) (A' : Nat → Nat → Nat) : Prop := (I 22 = 0 ∧ v = -2 ∧ I' = I ∧ A' = A) ∨ (0 < I 22 ∧ v = nI (I 22 - 1) ∧ I' = va_up (va_up I 22 (I 22 - 1)) 20 0 ∧ A' = va_up A 17 (blk (A 19) (A 17) (I 22 - 1) 21))
section ZK8
variable {G : zG} {n : Nat} {h0 : zF} {L : zSh} {V : Nat → Nat → Nat} {c : Nat} {P J I : Nat → Nat} {X A : Nat → Nat → Nat}
theorem k_write {x : Int32} (hL : kL L c P) (hV : kV V c P J X I A) : zPi G MX7_write 1 [.ref c, .int x] (gH h0 L V) n (fun v h' => ∃ I' A', rWr I A x v I' A' ∧ kPo h0 L c P J X I' A' h') := by
  refine zCt.of rfl (Nat.le_of_ble_eq_true rfl) rfl ?_
  have hX := hL.2.1
  have t1 := hV.1
  have hno : ¬ ((32 : Int) ≤ x.toInt ∧ x.toInt ≤ 126) → zEx G MX7_write 1 0 0 12 [some (.ref c), some (.int x)] [] (gH h0 L V) n (0, 0) (fun r h' n' => ∃ v, r = some (.int v) ∧ (∃ I' A', rWr I A x v I' A' ∧ kPo h0 L c P J X I' A' h') ∧ n' = n) := by
    intro hc
    refine x_iconst (v := -1) dX7_write_12 (by decide) ?_
    refine x_iret dX7_write_13 rfl rfl ⟨Nat.le_refl _, Nat.le_refl _⟩ ?_
    exact ⟨_, rfl, ⟨I, A, Or.inl ⟨hc, rfl, rfl, rfl⟩, V, rfl, hV⟩, rfl⟩
  have e32 : (nI 32).toInt = 32 := by decide
  have e126 : (nI 126).toInt = 126 := by decide
  refine x_iload_n dX7_write_0 rfl ?_
  refine x_bipush (v := nI 32) dX7_write_1 (by decide) ?_
  refine x_icmp_lt (tgt := 12) dX7_write_3 (by decide) (fun c1 => ?_) (fun c1 => ?_)
  · rw [fa_lt, e32] at c1
    exact hno (by omega)
  · rw [fa_lt, e32] at c1
    refine x_iload_n dX7_write_6 rfl ?_
    refine x_bipush (v := nI 126) dX7_write_7 (by decide) ?_
    refine x_icmp_le (tgt := 14) dX7_write_9 (by decide) (fun c2 => ?_) (fun c2 => ?_)
    · rw [fa_le, e126] at c2
      have hx : (32 : Int) ≤ x.toInt ∧ x.toInt ≤ 126 := by omega
      obtain ⟨k, hk, rfl⟩ := inR_of (x := x) (m := 127) (by unfold inR; omega) (by decide)
      rw [nI_toInt (by omega)] at hx
      have hP := hL.2.2.2.2.2.2.2.2.2.2.2.2.1
      refine x_aload_n dX7_write_14 rfl ?_
      refine x_getf dX7_write_15 flX7_12 (g_c (And.left hL)) rfl ?_
      refine x_iload_n dX7_write_18 rfl ?_
      refine x_cVI1 dX7_write_19 lkX7_89 mdX3_add isX3_add rfl rfl (g_c hX.1) (by decide) (c_txAdd hX.1 hX.2.1 (by rw [t1.1]; exact t1.2.1) (by omega)) (Nat.le_of_ble_eq_true rfl) ⟨Nat.le_refl _, Nat.le_refl _⟩ ?_
      rintro v h' (⟨q1, rfl, rfl⟩ | ⟨q1, rfl, rfl⟩)
      · refine b_if_eq (b := false) (tgt := 35) dX7_write_22 (by decide) (fun _ => ?_) (fun z => by cases z)
        refine x_bipush (v := -3) dX7_write_35 (by decide) ?_
        refine x_iret dX7_write_37 rfl rfl ⟨Nat.le_refl _, Nat.le_refl _⟩ ?_
        exact ⟨_, rfl, ⟨I, A, Or.inr (Or.inl ⟨by rw [nI_toInt (by omega)]; exact hx, by rw [← t1.1]; exact q1, rfl, rfl, rfl⟩), V, rfl, hV⟩, rfl⟩
      · refine b_if_eq (b := true) (tgt := 35) dX7_write_22 (by decide) (fun z => by cases z) (fun _ => ?_)
        refine x_aload_n dX7_write_25 rfl ?_
        refine x_getf dX7_write_26 flX7_12 (g_c (And.left hL)) rfl ?_
        refine x_getf dX7_write_29 flX7_100 (g_c hX.1) rfl ?_
        refine x_goto (tgt := 37) dX7_write_32 (by decide) ?_
        refine x_iret dX7_write_37 rfl rfl ⟨Nat.le_refl _, Nat.le_refl _⟩ ?_
        rw [up_eq, up_eq, t1.1]
        rw [t1.1] at q1
        refine ⟨_, rfl, ⟨va_up I 0 (I 0 + 1), va_up A 1 (va_up (A 1) (I 0) k), Or.inr (Or.inr ⟨by rw [nI_toInt (by omega)]; exact hx, q1, k, by omega, rfl, rfl, rfl, rfl⟩), _, rfl, ?_⟩, rfl⟩
        have e : ∀ b, b ≠ c + 1 → b ≠ c + 2 → (va_up (va_up V (c + 2) (va_up (V (c + 2)) (I 0) k)) (c + 1) (va_up (V (c + 1)) 1 (I 0 + 1))) b = V b := fun b h1 h2 => by rw [up_ne _ _ h1, up_ne _ _ h2]
        have r : rwE A (va_up A 1 (va_up (A 1) (I 0) k)) := fun j h _ => up_ne _ _ (by omega)
        obtain ⟨a1, a2, a3, a4, a5, a6, a7⟩ := hV
        refine ⟨⟨?_, ?_, ?_, ?_⟩, a2.co r, (a3.fr (e _ (by omega) (by omega)) (e _ (by omega) (by omega))).co r rfl rfl, (a4.fr (fun b h1 h2 => e _ (by omega) (by omega))).co r rfl, (a5.fr (fun b h1 h2 => e _ (by omega) (by omega))).co r rfl rfl, (a6.fr (fun b h1 h2 => e _ (by omega) (by omega))).co r rfl rfl, (a7.fr (e _ (by omega) (by omega)) (e _ (by omega) (by omega)) (e _ (by omega) (by omega))).co r rfl rfl rfl⟩
        · rw [up_eq, up_eq, up_eq]
        · rw [up_eq]; omega
        · intro j hj
          rw [up_eq] at hj
          rw [up_ne _ _ (by omega), up_eq, up_eq]
          by_cases ej : j = I 0
          · subst ej; rw [up_eq, up_eq]; exact ⟨rfl, by omega⟩
          · rw [up_ne _ _ ej, up_ne _ _ ej]; exact a1.2.2.1 j (by omega)
        · intro j hj
          rw [e _ (by omega) (by omega)]; exact a1.2.2.2 j hj
    · rw [fa_le, e126] at c2
      exact hno (by omega)
theorem k_wipe (hL : kL L c P) (hV : kV V c P J X I A) : zPi G MX7_wipe 1 [.ref c] (gH h0 L V) n (fun v h' => v = nI (I 0) ∧ kPo h0 L c P J X (va_up I 0 0) A h') := by
  refine zCt.of rfl (Nat.le_of_ble_eq_true rfl) rfl ?_
  have hX := hL.2.1
  have hP := hL.2.2.2.2.2.2.2.2.2.2.2.2.1
  refine x_aload_n dX7_wipe_0 rfl ?_
  refine x_getf dX7_wipe_1 flX7_12 (g_c (And.left hL)) rfl ?_
  refine x_getf dX7_wipe_4 flX7_100 (g_c hX.1) rfl ?_
  rw [hV.1.1]
  refine x_is1 dX7_wipe_7 (by decide) rfl ?_
  refine x_aload_n dX7_wipe_8 rfl ?_
  refine x_getf dX7_wipe_9 flX7_12 (g_c (And.left hL)) rfl ?_
  refine x_cVV0 dX7_wipe_12 lkX7_97 mdX3_clear isX3_clear rfl rfl (g_c hX.1) (by decide) (c_txClear hX.1) (Nat.le_of_ble_eq_true rfl) ⟨Nat.le_refl _, Nat.le_refl _⟩ ?_
  rintro h' rfl
  refine x_iload_n dX7_wipe_15 rfl ?_
  refine x_iret dX7_wipe_16 rfl rfl ⟨Nat.le_refl _, Nat.le_refl _⟩ ?_
  refine ⟨_, rfl, ⟨rfl, _, rfl, ?_⟩, rfl⟩
  have e : ∀ b, b ≠ c + 1 → (va_up V (c + 1) (va_up (V (c + 1)) 1 0)) b = V b := fun b h1 => up_ne _ _ h1
  have r : rwE A A := fun _ _ _ => rfl
  obtain ⟨a1, a2, a3, a4, a5, a6, a7⟩ := hV
  refine ⟨⟨?_, ?_, ?_, ?_⟩, a2, (a3.fr (e _ (by omega)) (e _ (by omega))).co r rfl rfl, a4.fr (fun b h1 h2 => e _ (by omega)), (a5.fr (fun b h1 h2 => e _ (by omega))).co r rfl rfl, (a6.fr (fun b h1 h2 => e _ (by omega))).co r rfl rfl, (a7.fr (e _ (by omega)) (e _ (by omega)) (e _ (by omega))).co r rfl rfl rfl⟩
  · rw [up_eq, up_eq]; rfl
  · exact Nat.zero_le _
  · intro j hj; exact absurd hj (Nat.not_lt_zero _)
  · intro j hj; rw [e _ (by omega)]; exact a1.2.2.2 j hj
set_option maxRecDepth 100000 in
theorem k_note {p so v : Nat} (hL : kL L c P) (hV : kV V c P J X I A) (hp : p < A 7 0) (hso : so < 4) (hv : v < 200) (h8 : A 17 8 < 12) : zPv G MX7_note 3 [.ref c, .int (nI p), .int (nI so), .int (nI v)] (gH h0 L V) n (fun h' => ∃ V', h' = gH h0 L V' ∧ kV V' c P J X (va_up I 20 (ntU (I 20))) (va_up (va_up A 18 (ntB (A 18) (A 17) (I 20))) 17 (adS (A 17) p so v)) ∧ V' (c + 44) 4 = A 17 8 + 1) := by
  refine zCt.of rfl (Nat.le_of_ble_eq_true rfl) rfl ?_
  have hR := hV.2.1
  have k7 := hR.2.1.2.1
  have hS : zSc L (c + 44) := hL.2.2.2.2.2.2.1
  have hz := hL.2.2.2.2.2.2.2.1
  have hU := hV.2.2.2.2.1
  have hN := hV.2.2.2.1
  have up := un_push hL hU
  refine x_aload_n dX7_note_0 rfl ?_
  refine x_getf dX7_note_1 flX7_58 (g_c (And.left hL)) rfl ?_
  refine x_aload_n dX7_note_4 rfl ?_
  refine x_getf dX7_note_5 flX7_49 (g_c (And.left hL)) rfl ?_
  refine x_cVV1 dX7_note_8 lkX7_195 mdX2_push isX2_push rfl rfl (g_c hz.1) (by decide) (c_push hz.1 hz.2.1 (by decide) (by decide) up.1 (kUn_sc hL hU) hS up.2) (Nat.le_of_ble_eq_true rfl) ⟨Nat.le_refl _, Nat.le_refl _⟩ ?_
  rintro h' ⟨V1, rfl, f1, f2, f3, f4⟩
  obtain ⟨q1, q2⟩ := kUn_push hU hN k7 f1 f2 f3 f4
  clear f1 f2 f3 f4
  have e44 : ∀ b, c + 44 ≤ b → b < c + 48 → V1 b = V b := fun b h1 h2 => q1 b (by omega)
  have e4 : V1 (c + 44) 4 = A 17 8 := by rw [e44 _ (by omega) (by omega)]; exact hN.1.2.2.1
  refine x_aload_n dX7_note_11 rfl ?_
  refine x_getf dX7_note_12 flX7_49 (g_c (And.left hL)) rfl ?_
  refine x_iload_n dX7_note_15 rfl ?_
  refine x_iload_n dX7_note_16 rfl ?_
  refine x_cSi2 dX7_note_17 lkX7_306 mdX7_trialOf stX7_trialOf (by decide) (c_trialOf) (Nat.le_of_ble_eq_true rfl) ⟨Nat.le_refl _, Nat.le_refl _⟩ ?_
  refine x_iload_n dX7_note_20 rfl ?_
  refine x_cVV2 dX7_note_21 lkX7_309 mdX1_add isX1_add rfl rfl (g_c hS.1) (by decide) (c_scAdd hS (by rw [e4]; exact h8)) (Nat.le_of_ble_eq_true rfl) ⟨Nat.le_refl _, Nat.le_refl _⟩ ?_
  rintro h' ⟨V2, rfl, g1, g2, g3, g4⟩
  rw [e4] at g2 g3 g4
  refine x_aload_n dX7_note_24 rfl ?_
  refine x_iconst (v := nI 1) dX7_note_25 (by decide) ?_
  refine g_putZ (b := true) dX7_note_26 flX7_69 ftX7_11 hL.1 (Nat.le_of_ble_eq_true rfl) rfl ?_
  refine x_vret dX7_note_29 rfl ⟨Nat.le_refl _, Nat.le_refl _⟩ ?_
  have w1 : ∀ b, b ≠ c → (va_up V2 c (va_up (V2 c) 11 true.toNat)) b = V2 b := fun b hb => up_ne _ _ hb
  refine ⟨rfl, ⟨_, rfl, ?_, ?_⟩, rfl⟩
  · refine kV.nt hL hV ?_ ?_ ⟨?_, ?_⟩ ?_
    · intro b hb hbc; rw [w1 b hbc, g1 b (by omega) (by omega) (by omega), q1 b (by omega)]
    · exact q2.fr (fun b h1 h2 => by rw [w1 b (by omega), g1 b (by omega) (by omega) (by omega)])
    · rw [up_eq]
      obtain ⟨a1, a2, a3, a4⟩ := hN.1
      refine ⟨?_, ?_, ?_, ?_⟩
      · rw [w1 _ (by omega), g2, up_ne _ _ (by decide), e44 _ (by omega) (by omega)]; exact a1
      · intro p' hp'
        rw [w1 _ (by omega), w1 _ (by omega), g2, up_ne _ _ (by decide), e44 _ (by omega) (by omega), g1 _ (by omega) (by omega) (by omega), e44 _ (by omega) (by omega)]
        unfold adS
        rw [if_neg (by omega), if_neg (by omega), if_neg (by omega), if_neg (by omega)]
        exact a2 p' hp'
      · rw [w1 _ (by omega), g2, up_eq]; rfl
      · intro k hk
        have hk : k < A 17 8 + 1 := hk
        rw [w1 _ (by omega), w1 _ (by omega), g3, g4, e44 _ (by omega) (by omega), e44 _ (by omega) (by omega)]
        unfold adS
        rw [if_neg (by omega)]
        by_cases e : k = A 17 8
        · subst e
          rw [up_eq, up_eq, if_pos rfl]
          omega
        · rw [up_ne _ _ e, up_ne _ _ e, if_neg (by omega)]
          exact a4 k (by omega)
    · rw [up_eq]
      refine ((rwE_up (by decide)).tr (rwE_up (by decide))).sc ?_
      obtain ⟨⟨a1, a2⟩, a3, a4, a5, a6⟩ := hN.2
      refine ⟨⟨?_, ?_⟩, ?_, ?_, ?_, ?_⟩
      · show A 17 8 + 1 ≤ 12; omega
      · intro k hk
        have hk : k < A 17 8 + 1 := hk
        unfold adS
        rw [if_neg (by omega)]
        by_cases e : k = A 17 8
        · rw [if_pos (by omega)]; omega
        · rw [if_neg (by omega)]; exact a2 k (by omega)
      · intro p' hp'; unfold adS; rw [if_neg (by omega), if_neg (by omega)]; exact a3 p' hp'
      · intro p' q' h1 h2 h3; unfold adS; rw [if_neg (by omega), if_neg (by omega), if_neg (by omega), if_neg (by omega)]; exact a4 p' q' h1 h2 h3
      · intro p' h1 h2; unfold adS; rw [if_neg (by omega), if_neg (by omega)]; exact a5 p' h1 h2
      · intro p' h1; unfold adS; rw [if_neg (by omega), if_neg (by omega)]; exact a6 p' h1
    · exact Or.inl (by rw [up_eq, up_eq]; rfl)
  · rw [w1 _ (by omega), g2, up_eq]
theorem k_attempt {x y : Int32} (hL : kL L c P) (hT : ∀ V, zTr (gH h0 L V) (P 0) J X) (hV : kV V c P J X I A) : zPi G MX7_attempt 4 [.ref c, .int x, .int y] (gH h0 L V) n (fun v h' => ∃ I' A', rAt I A x y v I' A' ∧ kPo h0 L c P J X I' A' h') := by
  refine zCt.of rfl (Nat.le_of_ble_eq_true rfl) rfl ?_
  have hR := hV.2.1
  have k7 := hR.2.1.2.1
  have hS : zSc L (c + 44) := hL.2.2.2.2.2.2.1
  obtain ⟨n1, n2⟩ := hV.2.2.2.1
  have n8 := n2.1.1
  have e8 := n1.2.2.1
  have hno : (bR x (A 7 0) && bR y 4) = false → zEx G MX7_attempt 4 0 0 15 [some (.ref c), some (.int x), some (.int y), none] [] (gH h0 L V) n (0, 0) (fun r h' n' => ∃ v, r = some (.int v) ∧ (∃ I' A', rAt I A x y v I' A' ∧ kPo h0 L c P J X I' A' h') ∧ n' = n) := by
    intro hc
    refine x_iconst (v := -1) dX7_attempt_15 (by decide) ?_
    refine x_iret dX7_attempt_16 rfl rfl ⟨Nat.le_refl _, Nat.le_refl _⟩ ?_
    exact ⟨_, rfl, ⟨I, A, Or.inl ⟨hc, rfl, rfl, rfl⟩, V, rfl, hV⟩, rfl⟩
  refine x_aload_n dX7_attempt_0 rfl ?_
  refine x_iload_n dX7_attempt_1 rfl ?_
  refine x_cVi1 dX7_attempt_2 lkX7_139 mdX7_isParcel isX7_isParcel rfl rfl (g_c (And.left hL)) (by decide) (k_isParcel hL hT hR) (Nat.le_of_ble_eq_true rfl) ⟨Nat.le_refl _, Nat.le_refl _⟩ ?_
  refine b_if_eq (tgt := 15) dX7_attempt_5 (by decide) (fun c1 => ?_) (fun c1 => ?_)
  · exact hno (by rw [c1]; rfl)
  · refine x_iload_n dX7_attempt_8 rfl ?_
    refine x_cSi1 dX7_attempt_9 lkX7_164 mdX7_isSort stX7_isSort (by decide) (c_isSort y) (Nat.le_of_ble_eq_true rfl) ⟨Nat.le_refl _, Nat.le_refl _⟩ ?_
    refine b_if_ne (tgt := 17) dX7_attempt_12 (by decide) (fun c2 => ?_) (fun c2 => ?_)
    · have hc : (bR x (A 7 0) && bR y 4) = true := by rw [c1, c2]; rfl
      refine x_aload_n dX7_attempt_17 rfl ?_
      refine x_getf dX7_attempt_18 flX7_49 (g_c (And.left hL)) rfl ?_
      refine x_cVi0 dX7_attempt_21 lkX7_178 mdX1_isFull isX1_isFull rfl rfl (g_c hS.1) (by decide) (c_scFull hS (by omega)) (Nat.le_of_ble_eq_true rfl) ⟨Nat.le_refl _, Nat.le_refl _⟩ ?_
      rw [e8]
      refine b_if_eq (tgt := 30) dX7_attempt_24 (by decide) (fun c3 => ?_) (fun c3 => ?_)
      · have c3 := of_decide_eq_false c3
        obtain ⟨p, hp, rfl⟩ := inR_of (bR_true.mp c1) (by omega)
        obtain ⟨so, hso, rfl⟩ := inR_of (bR_true.mp c2) (by decide)
        have es := n1.2.1 p (by omega)
        have hsp := n2.2.1 p hp
        have hh := n2.2.2.2.2 p (by omega)
        have h10 := (hR.2.1.2.2.2.1 p hp).2.2
        have ha := ans_58 (f := A 17 (4 + p)) hR.2.1 hp hso hsp.1 (by omega)
        refine x_aload_n dX7_attempt_30 rfl ?_
        refine x_getf dX7_attempt_31 flX7_19 (g_c (And.left hL)) rfl ?_
        refine x_iload_n dX7_attempt_34 rfl ?_
        refine x_iload_n dX7_attempt_35 rfl ?_
        refine x_aload_n dX7_attempt_36 rfl ?_
        refine x_getf dX7_attempt_37 flX7_49 (g_c (And.left hL)) rfl ?_
        refine x_getf dX7_attempt_40 flX7_151 (g_c hS.1) rfl ?_
        refine x_iload_n dX7_attempt_43 rfl ?_
        refine x_cSi2 dX7_attempt_44 lkX7_154 mdX7_inside stX7_inside (by decide) (c_inside _ (by omega)) (Nat.le_of_ble_eq_true rfl) ⟨Nat.le_refl _, Nat.le_refl _⟩ ?_
        rw [es.1]
        refine x_aload_n dX7_attempt_47 rfl ?_
        refine x_getf dX7_attempt_48 flX7_49 (g_c (And.left hL)) rfl ?_
        refine x_getf dX7_attempt_51 flX7_158 (g_c hS.1) rfl ?_
        refine x_iload_n dX7_attempt_54 rfl ?_
        refine x_cSi2 dX7_attempt_55 lkX7_122 mdX7_at stX7_at (by decide) (c_atN (g_c hS.2.1) (by decide) (by omega)) (Nat.le_of_ble_eq_true rfl) ⟨Nat.le_refl _, Nat.le_refl _⟩ ?_
        rw [es.2]
        refine x_cVi4 dX7_attempt_58 lkX7_174 mdX5_reply isX5_reply rfl rfl (And.left (hT _)) (by decide) (c_reply (hT _) hR.1 hR.2.1 hp hso hsp.1 (by omega)) (Nat.le_of_ble_eq_true rfl) ⟨Nat.le_refl _, Nat.le_refl _⟩ ?_
        refine x_is3 dX7_attempt_61 (by decide) rfl ?_
        refine x_aload_n dX7_attempt_62 rfl ?_
        refine x_iload_n dX7_attempt_63 rfl ?_
        refine x_iload_n dX7_attempt_64 rfl ?_
        refine x_iload_n dX7_attempt_65 rfl ?_
        refine x_cVV3 dX7_attempt_66 lkX7_181 mdX7_note isX7_note rfl rfl (g_c (And.left hL)) (by decide) (k_note hL hV hp hso (by omega) (by omega)) (Nat.le_of_ble_eq_true rfl) ⟨Nat.le_refl _, Nat.le_refl _⟩ ?_
        rintro h' ⟨V', rfl, kv, _⟩
        refine x_iload_n dX7_attempt_69 rfl ?_
        refine x_iret dX7_attempt_70 rfl rfl ⟨Nat.le_refl _, Nat.le_refl _⟩ ?_
        exact ⟨_, rfl, ⟨_, _, Or.inr (Or.inr ⟨hc, by omega, p, so, ⟨hp, hso⟩, ⟨rfl, rfl⟩, rfl, rfl, rfl⟩), V', rfl, kv⟩, rfl⟩
      · have c3 := of_decide_eq_true c3
        refine x_bipush (v := -3) dX7_attempt_27 (by decide) ?_
        refine x_iret dX7_attempt_29 rfl rfl ⟨Nat.le_refl _, Nat.le_refl _⟩ ?_
        exact ⟨_, rfl, ⟨I, A, Or.inr (Or.inl ⟨hc, by omega, rfl, rfl, rfl⟩), V, rfl, hV⟩, rfl⟩
    · exact hno (by rw [c2]; simp)
theorem k_hear {x y z : Int32} (hL : kL L c P) (hT : ∀ V, zTr (gH h0 L V) (P 0) J X) (hV : kV V c P J X I A) : zPi G MX7_hear 4 [.ref c, .int x, .int y, .int z] (gH h0 L V) n (fun v h' => ∃ I' A', rHe I A x y z v I' A' ∧ kPo h0 L c P J X I' A' h') := by
  refine zCt.of rfl (Nat.le_of_ble_eq_true rfl) rfl ?_
  have hR := hV.2.1
  have k7 := hR.2.1.2.1
  have hS : zSc L (c + 44) := hL.2.2.2.2.2.2.1
  obtain ⟨n1, n2⟩ := hV.2.2.2.1
  have n8 := n2.1.1
  have e8 := n1.2.2.1
  have hno : (bR x (A 7 0) && bR y 4 && bR z 100) = false → zEx G MX7_hear 4 0 0 24 [some (.ref c), some (.int x), some (.int y), some (.int z)] [] (gH h0 L V) n (0, 0) (fun r h' n' => ∃ v, r = some (.int v) ∧ (∃ I' A', rHe I A x y z v I' A' ∧ kPo h0 L c P J X I' A' h') ∧ n' = n) := by
    intro hc
    refine x_iconst (v := -1) dX7_hear_24 (by decide) ?_
    refine x_iret dX7_hear_25 rfl rfl ⟨Nat.le_refl _, Nat.le_refl _⟩ ?_
    exact ⟨_, rfl, ⟨I, A, Or.inl ⟨hc, rfl, rfl, rfl⟩, V, rfl, hV⟩, rfl⟩
  refine x_aload_n dX7_hear_0 rfl ?_
  refine x_iload_n dX7_hear_1 rfl ?_
  refine x_cVi1 dX7_hear_2 lkX7_139 mdX7_isParcel isX7_isParcel rfl rfl (g_c (And.left hL)) (by decide) (k_isParcel hL hT hR) (Nat.le_of_ble_eq_true rfl) ⟨Nat.le_refl _, Nat.le_refl _⟩ ?_
  refine b_if_eq (tgt := 24) dX7_hear_5 (by decide) (fun c1 => ?_) (fun c1 => ?_)
  · exact hno (by rw [c1]; rfl)
  · refine x_iload_n dX7_hear_8 rfl ?_
    refine x_cSi1 dX7_hear_9 lkX7_164 mdX7_isSort stX7_isSort (by decide) (c_isSort y) (Nat.le_of_ble_eq_true rfl) ⟨Nat.le_refl _, Nat.le_refl _⟩ ?_
    refine b_if_eq (tgt := 24) dX7_hear_12 (by decide) (fun c2 => ?_) (fun c2 => ?_)
    · exact hno (by rw [c2]; simp)
    · refine x_iload_n dX7_hear_15 rfl ?_
      refine x_bipush (v := nI 100) dX7_hear_16 (by decide) ?_
      refine x_cSi2 dX7_hear_18 lkX7_170 mdX7_isBelow stX7_isBelow (by decide) (c_isBelow z (by decide)) (Nat.le_of_ble_eq_true rfl) ⟨Nat.le_refl _, Nat.le_refl _⟩ ?_
      refine b_if_ne (tgt := 26) dX7_hear_21 (by decide) (fun c4 => ?_) (fun c4 => ?_)
      · have hc : (bR x (A 7 0) && bR y 4 && bR z 100) = true := by rw [c1, c2, c4]; rfl
        refine x_aload_n dX7_hear_26 rfl ?_
        refine x_getf dX7_hear_27 flX7_49 (g_c (And.left hL)) rfl ?_
        refine x_cVi0 dX7_hear_30 lkX7_178 mdX1_isFull isX1_isFull rfl rfl (g_c hS.1) (by decide) (c_scFull hS (by omega)) (Nat.le_of_ble_eq_true rfl) ⟨Nat.le_refl _, Nat.le_refl _⟩ ?_
        rw [e8]
        refine b_if_eq (tgt := 39) dX7_hear_33 (by decide) (fun c3 => ?_) (fun c3 => ?_)
        · have c3 := of_decide_eq_false c3
          obtain ⟨p, hp, rfl⟩ := inR_of (bR_true.mp c1) (by omega)
          obtain ⟨so, hso, rfl⟩ := inR_of (bR_true.mp c2) (by decide)
          obtain ⟨w, hw, rfl⟩ := inR_of (bR_true.mp c4) (by decide)
          refine x_aload_n dX7_hear_39 rfl ?_
          refine x_iload_n dX7_hear_40 rfl ?_
          refine x_iload_n dX7_hear_41 rfl ?_
          refine x_iload_n dX7_hear_42 rfl ?_
          refine x_cVV3 dX7_hear_43 lkX7_181 mdX7_note isX7_note rfl rfl (g_c (And.left hL)) (by decide) (k_note hL hV hp hso (show w < 200 by omega) (by omega)) (Nat.le_of_ble_eq_true rfl) ⟨Nat.le_refl _, Nat.le_refl _⟩ ?_
          rintro h' ⟨V', rfl, kv, e9⟩
          refine x_aload_n dX7_hear_46 rfl ?_
          refine x_getf dX7_hear_47 flX7_49 (g_c (And.left hL)) rfl ?_
          refine x_getf dX7_hear_50 flX7_185 (g_c hS.1) rfl ?_
          rw [e9]
          refine x_iret dX7_hear_53 rfl rfl ⟨Nat.le_refl _, Nat.le_refl _⟩ ?_
          exact ⟨_, rfl, ⟨_, _, Or.inr (Or.inr ⟨hc, by omega, p, so, w, ⟨hp, hso, hw⟩, ⟨rfl, rfl, rfl⟩, rfl, rfl, rfl⟩), V', rfl, kv⟩, rfl⟩
        · have c3 := of_decide_eq_true c3
          refine x_bipush (v := -3) dX7_hear_36 (by decide) ?_
          refine x_iret dX7_hear_38 rfl rfl ⟨Nat.le_refl _, Nat.le_refl _⟩ ?_
          exact ⟨_, rfl, ⟨I, A, Or.inr (Or.inl ⟨hc, by omega, rfl, rfl, rfl⟩), V, rfl, hV⟩, rfl⟩
      · exact hno (by rw [c4]; simp)
set_option maxRecDepth 100000 in
theorem k_hide {x y : Int32} (hL : kL L c P) (hT : ∀ V, zTr (gH h0 L V) (P 0) J X) (hV : kV V c P J X I A) : zPi G MX7_hide 3 [.ref c, .int x, .int y] (gH h0 L V) n (fun v h' => ∃ I' A', rHi I A x y v I' A' ∧ kPo h0 L c P J X I' A' h') := by
  refine zCt.of rfl (Nat.le_of_ble_eq_true rfl) rfl ?_
  have hR := hV.2.1
  have k7 := hR.2.1.2.1
  have hS : zSc L (c + 44) := hL.2.2.2.2.2.2.1
  have hz := hL.2.2.2.2.2.2.2.1
  have hU := hV.2.2.2.2.1
  have hN := hV.2.2.2.1
  have up := un_push hL hU
  have hno : (bR x (A 7 0) && bR y 10) = false → zEx G MX7_hide 3 0 0 17 [some (.ref c), some (.int x), some (.int y), none] [] (gH h0 L V) n (0, 0) (fun r h' n' => ∃ v, r = some (.int v) ∧ (∃ I' A', rHi I A x y v I' A' ∧ kPo h0 L c P J X I' A' h') ∧ n' = n) := by
    intro hc
    refine x_iconst (v := -1) dX7_hide_17 (by decide) ?_
    refine x_iret dX7_hide_18 rfl rfl ⟨Nat.le_refl _, Nat.le_refl _⟩ ?_
    exact ⟨_, rfl, ⟨I, A, Or.inl ⟨hc, rfl, rfl, rfl⟩, V, rfl, hV⟩, rfl⟩
  refine x_aload_n dX7_hide_0 rfl ?_
  refine x_iload_n dX7_hide_1 rfl ?_
  refine x_cVi1 dX7_hide_2 lkX7_139 mdX7_isParcel isX7_isParcel rfl rfl (g_c (And.left hL)) (by decide) (k_isParcel hL hT hR) (Nat.le_of_ble_eq_true rfl) ⟨Nat.le_refl _, Nat.le_refl _⟩ ?_
  refine b_if_eq (tgt := 17) dX7_hide_5 (by decide) (fun c1 => ?_) (fun c1 => ?_)
  · exact hno (by rw [c1]; rfl)
  · refine x_iload_n dX7_hide_8 rfl ?_
    refine x_bipush (v := nI 10) dX7_hide_9 (by decide) ?_
    refine x_cSi2 dX7_hide_11 lkX7_170 mdX7_isBelow stX7_isBelow (by decide) (c_isBelow y (by decide)) (Nat.le_of_ble_eq_true rfl) ⟨Nat.le_refl _, Nat.le_refl _⟩ ?_
    refine b_if_ne (tgt := 19) dX7_hide_14 (by decide) (fun c2 => ?_) (fun c2 => ?_)
    · have hc : (bR x (A 7 0) && bR y 10) = true := by rw [c1, c2]; rfl
      obtain ⟨p, hp, rfl⟩ := inR_of (bR_true.mp c1) (by omega)
      obtain ⟨w, hw, rfl⟩ := inR_of (bR_true.mp c2) (by decide)
      refine x_aload_n dX7_hide_19 rfl ?_
      refine x_getf dX7_hide_20 flX7_58 (g_c (And.left hL)) rfl ?_
      refine x_aload_n dX7_hide_23 rfl ?_
      refine x_getf dX7_hide_24 flX7_49 (g_c (And.left hL)) rfl ?_
      refine x_cVV1 dX7_hide_27 lkX7_195 mdX2_push isX2_push rfl rfl (g_c hz.1) (by decide) (c_push hz.1 hz.2.1 (by decide) (by decide) up.1 (kUn_sc hL hU) hS up.2) (Nat.le_of_ble_eq_true rfl) ⟨Nat.le_refl _, Nat.le_refl _⟩ ?_
      rintro h' ⟨V1, rfl, f1, f2, f3, f4⟩
      obtain ⟨q1, q2⟩ := kUn_push hU hN k7 f1 f2 f3 f4
      clear f1 f2 f3 f4
      have e44 : ∀ b, c + 44 ≤ b → b < c + 48 → V1 b = V b := fun b h1 h2 => q1 b (by omega)
      have es := hN.1.2.1 p (by omega)
      refine x_aload_n dX7_hide_30 rfl ?_
      refine x_getf dX7_hide_31 flX7_49 (g_c (And.left hL)) rfl ?_
      refine x_getf dX7_hide_34 flX7_158 (g_c hS.1) rfl ?_
      refine x_iload_n dX7_hide_37 rfl ?_
      refine x_cSi2 dX7_hide_38 lkX7_122 mdX7_at stX7_at (by decide) (c_atN (g_c hS.2.1) (by decide) (by omega)) (Nat.le_of_ble_eq_true rfl) ⟨Nat.le_refl _, Nat.le_refl _⟩ ?_
      rw [e44 _ (by omega) (by omega), es.2]
      refine x_is3 dX7_hide_41 (by decide) rfl ?_
      refine x_aload_n dX7_hide_42 rfl ?_
      refine x_getf dX7_hide_43 flX7_49 (g_c (And.left hL)) rfl ?_
      refine x_getf dX7_hide_46 flX7_158 (g_c hS.1) rfl ?_
      refine x_iload_n dX7_hide_49 rfl ?_
      refine x_iload_n dX7_hide_50 rfl ?_
      refine x_cSV3 dX7_hide_51 lkX7_199 mdX7_put stX7_put (by decide) (c_putN (g_c hS.2.1) (by decide) (by omega)) (Nat.le_of_ble_eq_true rfl) ⟨Nat.le_refl _, Nat.le_refl _⟩ ?_
      rintro h' rfl
      refine x_eqH (g_up hS.2.1 _) ?_
      rw [e44 (c + 44 + 1) (by omega) (by omega)]
      refine x_iload_n dX7_hide_54 rfl ?_
      refine x_iret dX7_hide_55 rfl rfl ⟨Nat.le_refl _, Nat.le_refl _⟩ ?_
      have w1 : ∀ b, b ≠ c + 44 + 1 → (va_up V1 (c + 44 + 1) (va_up (V (c + 44 + 1)) p w)) b = V1 b := fun b hb => up_ne _ _ hb
      refine ⟨_, rfl, ⟨_, _, Or.inr ⟨hc, p, w, ⟨hp, hw⟩, ⟨rfl, rfl⟩, rfl, rfl, rfl⟩, _, rfl, ?_⟩, rfl⟩
      refine kV.nt hL hV ?_ ?_ ⟨?_, ?_⟩ ?_
      · intro b hb hbc; rw [w1 b (by omega), q1 b (by omega)]
      · exact q2.fr (fun b h1 h2 => by rw [w1 b (by omega)])
      · rw [up_eq]
        obtain ⟨a1, a2, a3, a4⟩ := hN.1
        refine ⟨?_, ?_, ?_, ?_⟩
        · rw [w1 _ (by omega), e44 _ (by omega) (by omega)]; exact a1
        · intro p' hp'
          rw [w1 _ (by omega), e44 _ (by omega) (by omega), up_eq, up_ne _ _ (by omega)]
          refine ⟨(a2 p' hp').1, ?_⟩
          by_cases e : p' = p
          · subst e; rw [up_eq, up_eq]
          · rw [up_ne _ _ e, up_ne _ _ (by omega)]; exact (a2 p' hp').2
        · rw [w1 _ (by omega), e44 _ (by omega) (by omega), up_ne _ _ (by omega)]; exact a3
        · intro k hk
          rw [up_ne _ _ (by omega)] at hk
          rw [w1 _ (by omega), w1 _ (by omega), e44 _ (by omega) (by omega), e44 _ (by omega) (by omega), up_ne _ _ (by omega)]
          exact a4 k hk
      · rw [up_eq]
        refine ((rwE_up (by decide)).tr (rwE_up (by decide))).sc ?_
        obtain ⟨⟨a1, a2⟩, a3, a4, a5, a6⟩ := hN.2
        refine ⟨⟨?_, ?_⟩, ?_, ?_, ?_, ?_⟩
        · rw [up_ne _ _ (by omega)]; exact a1
        · intro k hk
          rw [up_ne _ _ (by omega)] at hk
          rw [up_ne _ _ (by omega)]; exact a2 k hk
        · intro p' hp'; rw [up_ne _ _ (by omega)]; exact a3 p' hp'
        · intro p' q' h1 h2 h3; rw [up_ne _ _ (by omega), up_ne _ _ (by omega)]; exact a4 p' q' h1 h2 h3
        · intro p' h1 h2; rw [up_ne _ _ (by omega)]; exact a5 p' h1 h2
        · intro p' h1
          by_cases e : p' = p
          · subst e; rw [up_eq]; omega
          · rw [up_ne _ _ (by omega)]; exact a6 p' h1
      · refine (hV.2.2.2.2.2.2.now (I' := va_up I 20 (ntU (I 20))) ((rwE_up (k := 18) (by decide)).tr (rwE_up (k := 17) (by decide))) ?_ ?_ rfl rfl).fr2 hL ?_
        · rw [up_eq, up_ne _ _ (by omega)]
        · intro j; rw [up_eq, up_ne _ _ (by omega)]
        · intro b hb; rw [w1 b (by omega), q1 b (by omega)]
    · exact hno (by rw [c2]; simp)
end ZK8
