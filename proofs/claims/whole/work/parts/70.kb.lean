section ZKE
variable {G : zG} {n : Nat} {h1 : zF} {L : zSh} {V : Nat → Nat → Nat} {c : Nat} {P J J' I : Nat → Nat} {X X' A : Nat → Nat → Nat}
/-- behind a laying that came to nothing -/
def layN (h1 : zF) (L : zSh) (V : Nat → Nat → Nat) (c : Nat) (P : Nat → Nat) (h' : zF) : Prop := ∃ V' J2 X2, h' = gH (tH h1 (P 1) J2 X2) L V' ∧ (X2 6 0 = 0 ∧ X2 7 0 = 0) ∧ (∀ y, y ≠ c + 1 → y ≠ c + 3 → V' y = V y) ∧ V' (c + 1) 1 = V (c + 1) 1 ∧ ∀ j, j < 4 → V' (c + 3) j < 1000
/-- behind one that did -/
def layY (h1 : zF) (L : zSh) (c : Nat) (P J : Nat → Nat) (X : Nat → Nat → Nat) (I : Nat → Nat) (A : Nat → Nat → Nat) (q : Option Nat × zT) (n : Nat) (h' : zF) (n' : Nat) : Prop := ∃ L' V' P' J2 X2, h' = gH (tH (tH h1 (P 1) J2 X2) (P 0) J X) L' V' ∧ (P' 0 = P 1 ∧ P' 1 = P 0) ∧ kL L' c P' ∧ kBd c n' P' ∧ (n ≤ n' ∧ n' ≤ n + 3) ∧ (∀ b, (b < n ∨ n' ≤ b) → b ≠ c → b ≠ c + 32 → b ≠ c + 34 → b ≠ c + 36 → L' b = L b) ∧ V' (c + 32) 1 = (wl q.2).length ∧ (X2 6 0 = 0 ∧ X2 7 0 = 0) ∧ ∀ I' A', layR I A q I' A' → kV V' c P' J2 X2 I' A'
set_option maxRecDepth 100000 in
set_option maxHeartbeats 4000000 in
theorem k_layText (hL : kL L c P) (hb : kBd c n P) (hT0 : zTr h1 (P 0) J X) (h6' : X' 6 0 = 0 ∧ X' 7 0 = 0) (hp : kPre V c I A) : zCt G MX7_layText 9 3 15120 [.ref c] (gH (tH h1 (P 1) J' X') L V) n (fun r h' n' => (r = some (.int (nI 0)) ∧ n' = n ∧ ¬ layOK (rdT (ltr I A) (I 0) 201 0 (T0m A)) ∧ layN h1 L V c P h') ∨ (r = some (.int (nI 1)) ∧ layOK (rdT (ltr I A) (I 0) 201 0 (T0m A)) ∧ layY h1 L c P J X I A (rdT (ltr I A) (I 0) 201 0 (T0m A)) n h' n')) := by
  refine zCt.of rfl (Nat.le_of_ble_eq_true rfl) rfl ?_
  have hX := hL.2.1
  have hP := hL.2.2.2.2.2.2.2.2.2.2.2.1
  have hPr := hL.2.2.2.2.2.2.2.2.2.2.2.2.1
  have hbn := hb.1
  have hx := lt_ltr hp.1
  have z := T0m_z (A := A)
  have cr := c_readInto (G := G) (n := n) (h0 := h1) (L := L) (V := V) (t := P 1) (J := J') (X := X') (T0 := T0m A) hX.1 hX.2.1 hX.2.2 (trn hL) (by rw [hp.1.1]; exact hp.1.2.1) (by rw [hx.1]; exact hx.2) hp.1.2.2.2 h6' (T0m_ok A) z.1 z.2.1 z.2.2.1 z.2.2.2.1 z.2.2.2.2
  rw [hx.1, hp.1.1] at cr
  have hOK := rdT_ok (L := ltr I A) (len := I 0) 201 0 (T0m A) (T0m_ok A)
  have hrl : ∀ f, (rdT (ltr I A) (I 0) 201 0 (T0m A)).1 = some f → f < I 0 := fun f h => rdT_lt h
  have hi0 := hp.1.2.1
  generalize rdT (ltr I A) (I 0) 201 0 (T0m A) = RES at cr hOK hrl
  obtain ⟨R1, T⟩ := RES
  simp only at cr hOK hrl
  refine x_aload_n dX7_layText_0 rfl ?_
  refine x_getf dX7_layText_1 flX7_12 (g_c (And.left hL)) rfl ?_
  refine x_aload_n dX7_layText_4 rfl ?_
  refine x_getf dX7_layText_5 flX7_23 (g_c (And.left hL)) rfl ?_
  refine x_cVI1 dX7_layText_8 lkX7_102 mdX3_readInto isX3_readInto rfl rfl (g_c hX.1) (by decide) (cr) (Nat.le_of_ble_eq_true rfl) ⟨Nat.zero_le _, Nat.zero_le _⟩ ?_
  rintro v h' ⟨V1, J2, X2, rfl, a1, a2, a3, a4, am⟩
  have hN : layN h1 L V c P (gH (tH h1 (P 1) J2 X2) L V1) := ⟨V1, J2, X2, rfl, a4, a1, by rw [a2, hp.1.1], a3⟩
  have K43 : ¬ layOK (R1, T) → zEx G MX7_layText 9 3 15120 43 [some (.ref c), none, none] [] (gH (tH h1 (P 1) J2 X2) L V1) n (0, 0) (fun r h' n' => (r = some (.int (nI 0)) ∧ n' = n ∧ ¬ layOK (R1, T) ∧ layN h1 L V c P h') ∨ (r = some (.int (nI 1)) ∧ layOK (R1, T) ∧ layY h1 L c P J X I A (R1, T) n h' n')) := by
    intro hno
    refine x_iconst (v := nI 0) dX7_layText_43 (by decide) ?_
    refine x_iret dX7_layText_44 rfl (nar_b false) ⟨Nat.zero_le _, Nat.zero_le _⟩ ?_
    exact Or.inl ⟨rfl, rfl, hno, hN⟩
  cases R1 with
  | some f =>
    have am : v = nI f := am
    subst am
    have := hrl f rfl
    refine x_bipush (v := -4) dX7_layText_11 (by decide) ?_
    refine x_icmp_ne (tgt := 43) dX7_layText_13 (by decide) (fun c1 => ?_) (fun c1 => ?_)
    · exact K43 (fun q => by cases q.1)
    · exact absurd c1 (nI_ne_m4 (by omega))
  | none =>
    obtain ⟨am, hJ⟩ := (am : v = -4 ∧ tJ J2 X2 T)
    subst am
    have hR := tOK_tR hOK
    have k2 := hR.1
    have k7 := hR.2.1
    have e4 : J2 4 = T 7 0 := hJ.1.1.2.1
    have hTs : ∀ V, zTr (gH (tH h1 (P 1) J2 X2) L V) (P 1) J2 X2 := fun V => gH_tr (trn hL)
    have e15 := hJ.2.2
    have hlt : ∀ p, p < 4 → sI (J2 5) p < 2 ^ T 2 0 := fun p hp => by rw [e15 p hp]; exact hOK.2.2.2.2.2.2.2.1 p hp
    refine x_bipush (v := -4) dX7_layText_11 (by decide) ?_
    refine x_icmp_ne (tgt := 43) dX7_layText_13 (by decide) (fun c1 => ?_) (fun c1 => ?_)
    · exact absurd rfl c1
    · refine x_aload_n dX7_layText_16 rfl ?_
      refine x_getf dX7_layText_17 flX7_23 (g_c (And.left hL)) rfl ?_
      refine x_getf dX7_layText_20 flX7_287 (And.left (hTs _)) rfl ?_
      rw [e4]
      refine n_if_eq (tgt := 43) dX7_layText_23 (by decide) (by omega) (fun c2 => ?_) (fun c2 => ?_)
      · exact K43 (fun q => q.2.1 c2)
      · refine x_aload_n dX7_layText_26 rfl ?_
        refine x_getf dX7_layText_27 flX7_23 (g_c (And.left hL)) rfl ?_
        refine x_aload_n dX7_layText_30 rfl ?_
        refine x_getf dX7_layText_31 flX7_23 (g_c (And.left hL)) rfl ?_
        refine x_getf dX7_layText_34 flX7_290 (And.left (hTs _)) rfl ?_
        refine x_cVi1 dX7_layText_37 lkX7_192 mdX5_isWorld isX5_isWorld rfl rfl (And.left (hTs _)) (by decide) (c_isWorld (hTs _) hJ.1 hR (fun p hp => hlt p (by omega))) (Nat.le_of_ble_eq_true rfl) ⟨Nat.zero_le _, Nat.zero_le _⟩ ?_
        rw [isW_truth e15 hJ.2.1 k7]
        refine b_if_ne (tgt := 45) dX7_layText_40 (by decide) (fun c3 => ?_) (fun c3 => ?_)
        · have hyes : layOK (none, T) := ⟨rfl, c2, c3⟩
          have hW : isW T (J2 5) = true := by rw [isW_truth e15 hJ.2.1 k7]; exact c3
          have hWi : wIs T (J2 5) (T 7 0) = true := by unfold isW at hW; rw [Bool.and_eq_true] at hW; exact hW.1
          refine x_aload_n dX7_layText_45 rfl ?_
          refine x_getf dX7_layText_46 flX7_19 (g_c (And.left hL)) rfl ?_
          refine x_as1 dX7_layText_49 (by decide) rfl ?_
          refine x_aload_n dX7_layText_50 rfl ?_
          refine x_aload_n dX7_layText_51 rfl ?_
          refine x_getf dX7_layText_52 flX7_23 (g_c (And.left hL)) rfl ?_
          refine x_putf dX7_layText_55 flX7_19 ftX7_1 (g_c hL.1) rfl rfl (Nat.le_of_ble_eq_true rfl) ?_
          refine x_eqH (h' := gH (tH h1 (P 1) J2 X2) (va_up L c (some (sK c (P 1) (P 1)))) V1) ?_ ?_
          · have := g_new (h0 := tH h1 (P 1) J2 X2) (L := L) (V := V1) (b := c) (sK c (P 1) (P 1)) (V1 c)
            rw [up_self] at this
            exact this
          refine x_aload_n dX7_layText_58 rfl ?_
          refine x_aload_n dX7_layText_59 rfl ?_
          refine x_putf dX7_layText_60 flX7_23 ftX7_2 (g_c (up_eq _ _ _)) rfl rfl (Nat.le_of_ble_eq_true rfl) ?_
          refine x_eqH (h' := gH (tH h1 (P 1) J2 X2) (va_up L c (some (sK c (P 1) (P 0)))) V1) ?_ ?_
          · have := g_new (h0 := tH h1 (P 1) J2 X2) (L := va_up L c (some (sK c (P 1) (P 1)))) (V := V1) (b := c) (sK c (P 1) (P 0)) (V1 c)
            rw [up_self, up_up] at this
            exact this
          have hL1 := kL_swap hL
          have hb1 : kBd c n (swP P) := hb
          have eL1 : ∀ b, b ≠ c → (va_up L c (some (sK c (P 1) (P 0)))) b = L b := fun b hb => up_ne _ _ hb
          have q0 : swP P 0 = P 1 := rfl
          have q1 : swP P 1 = P 0 := rfl
          generalize hLe : va_up L c (some (sK c (P 1) (P 0))) = L1 at hL1 eL1
          generalize swP P = P1 at hL1 hb1 q0 q1
          have nT : ∀ (L9 : zSh) (P9 : Nat → Nat), kL L9 c P9 → ∀ y, P 1 ≤ y → y < P 1 + 14 → L9 y = none := by
            intro L9 P9 h9 y a b
            exact h9.2.2.2.2.2.2.2.2.2.2.1 y (by omega) (by omega)
          have hTn : ∀ (L9 : zSh) (P9 : Nat → Nat), kL L9 c P9 → ∀ V, zTr (gH (tH h1 (P 1) J2 X2) L9 V) (P 1) J2 X2 := fun L9 P9 h9 V => gH_tr (nT L9 P9 h9)
          have eK : L1 c = some (sK c (P 1) (P 0)) := by rw [← hLe]; exact up_eq _ _ _
          have hx5 := mw_5040 hR
          have hxw := wl_mw hR
          have cm := c_mostWorlds (G := G) (n := n) (hTn L1 P1 hL1 V1) hJ.1 hR (szs_T2 k2 k7 hlt hWi)
          generalize hxe : mw T (T 7 0) = x at hx5 hxw cm
          refine x_aload_n dX7_layText_63 rfl ?_
          refine x_getf dX7_layText_64 flX7_19 (g_c eK) rfl ?_
          refine x_cVi0 dX7_layText_67 lkX7_293 mdX5_mostWorlds isX5_mostWorlds rfl rfl (And.left (hTn _ _ hL1 _)) (by decide) (cm) (Nat.le_of_ble_eq_true rfl) ⟨Nat.zero_le _, Nat.zero_le _⟩ ?_
          refine x_is2 dX7_layText_70 (by decide) rfl ?_
          refine x_aload_n dX7_layText_71 rfl ?_
          refine x_getf dX7_layText_72 flX7_29 (g_c eK) rfl ?_
          refine x_iload_n dX7_layText_75 rfl ?_
          -- the rows of all
          refine x_callV (M' := MX6_makeRoom) (mc' := 1) (ms' := x) (As := [.int (nI x)]) (rest := []) dX7_layText_76 lkX7_296 mdX6_makeRoom isX6_makeRoom rfl rfl (g_c hL1.2.2.1.1) (by decide) (c_makeRoom (len := P1 5) hL1.2.2.1.1 hL1.2.2.1.2 (by have := hL1.2.2.2.2.2.2.2.2.2.2.2.2.2; omega) (by omega) (by omega)) rfl (Nat.le_of_ble_eq_true rfl) rfl ⟨by show 0 + 1 ≤ 3; decide, by show 0 + x ≤ 15120; omega⟩ ?_
          rintro r h' n1 ⟨rfl, hq⟩
          obtain ⟨L2, V2, P2, rfl, hL2, hb2, n2, x2, m2, ⟨p20, p21⟩, eL2, eV2⟩ := grow_step (k := 0) hL1 hb1 (by decide) (by omega) hq
          have eK2 : L2 c = some (sK c (P 1) (P 0)) := by rw [eL2 c (by omega) (by omega)]; exact eK
          clear hq
          show zEx G MX7_layText 9 3 15120 79 _ [] _ n1 (0 + 1, 0 + x) _
          refine x_aload_n dX7_layText_79 rfl ?_
          refine x_getf dX7_layText_80 flX7_33 (g_c eK2) rfl ?_
          refine x_iload_n dX7_layText_83 rfl ?_
          refine x_callV (M' := MX6_makeRoom) (mc' := 1) (ms' := x) (As := [.int (nI x)]) (rest := []) dX7_layText_84 lkX7_296 mdX6_makeRoom isX6_makeRoom rfl rfl (g_c hL2.2.2.2.1.1) (by decide) (c_makeRoom (len := P2 6) hL2.2.2.2.1.1 hL2.2.2.2.1.2 (by have := hL2.2.2.2.2.2.2.2.2.2.2.2.2.2; omega) (by omega) (by have := hb2.1; omega)) rfl (Nat.le_of_ble_eq_true rfl) rfl ⟨by show 0 + 1 + 1 ≤ 3; decide, by show 0 + x + x ≤ 15120; omega⟩ ?_
          rintro r h' n3 ⟨rfl, hq⟩
          obtain ⟨L3, V3, P3, rfl, hL3, hb3, n4, x3, m3, ⟨p30, p31⟩, eL3, eV3⟩ := grow_step (k := 1) hL2 hb2 (by decide) (by omega) hq
          have eK3 : L3 c = some (sK c (P 1) (P 0)) := by rw [eL3 c (by omega) (by omega)]; exact eK2
          clear hq
          show zEx G MX7_layText 9 3 15120 87 _ [] _ n3 (0 + 1 + 1, 0 + x + x) _
          refine x_aload_n dX7_layText_87 rfl ?_
          refine x_getf dX7_layText_88 flX7_36 (g_c eK3) rfl ?_
          refine x_iload_n dX7_layText_91 rfl ?_
          refine x_callV (M' := MX6_makeRoom) (mc' := 1) (ms' := x) (As := [.int (nI x)]) (rest := []) dX7_layText_92 lkX7_296 mdX6_makeRoom isX6_makeRoom rfl rfl (g_c hL3.2.2.2.2.1.1) (by decide) (c_makeRoom (len := P3 7) hL3.2.2.2.2.1.1 hL3.2.2.2.2.1.2 (by have := hL3.2.2.2.2.2.2.2.2.2.2.2.2.2; omega) (by omega) (by have := hb3.1; omega)) rfl (Nat.le_of_ble_eq_true rfl) rfl ⟨by show 0 + 1 + 1 + 1 ≤ 3; decide, by show 0 + x + x + x ≤ 15120; omega⟩ ?_
          rintro r h' n5 ⟨rfl, hq⟩
          obtain ⟨L4, V4, P4, rfl, hL4, hb4, n6, x4, m4, ⟨p40, p41⟩, eL4, eV4⟩ := grow_step (k := 2) hL3 hb3 (by decide) (by omega) hq
          have eK4 : L4 c = some (sK c (P 1) (P 0)) := by rw [eL4 c (by omega) (by omega)]; exact eK3
          clear hq
          show zEx G MX7_layText 9 3 15120 95 _ [] _ n5 (0 + 1 + 1 + 1, 0 + x + x + x) _
          refine zEx.widen (u' := (3, 15120)) (by show 0 + 1 + 1 + 1 ≤ 3; decide) (by show 0 + x + x + x ≤ 15120; omega) ?_
          have l5 : x ≤ P4 5 := Nat.le_trans x2 (Nat.le_trans (m3 0 (by decide)) (m4 0 (by decide)))
          have l6 : x ≤ P4 6 := Nat.le_trans x3 (m4 1 (by decide))
          have l7 : x ≤ P4 7 := x4
          have hb45 := hL4.2.2.2.2.2.2.2.2.2.2.2.2.2
          have hTn4 := hTn L4 P4 hL4
          have hS4 : zSc L4 (c + 44) := hL4.2.2.2.2.2.2.1
          have hz4 := hL4.2.2.2.2.2.2.2.1
          have hk4 := hL4.2.2.2.2.2.2.2.2.1
          have hP4 := hL4.2.2.2.2.2.2.2.2.2.2.2.2.1
          refine x_aload_n dX7_layText_95 rfl ?_
          refine x_getf dX7_layText_96 flX7_19 (g_c eK4) rfl ?_
          refine x_aload_n dX7_layText_99 rfl ?_
          refine x_getf dX7_layText_100 flX7_29 (g_c eK4) rfl ?_
          refine x_cVV1 dX7_layText_103 lkX7_299 mdX5_listWorlds isX5_listWorlds rfl rfl (And.left (hTn4 _)) (by decide) (c_listWorlds hL4.2.2.1.1 hL4.2.2.1.2 (by omega) hTn4 hJ.1 hR (by rw [hxe]; exact l5)) (Nat.le_of_ble_eq_true rfl) ⟨Nat.le_refl _, Nat.le_refl _⟩ ?_
          rintro h' ⟨V5, rfl, w1, w2⟩
          refine x_aload_n dX7_layText_106 rfl ?_
          refine x_getf dX7_layText_107 flX7_49 (g_c eK4) rfl ?_
          refine x_aload_n dX7_layText_110 rfl ?_
          refine x_getf dX7_layText_111 flX7_19 (g_c eK4) rfl ?_
          refine x_getf dX7_layText_114 flX7_290 (And.left (hTn4 _)) rfl ?_
          refine x_cVV1 dX7_layText_117 lkX7_303 mdX1_begin isX1_begin rfl rfl (g_c hS4.1) (by decide) (c_scBegin hS4) (Nat.le_of_ble_eq_true rfl) ⟨Nat.le_refl _, Nat.le_refl _⟩ ?_
          rintro h' ⟨V6, rfl, s1, s2, s3, s4⟩
          refine x_aload_n dX7_layText_120 rfl ?_
          refine x_getf dX7_layText_121 flX7_58 (g_c eK4) rfl ?_
          refine x_cVV0 dX7_layText_124 lkX7_286 mdX2_clear isX2_clear rfl rfl (g_c hz4.1) (by decide) (c_ssClear hz4.1) (Nat.le_of_ble_eq_true rfl) ⟨Nat.le_refl _, Nat.le_refl _⟩ ?_
          rintro h' rfl
          generalize hV7 : va_up V6 (c + 48) (va_up (V6 (c + 48)) 1 0) = V7
          have t1 : ∀ b, b ≠ c + 48 → V7 b = V6 b := fun b hb => by rw [← hV7]; exact up_ne _ _ hb
          have t2 : V7 (c + 48) 1 = 0 := by rw [← hV7, up_eq, up_eq]
          refine x_aload_n dX7_layText_127 rfl ?_
          refine x_getf dX7_layText_128 flX7_62 (g_c eK4) rfl ?_
          refine x_cVV0 dX7_layText_131 lkX7_286 mdX2_clear isX2_clear rfl rfl (g_c hk4.1) (by decide) (c_ssClear hk4.1) (Nat.le_of_ble_eq_true rfl) ⟨Nat.le_refl _, Nat.le_refl _⟩ ?_
          rintro h' rfl
          generalize hV8 : va_up V7 (c + 82) (va_up (V7 (c + 82)) 1 0) = V8
          have t3 : ∀ b, b ≠ c + 82 → V8 b = V7 b := fun b hb => by rw [← hV8]; exact up_ne _ _ hb
          have t4 : V8 (c + 82) 1 = 0 := by rw [← hV8, up_eq, up_eq]
          refine x_aload_n dX7_layText_134 rfl ?_
          refine x_iconst (v := nI 1) dX7_layText_135 (by decide) ?_
          refine g_putZ (b := true) dX7_layText_136 flX7_69 ftX7_11 eK4 (Nat.le_of_ble_eq_true rfl) rfl ?_
          generalize hV9 : va_up V8 c (va_up (V8 c) 11 true.toNat) = V9
          have t5 : ∀ b, b ≠ c → V9 b = V8 b := fun b hb => by rw [← hV9]; exact up_ne _ _ hb
          have t6 : V9 c 11 = 1 := by rw [← hV9, up_eq, up_eq]; rfl
          refine x_iconst (v := nI 1) dX7_layText_139 (by decide) ?_
          refine x_iret dX7_layText_140 rfl (nar_b true) ⟨Nat.le_refl _, Nat.le_refl _⟩ ?_
          have eA : ∀ b, b ≠ c → b ≠ c + 48 → b ≠ c + 82 → b ≠ c + 44 → b ≠ c + 44 + 1 → V9 b = V5 b := fun b g1 g2 g3 g4 g5 => by rw [t5 b g1, t3 b g3, t1 b g2, s1 b g4 g5]
          have eB : ∀ b, b < n → b ≠ c + 32 → b ≠ c + 34 → b ≠ c + 36 → b ≠ P4 2 → V5 b = V1 b := fun b g1 g2 g3 g4 g5 => by
            rw [w2 b g2 g5, eV4 b (by omega) (by omega), eV3 b (by omega) (by omega), eV2 b (by omega) (by omega)]
          have eC : ∀ b, b < c + 93 → b ≠ c → b ≠ c + 48 → b ≠ c + 82 → b ≠ c + 44 → b ≠ c + 44 + 1 → b ≠ c + 32 → b ≠ c + 33 → b ≠ c + 34 → b ≠ c + 36 → V9 b = V1 b := fun b g0 g1 g2 g3 g4 g5 g6 g7 g8 g9 => by
            rw [eA b g1 g2 g3 g4 g5, eB b (by omega) g6 g8 g9 (by omega)]
          refine Or.inr ⟨rfl, hyes, L4, V9, P4, J2, X2, ?_, ⟨p40.trans (p30.trans (p20.trans q0)), p41.trans (p31.trans (p21.trans q1))⟩, hL4, hb4, ⟨by omega, by omega⟩, ?_, ?_, a4, ?_⟩
          · have hh : zTr (tH h1 (P 1) J2 X2) (P 0) J X := by
              have e : ∀ q, q < 14 → tH h1 (P 1) J2 X2 (P 0 + q) = h1 (P 0 + q) := fun q hq => tH_out (by omega)
              exact ⟨(e 0 (by decide)).trans hT0.1, (e 1 (by decide)).trans hT0.2.1, fun q a b => (e q b).trans (hT0.2.2 q a b)⟩
            rw [tH_self hh]
          · intro b g1 g2 g3 g4 g5
            rw [eL4 b (by omega) (by omega), eL3 b (by omega) (by omega), eL2 b (by omega) (by omega), eL1 b g2]
          · rw [eA _ (by omega) (by omega) (by omega) (by omega) (by omega)]; exact w1.1
          · intro I' A' hr
            refine kV_laid (x := x) hr hOK c2 c3 hJ ⟨?_, hp.1.2.1, ?_, ?_⟩ ⟨?_, ?_⟩ hxw l5 l6 l7 ?_ ?_ ?_ ?_ ?_ ?_ ?_ ?_ t6
            · rw [eC _ (by omega) (by omega) (by omega) (by omega) (by omega) (by omega) (by omega) (by omega) (by omega) (by omega)]; exact a2
            · rw [eC (c + 2) (by omega) (by omega) (by omega) (by omega) (by omega) (by omega) (by omega) (by omega) (by omega) (by omega), a1 (c + 2) (by omega) (by omega)]; exact hp.1.2.2.1
            · rw [eC (c + 3) (by omega) (by omega) (by omega) (by omega) (by omega) (by omega) (by omega) (by omega) (by omega) (by omega)]; exact a3
            · rw [eA _ (by omega) (by omega) (by omega) (by omega) (by omega)]; exact w1.1
            · rw [eA _ (by omega) (by omega) (by omega) (by omega) (by omega)]; exact w1.2
            · rw [t5 _ (by omega), t3 _ (by omega), t1 _ (by omega), s2]
            · rw [t5 _ (by omega), t3 _ (by omega), t1 _ (by omega), s3]
            · rw [t5 _ (by omega), t3 _ (by omega), t1 _ (by omega)]; exact s4
            · rw [t5 _ (by omega), t3 _ (by omega), t2]
            · rw [eC (c + 49) (by omega) (by omega) (by omega) (by omega) (by omega) (by omega) (by omega) (by omega) (by omega) (by omega), a1 (c + 49) (by omega) (by omega)]; exact hp.2.1
            · rw [eC (c + 49) (by omega) (by omega) (by omega) (by omega) (by omega) (by omega) (by omega) (by omega) (by omega) (by omega), a1 (c + 49) (by omega) (by omega)]; exact hp.2.2.1
            · rw [t5 _ (by omega), t4]
            · rw [eC (c + 83) (by omega) (by omega) (by omega) (by omega) (by omega) (by omega) (by omega) (by omega) (by omega) (by omega), a1 (c + 83) (by omega) (by omega)]; exact hp.2.2.2
        · exact K43 (fun q => by rw [q.2.2] at c3; cases c3)
theorem k_lay (hL : kL L c P) (hb : kBd c n P) (hT0 : zTr h1 (P 0) J X) (h6' : X' 6 0 = 0 ∧ X' 7 0 = 0) (hp : kPre V c I A) : zCt G MX7_lay 10 3 15120 [.ref c] (gH (tH h1 (P 1) J' X') L V) n (fun r h' n' => (r = some (.int (-2)) ∧ n' = n ∧ ¬ layOK (rdT (ltr I A) (I 0) 201 0 (T0m A)) ∧ layN h1 L V c P h') ∨ (r = some (.int (nI (wl (rdT (ltr I A) (I 0) 201 0 (T0m A)).2).length)) ∧ layOK (rdT (ltr I A) (I 0) 201 0 (T0m A)) ∧ layY h1 L c P J X I A (rdT (ltr I A) (I 0) 201 0 (T0m A)) n h' n')) := by
  refine zCt.of rfl (Nat.le_of_ble_eq_true rfl) rfl ?_
  refine x_aload_n dX7_lay_0 rfl ?_
  refine x_callV (M' := MX7_layText) (mc' := 3) (ms' := 15120) (As := []) (rest := []) dX7_lay_1 lkX7_93 mdX7_layText isX7_layText rfl rfl (g_c hL.1) (by decide) (k_layText hL hb hT0 h6' hp) rfl (Nat.le_of_ble_eq_true rfl) rfl ⟨Nat.le_refl _, Nat.le_refl _⟩ ?_
  rintro r h' n' (⟨rfl, rfl, hno, hN⟩ | ⟨rfl, hyes, hY⟩)
  · show zEx G MX7_lay 10 3 15120 4 _ [.int (nI 0)] _ _ (0 + 3, 0 + 15120) _
    refine b_if_eq (b := false) (tgt := 17) dX7_lay_4 (by decide) (fun _ => ?_) (fun z => by cases z)
    refine x_bipush (v := -2) dX7_lay_17 (by decide) ?_
    refine x_iret dX7_lay_19 rfl rfl ⟨Nat.le_refl _, Nat.le_refl _⟩ ?_
    exact Or.inl ⟨rfl, rfl, hno, hN⟩
  · show zEx G MX7_lay 10 3 15120 4 _ [.int (nI 1)] _ _ (0 + 3, 0 + 15120) _
    refine b_if_eq (b := true) (tgt := 17) dX7_lay_4 (by decide) (fun z => by cases z) (fun _ => ?_)
    obtain ⟨L', V', P', J2, X2, rfl, q1, q2, q3, q4, q5, q6, q7⟩ := hY
    refine x_aload_n dX7_lay_7 rfl ?_
    refine x_getf dX7_lay_8 flX7_29 (g_c (And.left q2)) rfl ?_
    refine x_getf dX7_lay_11 flX7_106 (g_c q2.2.2.1.1) rfl ?_
    rw [q6]
    refine x_goto (tgt := 19) dX7_lay_14 (by decide) ?_
    refine x_iret dX7_lay_19 rfl rfl ⟨Nat.le_refl _, Nat.le_refl _⟩ ?_
    exact Or.inr ⟨rfl, hyes, L', V', P', J2, X2, rfl, q1, q2, q3, q4, q5, q6, q7⟩
end ZKE
