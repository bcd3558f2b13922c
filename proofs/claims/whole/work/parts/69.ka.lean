section ZKC
variable {G : zG} {M : zM} {k mc ms pc n : Nat} {lv : List (Option Value)} {st : List Value} {h : zF} {u : Nat × Nat} {Q : zQ}
theorem zEx.widen {u' : Nat × Nat} (h1 : u.1 ≤ u'.1) (h2 : u.2 ≤ u'.2) (K : zEx G M k mc ms pc lv st h n u' Q) : zEx G M k mc ms pc lv st h n u Q := by
  intro d p e R s m args below meth c Qz hk hC hF H locs ls hH hl hL
  exact W.widen h1 h2 (K d p e R s m args below meth c Qz hk hC hF H locs ls hH hl hL)
end ZKC
section ZKD
variable {G : zG} {n : Nat} {h0 h1 : zF} {L : zSh} {V : Nat → Nat → Nat} {c : Nat} {P J J' I : Nat → Nat} {X X' A : Nat → Nat → Nat}
theorem tr2 (hL : kL L c P) (hT : zTr h1 (P 0) J X) (V : Nat → Nat → Nat) : zTr (gH (tH h1 (P 1) J' X') L V) (P 0) J X := by
  have hn := hL.2.2.2.2.2.2.2.2.2.2.1
  have hP := hL.2.2.2.2.2.2.2.2.2.2.2.1
  have e : ∀ q, q < 14 → gH (tH h1 (P 1) J' X') L V (P 0 + q) = h1 (P 0 + q) := fun q hq => by
    rw [g_out (hn _ (by omega) (by omega)), tH_out (by omega)]
  exact ⟨(e 0 (by decide)).trans hT.1, (e 1 (by decide)).trans hT.2.1, fun q a b => (e q b).trans (hT.2.2 q a b)⟩
theorem trn (hL : kL L c P) : ∀ y, P 1 ≤ y → y < P 1 + 14 → L y = none := by
  have hn := hL.2.2.2.2.2.2.2.2.2.2.1
  have hP := hL.2.2.2.2.2.2.2.2.2.2.2.1
  exact fun y a b => hn y (by omega) (by omega)
theorem lt_ltr (h : kTx V c I A) : lt3 V (c + 1) (c + 2) = ltr I A ∧ ∀ j, ltr I A j < 128 := by
  refine ⟨?_, ?_⟩
  · funext j
    unfold lt3 ltr
    rw [h.1]
    by_cases q : j < I 0
    · rw [if_pos q, if_pos q]; exact (h.2.2.1 j q).1
    · rw [if_neg q, if_neg q]
  · intro j
    unfold ltr
    split
    · exact (h.2.2.1 j (by assumption)).2
    · decide
theorem T0m_z : T0m A 2 0 = 0 ∧ T0m A 7 0 = 0 ∧ T0m A 11 0 = 1 ∧ T0m A 12 0 = 40 ∧ ∀ k, k < 4 → T0m A 13 k = 0 ∧ T0m A 14 k = 10 ∧ T0m A 15 k = 0 := by
  refine ⟨rfl, rfl, rfl, rfl, fun k hk => ⟨?_, ?_, ?_⟩⟩
  · show noT (vw A 1) 0 4 13 k = 0
    unfold noT; simp [hk]
  · show noT (vw A 1) 0 4 14 k = 10
    unfold noT; simp [hk]
  · show (if k < 4 then 0 else A 15 k) = 0
    rw [if_pos hk]
def rdV (q : Option Nat) : Int32 := match q with
  | some f => nI f
  | none => -4
theorem kV.tx {V' : Nat → Nat → Nat} (hL : kL L c P) (hV : kV V c P J X I A) (a1 : ∀ y, y ≠ c + 1 → y ≠ c + 3 → V' y = V y) (a2 : V' (c + 1) 1 = V (c + 1) 1) (a3 : ∀ j, j < 4 → V' (c + 3) j < 1000) : kV V' c P J X I A := by
  have hP := hL.2.2.2.2.2.2.2.2.2.2.2.2.1
  obtain ⟨b1, b2, b3, b4, b5, b6, b7⟩ := hV
  refine ⟨⟨a2.trans b1.1, b1.2.1, ?_, a3⟩, b2, b3.fr (a1 _ (by omega) (by omega)) (a1 _ (by omega) (by omega)), b4.fr (fun b _ _ => a1 _ (by omega) (by omega)), b5.fr (fun b _ _ => a1 _ (by omega) (by omega)), b6.fr (fun b _ _ => a1 _ (by omega) (by omega)), b7.fr (a1 _ (by omega) (by omega)) (a1 _ (by omega) (by omega)) (a1 _ (by omega) (by omega))⟩
  rw [a1 (c + 2) (by omega) (by omega)]; exact b1.2.2.1
theorem k_fault (hL : kL L c P) (hV : kV V c P J X I A) (h6 : X' 6 0 = 0 ∧ X' 7 0 = 0) : zPi G MX7_fault 5 [.ref c] (gH (tH h1 (P 1) J' X') L V) n (fun v h' => v = rdV (rdT (ltr I A) (I 0) 201 0 (T0m A)).1 ∧ ∃ V' J2 X2, h' = gH (tH h1 (P 1) J2 X2) L V' ∧ kV V' c P J X I A ∧ (X2 6 0 = 0 ∧ X2 7 0 = 0)) := by
  refine zCt.of rfl (Nat.le_of_ble_eq_true rfl) rfl ?_
  have hX := hL.2.1
  have hx := lt_ltr hV.1
  have z := T0m_z (A := A)
  have cr := c_readInto (G := G) (n := n) (h0 := h1) (L := L) (V := V) (t := P 1) (J := J') (X := X') (T0 := T0m A) hX.1 hX.2.1 hX.2.2 (trn hL) (by rw [hV.1.1]; exact hV.1.2.1) (by rw [hx.1]; exact hx.2) hV.1.2.2.2 h6 (T0m_ok A) z.1 z.2.1 z.2.2.1 z.2.2.2.1 z.2.2.2.2
  rw [hx.1, hV.1.1] at cr
  refine x_aload_n dX7_fault_0 rfl ?_
  refine x_getf dX7_fault_1 flX7_12 (g_c (And.left hL)) rfl ?_
  refine x_aload_n dX7_fault_4 rfl ?_
  refine x_getf dX7_fault_5 flX7_23 (g_c (And.left hL)) rfl ?_
  refine x_cVI1 dX7_fault_8 lkX7_102 mdX3_readInto isX3_readInto rfl rfl (g_c hX.1) (by decide) (cr) (Nat.le_of_ble_eq_true rfl) ⟨Nat.le_refl _, Nat.le_refl _⟩ ?_
  rintro v h' ⟨V1, J2, X2, rfl, a1, a2, a3, a4, am⟩
  refine x_iret dX7_fault_11 rfl rfl ⟨Nat.le_refl _, Nat.le_refl _⟩ ?_
  refine ⟨_, rfl, ⟨?_, V1, J2, X2, rfl, kV.tx hL hV a1 (by rw [a2, hV.1.1]) a3, a4⟩, rfl⟩
  cases hq : (rdT (ltr I A) (I 0) 201 0 (T0m A)).1 with
  | none => rw [hq] at am; exact am.1
  | some f => rw [hq] at am; exact am
/-- what the constructor and the laying find -/
def kPre (V : Nat → Nat → Nat) (c : Nat) (I : Nat → Nat) (A : Nat → Nat → Nat) : Prop := kTx V c I A ∧ (∀ j, j < 8 → ∃ i, i < 8 ∧ V (c + 49) j = c + 50 + 4 * i) ∧ (∀ j j', j < 8 → j' < 8 → V (c + 49) j = V (c + 49) j' → j = j') ∧ ∀ j, j < 2 → V (c + 83) j = c + 84 + 4 * j
/-- what laying does to the reference -/
def layR (I : Nat → Nat) (A : Nat → Nat → Nat) (q : Option Nat × zT) (I' : Nat → Nat) (A' : Nat → Nat → Nat) : Prop := eqT (vw A' 0) q.2 ∧ I' 17 = (wl (vw A' 0)).length ∧ arrIs (A' 16) (wl (vw A' 0)) ∧ I' 20 = 0 ∧ I' 22 = 0 ∧ I' 0 = I 0 ∧ A' 1 = A 1 ∧ ∀ j, j < 21 → A' 17 j = if j < 4 then q.2 15 j else 0
def swP (P : Nat → Nat) : Nat → Nat := va_up (va_up P 0 (P 1)) 1 (P 0)
theorem kL_swap (hL : kL L c P) : kL (va_up L c (some (sK c (P 1) (P 0)))) c (swP P) := by
  have e : ∀ b, b ≠ c → (va_up L c (some (sK c (P 1) (P 0)))) b = L b := fun b hb => up_ne _ _ hb
  obtain ⟨l1, ⟨l2, l3, l4⟩, l5, l6, l7, l8, l9, ⟨u1, u2, u3⟩, ⟨v1, v2, v3⟩, l12, l13, l14, ⟨r1, r2, r3, r4, r5, r6⟩, ⟨s1, s2, s3⟩⟩ := hL
  refine ⟨up_eq _ _ _, ⟨(e _ (by omega)).trans l2, (e _ (by omega)).trans l3, (e _ (by omega)).trans l4⟩, ⟨(e _ (by omega)).trans l5.1, (e _ (by show P 2 ≠ c; omega)).trans l5.2⟩, ⟨(e _ (by omega)).trans l6.1, (e _ (by show P 3 ≠ c; omega)).trans l6.2⟩, ⟨(e _ (by omega)).trans l7.1, (e _ (by show P 4 ≠ c; omega)).trans l7.2⟩, l8.fr (fun b h1 h2 => e b (by omega)), l9.fr (fun b h1 h2 => e b (by omega)), ⟨(e _ (by omega)).trans u1, (e _ (by omega)).trans u2, fun i hi => (u3 i hi).fr (fun b h1 h2 => e b (by omega))⟩, ⟨(e _ (by omega)).trans v1, (e _ (by omega)).trans v2, fun i hi => (v3 i hi).fr (fun b h1 h2 => e b (by omega))⟩, (e _ (by omega)).trans l12, fun y h1 h2 => (e y (by omega)).trans (l13 y h1 h2), ?_, ⟨r1, r2, r3, r4, r5, r6⟩, ⟨s1, s2, s3⟩⟩
  show (P 1 = c + 4 ∧ P 0 = c + 18) ∨ (P 1 = c + 18 ∧ P 0 = c + 4)
  omega
def grS (h0 : zF) (L : zSh) (V : Nat → Nat → Nat) (c : Nat) (P : Nat → Nat) (n x k : Nat) (h' : zF) (n' : Nat) : Prop := ∃ L1 V1 P1, h' = gH h0 L1 V1 ∧ kL L1 c P1 ∧ kBd c n' P1 ∧ (n ≤ n' ∧ n' ≤ n + 1) ∧ x ≤ P1 (5 + k) ∧ (∀ j, j < 3 → P (5 + j) ≤ P1 (5 + j)) ∧ (P1 0 = P 0 ∧ P1 1 = P 1) ∧ (∀ b, (b < n ∨ n' ≤ b) → b ≠ c + 32 + 2 * k → L1 b = L b) ∧ ∀ b, b ≠ n → b ≠ c + 32 + 2 * k → V1 b = V b
theorem grow_step {k x n' : Nat} {h' : zF} (hL : kL L c P) (hb : kBd c n P) (hk : k < 3) (hx : x < 1000000) (hq : if P (5 + k) < x then h' = gH h0 (va_up (va_up L n (some (sA x))) (c + 32 + 2 * k) (some (sW n))) (va_up (va_up V n (fun _ => 0)) (c + 32 + 2 * k) (va_up (V (c + 32 + 2 * k)) 1 0)) ∧ n' = n + 1 else h' = gH h0 L V ∧ n' = n) : grS h0 L V c P n x k h' n' := by
  by_cases hc : P (5 + k) < x
  · rw [if_pos hc] at hq
    obtain ⟨rfl, rfl⟩ := hq
    obtain ⟨g1, g2⟩ := kL_grow (k := k) (x := x) hL hb hk hx
    refine ⟨_, _, grP P n x k, rfl, g1, g2, ⟨by omega, by omega⟩, ?_, ?_, ⟨?_, ?_⟩, ?_, ?_⟩
    · unfold grP; rw [up_eq]; exact Nat.le_refl _
    · intro j hj
      unfold grP
      by_cases e : j = k
      · subst e; rw [up_eq]; omega
      · rw [up_ne _ _ (by omega), up_ne _ _ (by omega)]; exact Nat.le_refl _
    · unfold grP; rw [up_ne _ _ (by omega), up_ne _ _ (by omega)]
    · unfold grP; rw [up_ne _ _ (by omega), up_ne _ _ (by omega)]
    · intro b h1 h2; rw [up_ne _ _ h2, up_ne _ _ (by omega)]
    · intro b h1 h2; rw [up_ne _ _ h2, up_ne _ _ h1]
  · rw [if_neg hc] at hq
    obtain ⟨rfl, rfl⟩ := hq
    exact ⟨L, V, P, rfl, hL, hb, ⟨by omega, by omega⟩, by omega, fun _ _ => Nat.le_refl _, ⟨rfl, rfl⟩, fun _ _ _ => rfl, fun _ _ _ => rfl⟩
/-- the class's state behind a laying -/
theorem kV_laid {P3 J2 : Nat → Nat} {X2 V8 : Nat → Nat → Nat} {T : zT} {q : Option Nat} {I' : Nat → Nat} {A' : Nat → Nat → Nat} {x : Nat} (hr : layR I A (q, T) I' A') (hOK : tOK T) (h70 : T 7 0 ≠ 0) (htr : truthT T = true) (hJ : tJ J2 X2 T) (tx : kTx V8 c I A) (hws : isWs V8 (c + 32) (P3 2) (wl T)) (hwx : (wl T).length ≤ x) (hl5 : x ≤ P3 5) (hl6 : x ≤ P3 6) (hl7 : x ≤ P3 7) (s0 : V8 (c + 44) 0 = J2 5) (s4 : V8 (c + 44) 4 = 0) (s1 : ∀ j, j < 4 → V8 (c + 44 + 1) j = 0) (u1 : V8 (c + 48) 1 = 0) (u2 : ∀ j, j < 8 → ∃ i, i < 8 ∧ V8 (c + 49) j = c + 50 + 4 * i) (u3 : ∀ j j', j < 8 → j' < 8 → V8 (c + 49) j = V8 (c + 49) j' → j = j') (v1 : V8 (c + 82) 1 = 0) (v2 : ∀ j, j < 2 → V8 (c + 83) j = c + 84 + 4 * j) (hst : V8 c 11 = 1) : kV V8 c P3 J2 X2 I' A' := by
  obtain ⟨r1, r2, r3, r4, r5, r6, r7, r8⟩ := hr
  have hR := tOK_tR hOK
  have r1 : eqT (vw A' 0) T := r1
  have e0 := eqT_sym r1
  have k2 := hR.1
  have k7 := hR.2.1
  have hI := tI_vw.mp (tI_eqT e0 k2 k7 hJ.1)
  have hRA := tR_vw.mp (tR_eqT e0 hR)
  have a2 : A' 2 0 = T 2 0 := by rw [← r1.1.1, vw0 (by decide) (by decide)]
  have a7 : A' 7 0 = T 7 0 := by rw [← r1.1.2.1, vw0 (by decide) (by decide)]
  have a10 : ∀ p, p < 4 → A' 10 p = T 10 p := fun p hp => by rw [← (r1.2.2 p hp).2.2.1, vw0 (by decide) (by decide)]
  have e15 := hJ.2.2
  have hlt : ∀ p, p < 4 → sI (J2 5) p < 2 ^ T 2 0 := fun p hp => by rw [e15 p hp]; exact hOK.2.2.2.2.2.2.2.1 p hp
  have hz : ∀ p, T 7 0 ≤ p → p < 4 → sI (J2 5) p = 0 := fun p h1 h2 => by rw [e15 p h2]; exact hOK.2.2.2.2.2.2.2.2 p h1 h2
  have hW : isW T (J2 5) = true := by rw [isW_truth e15 hJ.2.1 k7]; exact htr
  have hmem := isW_wl hR hJ.2.1 hlt hz hW
  have hWi : wIs T (J2 5) (T 7 0) = true := by unfold isW at hW; rw [Bool.and_eq_true] at hW; exact hW.1
  have hwl : wl (vw A' 0) = wl T := (wl_eqW (eqT_eqW e0 k2 k7)).symm
  have h17 : ∀ p, p < 4 → A' 17 p = sI (J2 5) p := fun p hp => by rw [r8 p (by omega), if_pos hp, e15 p hp]
  have hpos : 1 ≤ T 2 0 := by
    have h1 := wIs_pop _ hWi 0 (by omega)
    have h2 := (hR.2.2.2.1 0 (by omega)).2.2
    have h3 := pop_pos (s := sI (J2 5) 0) (by omega)
    have h4 := hlt 0 (by decide)
    rcases Nat.eq_zero_or_pos (T 2 0) with z | z
    · rw [z] at h4; omega
    · exact z
  refine ⟨tx.co r6 r7, ⟨hI, hRA, by omega, by omega⟩, ⟨?_, r2, r3, ?_, ?_, ?_, ?_⟩, ⟨⟨?_, ?_, ?_, ?_⟩, ⟨⟨?_, ?_⟩, ?_, ?_, ?_, ?_⟩⟩, ⟨?_, ?_, u2, u3, ?_⟩, ⟨?_, ?_, v2, ?_⟩, Or.inl hst⟩
  · rw [hwl]; exact hws
  · rw [r2, hwl]; exact List.length_pos_of_mem hmem
  · rw [hwl]; omega
  · rw [hwl]; omega
  · rw [hwl]; omega
  · rw [s0]; exact hJ.2.1
  · intro p hp
    rw [s0, h17 p hp, s1 p hp, r8 (4 + p) (by omega), if_neg (by omega)]
    exact ⟨rfl, rfl⟩
  · rw [s4, r8 8 (by decide), if_neg (by decide)]
  · intro k hk
    rw [r8 8 (by decide), if_neg (by decide)] at hk
    exact absurd hk (Nat.not_lt_zero _)
  · rw [r8 8 (by decide), if_neg (by decide)]; decide
  · intro k hk
    rw [r8 8 (by decide), if_neg (by decide)] at hk
    exact absurd hk (Nat.not_lt_zero _)
  · intro p hp
    rw [a7] at hp
    rw [h17 p (by omega), a2, a10 p (by omega)]
    exact ⟨hlt p (by omega), wIs_pop _ hWi p hp⟩
  · intro p q hp hq hn
    rw [a7] at hp hq
    rw [h17 p (by omega), h17 q (by omega)]
    exact wIs_dj _ hWi p q hp hq hn
  · intro p h1 h2
    rw [h17 p h2]; exact hz p (by omega) h2
  · intro p hp
    rw [r8 (4 + p) (by omega), if_neg (by omega)]; decide
  · rw [u1, r4]
  · rw [r4]; decide
  · intro u hu; rw [r4] at hu; exact absurd hu (Nat.not_lt_zero _)
  · rw [v1, r5]
  · rw [r5]; decide
  · intro u hu; rw [r5] at hu; exact absurd hu (Nat.not_lt_zero _)
end ZKD
