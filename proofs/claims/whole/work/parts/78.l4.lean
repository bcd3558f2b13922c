theorem adP_20 {A : Nat → Nat → Nat} {b x o z j : Nat} : adP A b x o z 20 j = A 20 j := by
  unfold adP
  rw [if_neg (by decide), if_neg (show ¬ (20 = 8) by decide), if_neg (show ¬ (20 = 9) by decide), if_neg (show ¬ (20 = 10) by decide)]
  by_cases e : j = 4 * b + A 7 b
  · rw [if_pos e]
  · rw [if_neg e]
theorem adT_20 {A : Nat → Nat → Nat} {b w k v c j : Nat} : adT A b w k v c 20 j = A 20 j := by
  unfold adT
  rw [if_neg (by decide), if_neg (show ¬ (20 = 3) by decide), if_neg (show ¬ (20 = 4) by decide), if_neg (show ¬ (20 = 5) by decide), if_neg (show ¬ (20 = 6) by decide)]
  by_cases e : j = 8 * b + A 2 b
  · rw [if_pos e]
  · rw [if_neg e]
theorem a20_ok (j : Nat) : A0m 20 j < 1000 := by
  unfold A0m
  show adP (adP (adT (adT (adT (adT (noT (fun _ _ => 0) 0 4) 0 5 0 3 4) 0 9 1 3 2) 0 5 2 4 1) 0 7 3 2 3) 0 1 0 1) 0 2 1 2 20 j < 1000
  rw [adP_20, adP_20, adT_20, adT_20, adT_20, adT_20]
  exact Nat.lt_of_le_of_lt (Nat.le_of_eq (show noT (fun _ _ => 0) 0 4 20 j = 0 from rfl)) (by decide)
section ZL5
variable {G : zG} {h2 h : zF} {a c n i mc ms : Nat} {I B P J J' : Nat → Nat} {A X X' V : Nat → Nat → Nat} {L : zSh} {u : Nat × Nat} {Q : zQ} {lv : List (Option Value)} {st : List Value}
theorem lb7 {x : Int32} (K : zEx G ML_law 20 mc ms 603 lv (.int (nI (decide (x ≠ 0)).toNat) :: st) h n u Q) : zEx G ML_law 20 mc ms 595 lv (.int x :: st) h n u Q := by
  refine x_if_eq (tgt := 602) dL_law_595 (by decide) (fun e => ?_) (fun e => ?_)
  · refine x_iconst (v := nI 0) dL_law_602 (by decide) ?_
    have q : decide (x ≠ 0) = false := decide_eq_false (fun z => z e)
    rw [q] at K; exact K
  · refine x_iconst (v := nI 1) dL_law_598 (by decide) ?_
    refine x_goto (tgt := 603) dL_law_599 (by decide) ?_
    have q : decide (x ≠ 0) = true := decide_eq_true e
    rw [q] at K; exact K
theorem lb8 {x : Int32} (K : zEx G ML_law 20 mc ms 625 lv (.int (nI (decide (x ≠ 0)).toNat) :: st) h n u Q) : zEx G ML_law 20 mc ms 617 lv (.int x :: st) h n u Q := by
  refine x_if_eq (tgt := 624) dL_law_617 (by decide) (fun e => ?_) (fun e => ?_)
  · refine x_iconst (v := nI 0) dL_law_624 (by decide) ?_
    have q : decide (x ≠ 0) = false := decide_eq_false (fun z => z e)
    rw [q] at K; exact K
  · refine x_iconst (v := nI 1) dL_law_620 (by decide) ?_
    refine x_goto (tgt := 625) dL_law_621 (by decide) ?_
    have q : decide (x ≠ 0) = true := decide_eq_true e
    rw [q] at K; exact K
theorem l_sure (hI : lI h2 a c n I A P J X X' L V) (hi : i + 4 ≤ G.2.2.2.1.2.1) (hG : G.2.2.2.1.2.1 ≤ 256) (hu : u.1 + 3 ≤ 600000 ∧ u.2 + 15120 ≤ 7302250) (K : lGo G a c i u Q) : zEx G ML_law 20 600000 7302250 584 (lV G c a i) [] (hp h2 a I A B (P 1) J' X' L V) n u Q := by
  have hL := hI.2.1
  have hV := hI.2.2.2.1
  have hT := hI.tr (B := B) (J' := J')
  have f := hV.ft
  have p4 := f.p4
  have hn := hI.2.2.2.2.2.2.1
  have hb := hI.bd
  have h20 := hI.2.2.2.2.2.2.2.2
  refine x_aload_n dL_law_584 rfl ?_
  refine x_aload_n dL_law_585 rfl ?_
  refine x_iload_n dL_law_586 rfl ?_
  refine x_iconst (v := nI 1) dL_law_587 (by decide) ?_
  refine n_iadd dL_law_588 ?_
  refine l_sld dL_law_589 (by omega) hG ?_
  refine x_aload_n dL_law_590 rfl ?_
  refine x_iload_n dL_law_591 rfl ?_
  refine x_iconst (v := nI 2) dL_law_592 (by decide) ?_
  refine n_iadd dL_law_593 ?_
  refine l_sld dL_law_594 (by omega) hG ?_
  refine lb7 ?_
  refine x_cVI2 dL_law_603 lkL_78 mdX7_sure isX7_sure rfl rfl (g_c hL.1) (by decide) (k_sure hL hT hV) (Nat.le_of_ble_eq_true rfl) ⟨by omega, by omega⟩ ?_
  rintro v h' ⟨rfl, V1, rfl, kv1⟩
  refine x_aload_n dL_law_606 rfl ?_
  refine x_aload_n dL_law_607 rfl ?_
  refine x_iload_n dL_law_608 rfl ?_
  refine x_iconst (v := nI 1) dL_law_609 (by decide) ?_
  refine n_iadd dL_law_610 ?_
  refine l_sld dL_law_611 (by omega) hG ?_
  refine x_aload_n dL_law_612 rfl ?_
  refine x_iload_n dL_law_613 rfl ?_
  refine x_iconst (v := nI 2) dL_law_614 (by decide) ?_
  refine n_iadd dL_law_615 ?_
  refine l_sld dL_law_616 (by omega) hG ?_
  refine lb8 ?_
  refine x_eqH (hp_m (V := V1) hn hb.2) ?_
  refine x_cVI2 dL_law_625 lkL_82 mdX8_sure isX8_sure rfl rfl mH_a (by decide) (c_sureM f.tr f.p1 f.sk f.w5) (Nat.le_of_ble_eq_true rfl) ⟨by omega, by omega⟩ ?_
  rintro w h'' ⟨rfl, ⟨f1, rfl⟩⟩
  have kv2 := kv1.co (I' := I) (A' := (va_up A 22 f1)) (fun k z1 z2 => by rw [up_ne _ _ (by omega)]) rfl rfl rfl rfl rfl rfl rfl rfl rfl
  refine x_eqH (hp_m (V := V1) hn hb.2).symm ?_
  refine x_icmp_eq (tgt := 957) dL_law_628 (by decide) (fun _ => ?_) (fun q => absurd rfl q)
  exact K.go (hI.ch kv2 h20)
theorem tm_sw (ht : P 1 + 14 ≤ a) : tH (mH h2 a I A B) (P 1) J X = mH (tH h2 (P 1) J X) a I A B := by
  funext b
  by_cases e : a ≤ b ∧ b < a + 27
  · rw [tH_out (by omega)]
    unfold mH
    rw [if_pos e, if_pos e]
  · have q : ∀ h : zF, mH h a I A B b = h b := fun h => mH_out (by omega)
    rw [q]
    unfold tH
    rw [q]
theorem l_lay (hI : lI h2 a c n I A P J X X' L V) (hi : i + 4 ≤ G.2.2.2.1.2.1) (hG : G.2.2.2.1.2.1 ≤ 256) (hu : u.1 + 3 ≤ 600000 ∧ u.2 + 15120 ≤ 7302250) (K : lGo G a c i u Q) : zEx G ML_law 20 600000 7302250 217 (lV G c a i) [] (hp h2 a I A B (P 1) J' X' L V) n u Q := by
  have hL := hI.2.1
  have hV := hI.2.2.2.1
  have hT := hI.tr (B := B) (J' := J')
  have f := hV.ft
  have p4 := f.p4
  have hn := hI.2.2.2.2.2.2.1
  have hb := hI.bd
  have h20 := hI.2.2.2.2.2.2.2.2
  have hp0 : kPre V c I A := ⟨hV.1, hV.2.2.2.2.1.2.2.1, hV.2.2.2.2.1.2.2.2.1, hV.2.2.2.2.2.1.2.2.1⟩
  have hbd := hI.2.2.1
  have hac := hI.2.2.2.2.2.2.2.1
  refine x_aload_n dL_law_217 rfl ?_
  refine x_callV (M' := MX7_lay) (mc' := 3) (ms' := 15120) (As := []) (rest := []) dL_law_218 lkL_27 mdX7_lay isX7_lay rfl rfl (g_c hL.1) (by decide) (k_lay (I := I) (A := A) (J := J) (X := X) hL hbd (tr_m hI.1 hb.1) hI.2.2.2.2.2.1 hp0) rfl (Nat.le_of_ble_eq_true rfl) rfl hu ?_
  rintro r h' n' (⟨rfl, rfl, nok, V1, J2, X2, rfl, x6, e1, e2, e3⟩ | ⟨rfl, ok, L1, V1, P1, J2, X2, rfl, pp, hL1, hb1, hn1, hfr, hw, x6, hkv⟩)
  · show zEx G ML_law 20 600000 7302250 221 _ [.int (-2)] _ _ (u.1 + 3, u.2 + 15120) _
    have kv1 := kV.tx hL hV e1 e2 e3
    refine x_aload_n dL_law_221 rfl ?_
    refine x_eqH (hp_m (V := V1) hn hb.2) ?_
    refine x_cVI0 dL_law_222 lkL_30 mdX8_lay isX8_lay rfl rfl mH_a (by decide) (c_layM f.l2 f.l1 h20) (Nat.le_of_ble_eq_true rfl) hu ?_
    rintro w h'' ⟨I1, A1, rfl, h21, (⟨z, _⟩ | ⟨_, rfl, kk, s1, rfl⟩)⟩
    · exact absurd z nok
    · refine x_eqH (hp_m (V := V1) hn hb.2).symm ?_
      refine x_icmp_eq (tgt := 957) dL_law_225 (by decide) (fun _ => ?_) (fun q => absurd rfl q)
      exact K _ _ _ _ _ _ _ _ _ _ _ _ ⟨hI.1, hL, hbd, kv1.kp kk rfl rfl rfl rfl, hI.2.2.2.2.1, x6, hn, hac, h21⟩
  · show zEx G ML_law 20 600000 7302250 221 _ [.int (nI _)] _ _ (u.1 + 3, u.2 + 15120) _
    have hnn : ∀ b, a ≤ b → b < a + 27 → L1 b = none := fun b z1 z2 => (hfr b (Or.inl (by omega)) (by omega) (by omega) (by omega) (by omega)).trans (hn b z1 z2)
    have hb9 : P1 1 + 14 ≤ a := by rw [pp.2]; exact hb.1
    rw [tm_sw hb.2, ← pp.2]
    refine x_aload_n dL_law_221 rfl ?_
    refine x_eqH (hp_m (P := P1) (V := V1) hnn hb9) ?_
    refine x_cVI0 dL_law_222 lkL_30 mdX8_lay isX8_lay rfl rfl mH_a (by decide) (c_layM f.l2 f.l1 h20) (Nat.le_of_ble_eq_true rfl) hu ?_
    rintro w h'' ⟨I1, A1, rfl, h21, (⟨_, rfl, q1, q2, q3, q4, q5, q6, q7, q8⟩ | ⟨z, _⟩)⟩
    · have kv1 := hkv I1 A1 ⟨q1, q2, q3, q4, q5, q6, q7, q8⟩
      have g := kv1.ft
      have ew : wl (vw A1 0) = wl (rdT (ltr I A) (I 0) 201 0 (T0m A)).2 := wl_eqW (eqT_eqW q1 (by rw [vw0 (k := 2) (by decide) (by decide)]; exact g.t8) (by rw [vw0 (k := 7) (by decide) (by decide)]; exact g.p4))
      rw [ew]
      refine x_eqH (hp_m (P := P1) (V := V1) hnn hb9).symm ?_
      refine x_icmp_eq (tgt := 957) dL_law_225 (by decide) (fun _ => ?_) (fun q => absurd rfl q)
      refine K _ _ _ _ _ _ J2 X2 _ _ _ _ ⟨?_, hL1, hb1, kv1, x6, hI.2.2.2.2.1, hnn, ⟨hac.1, by omega⟩, h21⟩
      rw [pp.1]; exact zTr_tH
    · exact absurd ok z
theorem l_head {N i : Nat} (hN : N ≤ 256) (hi : i ≤ 260) (h : ¬ (Int32.ofNat N - nI 4) < nI i) : i + 4 ≤ N := by
  by_cases q : 4 ≤ N
  · have e : Int32.ofNat N - nI 4 = nI (N - 4) := nI_sub q
    rw [e, fa_lt, nI_toInt (by omega), nI_toInt (by omega)] at h
    omega
  · exfalso
    apply h
    rw [fa_lt, nI_toInt (n := i) (by omega)]
    rcases (show N = 0 ∨ N = 1 ∨ N = 2 ∨ N = 3 by omega) with rfl | rfl | rfl | rfl
    · rw [show (Int32.ofNat 0 - nI 4).toInt = -4 from by decide]; omega
    · rw [show (Int32.ofNat 1 - nI 4).toInt = -3 from by decide]; omega
    · rw [show (Int32.ofNat 2 - nI 4).toInt = -2 from by decide]; omega
    · rw [show (Int32.ofNat 3 - nI 4).toInt = -1 from by decide]; omega
theorem l_and (x : Int32) : ∃ q, q < 32 ∧ x &&& nI 31 = nI q := by
  obtain ⟨k, rfl⟩ : ∃ k, x = nI k := ⟨x.toBitVec.toNat, by apply Int32.toBitVec_inj.mp; simp [nI]⟩
  exact ⟨k &&& 31, Nat.lt_of_le_of_lt Nat.and_le_right (by decide), fa_and k 31⟩
theorem l_case (hI : lI h2 a c n I A P J X X' L V) (hi : i + 4 ≤ G.2.2.2.1.2.1) (hG : G.2.2.2.1.2.1 ≤ 256) (hu : u.1 + 3 ≤ 600000 ∧ u.2 + 15120 ≤ 7302250) (K : lGo G a c i u Q) {q : Nat} (hq : q < 32) : zEx G ML_law 20 600000 7302250 32 (lV G c a i) [.int (nI q)] (hp h2 a I A B (P 1) J' X' L V) n u Q := by
  rcases (show q = 0 ∨ q = 1 ∨ q = 2 ∨ q = 3 ∨ q = 4 ∨ q = 5 ∨ q = 6 ∨ q = 7 ∨ q = 8 ∨ q = 9 ∨ q = 10 ∨ q = 11 ∨ q = 12 ∨ q = 13 ∨ q = 14 ∨ q = 15 ∨ q = 16 ∨ q = 17 ∨ q = 18 ∨ q = 19 ∨ q = 20 ∨ q = 21 ∨ q = 22 ∨ q = 23 ∨ q = 24 ∨ q = 25 ∨ q = 26 ∨ q = 27 ∨ q = 28 ∨ q = 29 ∨ q = 30 ∨ q = 31 by omega) with rfl | rfl | rfl | rfl | rfl | rfl | rfl | rfl | rfl | rfl | rfl | rfl | rfl | rfl | rfl | rfl | rfl | rfl | rfl | rfl | rfl | rfl | rfl | rfl | rfl | rfl | rfl | rfl | rfl | rfl | rfl | rfl
  · exact n_tsw (off := 136) (tgt := 168) dL_law_32 (by decide) (by decide +kernel) (by decide) (l_write hI hi hG hu K)
  · exact n_tsw (off := 159) (tgt := 191) dL_law_32 (by decide) (by decide +kernel) (by decide) (l_wipe hI hi hG hu K)
  · exact n_tsw (off := 172) (tgt := 204) dL_law_32 (by decide) (by decide +kernel) (by decide) (l_fault hI hi hG hu K)
  · exact n_tsw (off := 185) (tgt := 217) dL_law_32 (by decide) (by decide +kernel) (by decide) (l_lay hI hi hG hu K)
  · exact n_tsw (off := 198) (tgt := 230) dL_law_32 (by decide) (by decide +kernel) (by decide) (l_thing hI hi hG hu K)
  · exact n_tsw (off := 231) (tgt := 263) dL_law_32 (by decide) (by decide +kernel) (by decide) (l_parcel hI hi hG hu K)
  · exact n_tsw (off := 264) (tgt := 296) dL_law_32 (by decide) (by decide +kernel) (by decide) (l_world hI hi hG hu K)
  · exact n_tsw (off := 297) (tgt := 329) dL_law_32 (by decide) (by decide +kernel) (by decide) (l_answer hI hi hG hu K)
  · exact n_tsw (off := 340) (tgt := 372) dL_law_32 (by decide) (by decide +kernel) (by decide) (l_attempt hI hi hG hu K)
  · exact n_tsw (off := 373) (tgt := 405) dL_law_32 (by decide) (by decide +kernel) (by decide) (l_hear hI hi hG hu K)
  · exact n_tsw (off := 416) (tgt := 448) dL_law_32 (by decide) (by decide +kernel) (by decide) (l_change hI hi hG hu K)
  · exact n_tsw (off := 449) (tgt := 481) dL_law_32 (by decide) (by decide +kernel) (by decide) (l_hide hI hi hG hu K)
  · exact n_tsw (off := 482) (tgt := 514) dL_law_32 (by decide) (by decide +kernel) (by decide) (l_undo hI hi hG hu K)
  · exact n_tsw (off := 495) (tgt := 527) dL_law_32 (by decide) (by decide +kernel) (by decide) (l_left hI hi hG hu K)
  · exact n_tsw (off := 508) (tgt := 540) dL_law_32 (by decide) (by decide +kernel) (by decide) (l_likely hI hi hG hu K)
  · exact n_tsw (off := 552) (tgt := 584) dL_law_32 (by decide) (by decide +kernel) (by decide) (l_sure hI hi hG hu K)
  · exact n_tsw (off := 601) (tgt := 633) dL_law_32 (by decide) (by decide +kernel) (by decide) (l_judge hI hi hG hu K)
  · exact n_tsw (off := 614) (tgt := 646) dL_law_32 (by decide) (by decide +kernel) (by decide) (l_guess hI hi hG hu K)
  · exact n_tsw (off := 648) (tgt := 680) dL_law_32 (by decide) (by decide +kernel) (by decide) (l_next hI hi hG hu K)
  · exact n_tsw (off := 671) (tgt := 703) dL_law_32 (by decide) (by decide +kernel) (by decide) (l_few hI hi hG hu K)
  · exact n_tsw (off := 694) (tgt := 726) dL_law_32 (by decide) (by decide +kernel) (by decide) (l_solved hI hi hG hu K)
  · exact n_tsw (off := 717) (tgt := 749) dL_law_32 (by decide) (by decide +kernel) (by decide) (l_risk hI hi hG hu K)
  · exact n_tsw (off := 741) (tgt := 773) dL_law_32 (by decide) (by decide +kernel) (by decide) (l_seconds hI hi hG hu K)
  · exact n_tsw (off := 754) (tgt := 786) dL_law_32 (by decide) (by decide +kernel) (by decide) (l_misled hI hi hG hu K)
  · exact n_tsw (off := 787) (tgt := 819) dL_law_32 (by decide) (by decide +kernel) (by decide) (l_more hI hi hG hu K)
  · exact n_tsw (off := 810) (tgt := 842) dL_law_32 (by decide) (by decide +kernel) (by decide) (l_heavier hI hi hG hu K)
  · exact n_tsw (off := 843) (tgt := 875) dL_law_32 (by decide) (by decide +kernel) (by decide) (l_morning hI hi hG hu K)
  · exact n_tsw (off := 876) (tgt := 908) dL_law_32 (by decide) (by decide +kernel) (by decide) (l_keep hI hi hG hu K)
  · exact n_tsw (off := 889) (tgt := 921) dL_law_32 (by decide) (by decide +kernel) (by decide) (l_back hI hi hG hu K)
  · exact n_tsw (off := 902) (tgt := 934) dL_law_32 (by decide) (by decide +kernel) (by decide) (l_count hI hi hG hu K)
  · exact n_tsw (off := 925) (tgt := 957) dL_law_32 (by decide) (by decide +kernel) (by decide) (K.go hI)
  · exact n_tsw (off := 925) (tgt := 957) dL_law_32 (by decide) (by decide +kernel) (by decide) (K.go hI)
theorem l_loop (hG : G.2.2.2.1.2.1 ≤ 256) (hQ : ∀ h n, Q (some (.int (nI 1))) h n) : ∀ d t, t + d = 65 → ∀ (h2 : zF) (n : Nat) (I : Nat → Nat) (A : Nat → Nat → Nat) (B P J : Nat → Nat) (X : Nat → Nat → Nat) (J' : Nat → Nat) (X' : Nat → Nat → Nat) (L : zSh) (V : Nat → Nat → Nat), lI h2 a c n I A P J X X' L V → zEx G ML_law 20 600000 7302250 18 (lV G c a (4 * t)) [] (hp h2 a I A B (P 1) J' X' L V) n (200 + 3 * t, 40000 + 15120 * t) Q := by
  intro d
  induction d with
  | zero =>
    intro t ht h2 n I A B P J X J' X' L V hI
    refine x_iload_n dL_law_18 rfl ?_
    refine x_aload_n dL_law_19 rfl ?_
    refine x_slen dL_law_20 ?_
    refine x_iconst (v := nI 4) dL_law_21 (by decide) ?_
    refine x_isub dL_law_22 ?_
    refine x_icmp_gt (tgt := 963) dL_law_23 (by decide) (fun _ => ?_) (fun q => ?_)
    · refine x_iconst (v := nI 1) dL_law_963 (by decide) ?_
      exact x_iret dL_law_964 rfl (nar_b true) ⟨by show 200 + 3 * t ≤ 600000; omega, by show 40000 + 15120 * t ≤ 7302250; omega⟩ (hQ _ _)
    · have := l_head hG (by omega) q; omega
  | succ d ih =>
    intro t ht h2 n I A B P J X J' X' L V hI
    refine x_iload_n dL_law_18 rfl ?_
    refine x_aload_n dL_law_19 rfl ?_
    refine x_slen dL_law_20 ?_
    refine x_iconst (v := nI 4) dL_law_21 (by decide) ?_
    refine x_isub dL_law_22 ?_
    refine x_icmp_gt (tgt := 963) dL_law_23 (by decide) (fun _ => ?_) (fun q => ?_)
    · refine x_iconst (v := nI 1) dL_law_963 (by decide) ?_
      exact x_iret dL_law_964 rfl (nar_b true) ⟨by show 200 + 3 * t ≤ 600000; omega, by show 40000 + 15120 * t ≤ 7302250; omega⟩ (hQ _ _)
    · have hi := l_head hG (by omega) q
      refine x_aload_n dL_law_26 rfl ?_
      refine x_iload_n dL_law_27 rfl ?_
      refine l_sld dL_law_28 (by omega) hG ?_
      refine x_bipush (v := nI 31) dL_law_29 (by decide) ?_
      refine x_iand dL_law_31 ?_
      obtain ⟨q, hq, e⟩ := l_and (G.2.2.2.1.2.2 (4 * t))
      rw [e]
      refine l_case hI hi hG ⟨by show 200 + 3 * t + 3 ≤ 600000; omega, by show 40000 + 15120 * t + 15120 ≤ 7302250; omega⟩ ?_ hq
      intro h2 n I A B P J X J' X' L V hI
      refine n_ii3 (w := 4) dL_law_957 (by decide) (by decide) rfl ?_
      refine x_goto (tgt := 18) dL_law_960 (by decide) ?_
      have hz := ih (t + 1) (by omega) h2 n I A B P J X J' X' L V hI
      rw [show 4 * (t + 1) = 4 * t + 4 by omega, show 200 + 3 * (t + 1) = 200 + 3 * t + 3 by omega, show 40000 + 15120 * (t + 1) = 40000 + 15120 * t + 15120 by omega] at hz
      exact hz
set_option maxRecDepth 100000 in
set_option maxHeartbeats 4000000 in
theorem l_law {b : Nat} (hb : b = G.2.2.2.1.1) (hG : G.2.2.2.1.2.1 ≤ 256) (hQ : ∀ h n, Q (some (.int (nI 1))) h n) : zEx G ML_law 20 600000 7302250 0 [some (.ref b), none, none, none] [] h c (0, 0) Q := by
  subst hb
  refine x_new (ci := 7) (r := (RX7, TX7, 13)) (fs := [.null, .null, .null, .null, .null, .null, .null, .null, .null, .null, .null, .int (nI 0), .int (nI 0)]) dL_law_0 rfl uX7 ⟨clL_7, itX7, izX7⟩ tyX7 tyX7_ok (by decide) ⟨by decide, by decide⟩ ?_
  refine x_dup dL_law_3 rfl ?_
  refine x_callI (M' := MX7_init) (As := []) (rest := [.ref c]) dL_law_4 lkL_9 mdX7_init rfl rfl isX7_init (by decide) (k_init (c := c) (up_eq _ _ _)) rfl (Nat.le_of_ble_eq_true rfl) rfl ⟨by decide, by decide⟩ ?_
  rintro r h' a ⟨rfl, h1, L, V, P, J, X, J', X', rfl, hT, hL, hbd, hac, x6, x6', hn, hkv⟩
  have hbd0 := hbd.1
  refine x_as1 dL_law_7 (by decide) rfl ?_
  refine x_new (ci := 8) (r := (RX8, TX8, 33)) (fs := [.int (nI 0), .null, .null, .null, .null, .null, .null, .null, .null, .null, .null, .null, .null, .null, .null, .null, .null, .int (nI 0), .null, .null, .int (nI 0), .null, .int (nI 0), .int (nI 0), .null, .null, .null, .null, .null, .int (nI 0), .null, .null, .int (nI 0)]) dL_law_8 rfl uX8 ⟨clL_10, itX8, izX8⟩ tyX8 tyX8_ok (by decide) ⟨by decide, by decide⟩ ?_
  refine x_dup dL_law_11 rfl ?_
  refine x_callI (M' := MX8_init) (As := []) (rest := [.ref a]) dL_law_12 lkL_12 mdX8_init rfl rfl isX8_init (by decide) (c_initM (a := a) (h0 := gH (tH h1 (P 1) J' X') L V)) rfl (Nat.le_of_ble_eq_true rfl) rfl ⟨by decide, by decide⟩ ?_
  rintro r h' n' ⟨rfl, ⟨f, g, rfl, hg⟩, rfl⟩
  refine x_as2 dL_law_15 (by decide) rfl ?_
  refine x_iconst (v := nI 0) dL_law_16 (by decide) ?_
  refine x_is3 dL_law_17 (by decide) rfl ?_
  have h1b := hL.2.2.2.2.2.2.2.2.2.2.2.1
  have hnn : ∀ b, a ≤ b → b < a + 27 → L b = none := fun b z _ => hn b z
  refine x_eqH (hp_m (P := P) (V := V) hnn (by omega)).symm ?_
  refine zEx.widen (u' := (200 + 3 * 0, 40000 + 15120 * 0)) (by decide) (by decide) ?_
  exact l_loop hG hQ 65 0 rfl h1 (a + 27) _ _ _ P J X J' X' L V ⟨hT, hL, ⟨by omega, by have := hbd.2.1; omega, by have := hbd.2.2.1; omega, by have := hbd.2.2.2; omega⟩, hkv f g hg, x6, x6', hnn, ⟨hbd0, Nat.le_refl _⟩, fun j => a20_ok j⟩
end ZL5
