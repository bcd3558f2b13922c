abbrev gS (G : zG) : Nat := G.2.2.2.2.1 0
abbrev gV (G : zG) : Nat := G.2.2.2.2.2 0
section ZST
variable {G : zG} {M : zM} {k mc ms pc n : Nat} {lv : List (Option Value)} {st : List Value} {h : zF} {u : Nat × Nat} {Q : zQ}
theorem x_ldcS (hd : decode M.2.1 pc = .ok (.ldc 77, 2)) (hM : M.1.cls = "ShakenParcels") (K : zEx G M k mc ms (pc + 2) lv (.ref (gS G) :: st) h n u Q) : zEx G M k mc ms pc lv st h n u Q := by
  intro d p e R s m args below meth c Qz hkd hC hF H locs ls hH hl hL
  obtain ⟨hx, hb, hml, hown, hts, hK, hR, hR2, hnm⟩ := id hC
  rw [hM] at hown
  exact va_ldcS hx hb hown hK.2.2.2.2.2.1 hd (K d p e R s m args below meth c Qz hkd hC hF H locs ls hH hl hL)
theorem zkeep {s : State} {H : Heap} (hH : zHp G s H h n) : ∀ a : Nat, a < (zH0 G).size → ¬ zA G a → H[a]? = (zH0 G)[a]? := fun a ha _ => hH.2.2.1 a ha
theorem x_strV (hd : decode M.2.1 pc = .ok (.getfield 9, 3)) (hM : M.1.cls = "java/lang/String") (K : zEx G M k mc ms (pc + 3) lv (.ref (gV G) :: st) h n u Q) : zEx G M k mc ms pc lv (.ref (gS G) :: st) h n u Q := by
  intro d p e R s m args below meth c Qz hkd hC hF H locs ls hH hl hL
  obtain ⟨hx, hb, hml, hown, hts, hK, hR, hR2, hnm⟩ := id hC
  rw [hM] at hown
  obtain ⟨cf, k0, fi, f, cell, h1, h2, h3, h4, h5, h6⟩ := ((hK.2.2.2.2.1).1 0 (by decide)).2.2.1.kept (zkeep hH)
  exact W.getf hx hb hown (hts (Cond.fieldLink "java/lang/String" 9 "java/lang/String" "value" "[B") (zmem 1287 (by decide +kernel) rfl)) h1 h2 h3 h4 (v := .ref (gV G)) h5 rfl rfl hd (K d p e R s m args below meth c Qz hkd hC hF H locs ls hH hl hL)
theorem x_strC (hd : decode M.2.1 pc = .ok (.getfield 15, 3)) (hM : M.1.cls = "java/lang/String") (K : zEx G M k mc ms (pc + 3) lv (.int (nI 0) :: st) h n u Q) : zEx G M k mc ms pc lv (.ref (gS G) :: st) h n u Q := by
  intro d p e R s m args below meth c Qz hkd hC hF H locs ls hH hl hL
  obtain ⟨hx, hb, hml, hown, hts, hK, hR, hR2, hnm⟩ := id hC
  rw [hM] at hown
  obtain ⟨cf, k0, fi, f, cell, h1, h2, h3, h4, h5, h6⟩ := ((hK.2.2.2.2.1).1 0 (by decide)).2.1.kept (zkeep hH)
  exact W.getf hx hb hown (hts (Cond.fieldLink "java/lang/String" 15 "java/lang/String" "coder" "B") (zmem 1288 (by decide +kernel) rfl)) h1 h2 h3 h4 (v := .int (nI 0)) h5 rfl rfl hd (K d p e R s m args below meth c Qz hkd hC hF H locs ls hH hl hL)
theorem x_gets38 (hd : decode M.2.1 pc = .ok (.getstatic 38, 3)) (hM : M.1.cls = "java/lang/String") (K : zEx G M k mc ms (pc + 3) lv (.int (nI 1) :: st) h n u Q) : zEx G M k mc ms pc lv st h n u Q := by
  intro d p e R s m args below meth c Qz hkd hC hF H locs ls hH hl hL
  obtain ⟨hx, hb, hml, hown, hts, hK, hR, hR2, hnm⟩ := id hC
  rw [hM] at hown
  obtain ⟨cf, kf, fi, f, a, cell, h1, h2, h3, h4, h5, h6, h7, h8⟩ := hK.2.2.2.2.2.2.1.kept (zkeep hH)
  exact W.gets hx hb hown (hts (Cond.fieldLink "java/lang/String" 38 "java/lang/String" "COMPACT_STRINGS" "Z") (zmem 317 (by decide +kernel) rfl)) h1 h2 h3 h4 h5 (fun e => by rw [e] at h6; cases h6) h7 rfl hd (K d p e R s m args below meth c Qz hkd hC hF H locs ls hH hl hL)
theorem x_gets1053 (hd : decode M.2.1 pc = .ok (.getstatic 1053, 3)) (hM : M.1.cls = "java/lang/String") (K1 : zEx G M k mc ms (pc + 3) lv (.null :: st) h n u Q) (K2 : ∀ t : Nat, zEx G M k mc ms (pc + 3) lv (.ref t :: st) h n u Q) : zEx G M k mc ms pc lv st h n u Q := by
  intro d p e R s m args below meth c Qz hkd hC hF H locs ls hH hl hL
  obtain ⟨hx, hb, hml, hown, hts, hK, hR, hR2, hnm⟩ := id hC
  rw [hM] at hown
  rcases hK.2.2.2.2.2.2.2.1.kept (zkeep hH) with q | ⟨t, q⟩
  · obtain ⟨cf, kf, fi, f, a, cell, h1, h2, h3, h4, h5, h6, h7, h8⟩ := q
    exact W.gets hx hb hown (hts (Cond.fieldLink "java/lang/String" 1053 "jdk/internal/util/Preconditions" "SIOOBE_FORMATTER" "Ljava/util/function/BiFunction;") (zmem 333 (by decide +kernel) rfl)) h1 h2 h3 h4 h5 (fun e => by rw [e] at h6; cases h6) h7 rfl hd (K1 d p e R s m args below meth c Qz hkd hC hF H locs ls hH hl hL)
  · obtain ⟨cf, kf, fi, f, a, cell, h1, h2, h3, h4, h5, h6, h7, h8⟩ := q
    exact W.gets hx hb hown (hts (Cond.fieldLink "java/lang/String" 1053 "jdk/internal/util/Preconditions" "SIOOBE_FORMATTER" "Ljava/util/function/BiFunction;") (zmem 333 (by decide +kernel) rfl)) h1 h2 h3 h4 h5 (fun e => by rw [e] at h6; cases h6) h7 rfl hd (K2 t d p e R s m args below meth c Qz hkd hC hF H locs ls hH hl hL)
theorem x_strL (hd : decode M.2.1 pc = .ok (.arraylength, 1)) (K : zEx G M k mc ms (pc + 1) lv (.int (nI 86) :: st) h n u Q) : zEx G M k mc ms pc lv (.ref (gV G) :: st) h n u Q := by
  intro d p e R s m args below meth c Qz hkd hC hF H locs ls hH hl hL
  obtain ⟨hx, hb, hml, hown, hts, hK, hR, hR2, hnm⟩ := id hC
  obtain ⟨cell, h1, h2, h3, h4, h5, h6, h7⟩ := ((hK.2.2.2.2.1).1 0 (by decide)).2.2.2.kept (zkeep hH)
  exact W.alen (n := nI 86) hx hb h1 h2 h5 rfl rfl hd (K d p e R s m args below meth c Qz hkd hC hF H locs ls hH hl hL)
theorem x_strB {i : Nat} (hd : decode M.2.1 pc = .ok (.baload, 1)) (hi : i < 86) (K : zEx G M k mc ms (pc + 1) lv (.int (zStr.getD i 0) :: st) h n u Q) : zEx G M k mc ms pc lv (.int (nI i) :: .ref (gV G) :: st) h n u Q := by
  intro d p e R s m args below meth c Qz hkd hC hF H locs ls hH hl hL
  obtain ⟨hx, hb, hml, hown, hts, hK, hR, hR2, hnm⟩ := id hC
  obtain ⟨cell, h1, h2, h3, h4, h5, h6, h7⟩ := ((hK.2.2.2.2.1).1 0 (by decide)).2.2.2.kept (zkeep hH)
  have h4 : 86 ≤ cell.slots.size := h4
  have hc : (nI i).toNatClampNeg = i := nI_clamp (by omega)
  refine W.bald (v := .int (zStr.getD i 0)) hx hb h1 h2 h3 ?_ (by rw [hc]; exact h6 i hi) rfl rfl hd (K d p e R s m args below meth c Qz hkd hC hF H locs ls hH hl hL)
  rw [hc]
  rintro (q | q)
  · exact nI_pos (by omega) q
  · omega
theorem x_callVS {M' : zM} {k' mc' ms' idx na : Nat} {As rest : List Value} {Q' : zQ} (hd : decode M.2.1 pc = .ok (.invokevirtual idx, 3)) (hlk : zLk M.1.cls idx M') (hmd : zMd M' na) (hinst : Cond.instanceMethod M'.1 ∈ zTbl ∧ Cond.selects M'.1.cls M'.1 M'.1 ∈ zTbl) (hrc : M'.1.cls = "java/lang/String") (hk : k' + 1 ≤ k) (hct : zCt G M' k' mc' ms' (.ref (gS G) :: As) h n Q') (hna : As.length = na) (hrest : (rest.map fun v => v.category).sum ≤ 8) (hstk : As.reverse ++ .ref (gS G) :: rest = st) (hu : u.1 + mc' ≤ mc ∧ u.2 + ms' ≤ ms)
    (K : ∀ (r : Option Value) (h' : zF) (n' : Nat), Q' r h' n' → zEx G M k mc ms (pc + 3) lv (r.toList ++ rest) h' n' (u.1 + mc', u.2 + ms') Q) : zEx G M k mc ms pc lv st h n u Q := by
  subst hstk
  refine x_run (M' := M') (a0 := #[]) K ?_
  intro d p e R s m args below meth c hkd hC H locs ls hH hL
  obtain ⟨hx, hb, hml, hown, hts, hK, hR, hR2, hnm⟩ := id hC
  have hcell : u.1 + mc' ≤ R.cells ∧ u.2 + ms' ≤ R.slots := ⟨Nat.le_trans hu.1 hR2.1, Nat.le_trans hu.2 hR2.2⟩
  have hrecv : ∃ cell : Cell, H[gS G]? = some cell ∧ cell.vm.isStatics = false ∧ s.vm.findClass M'.1.cls = some cell.cls := by
    obtain ⟨cell, h1, h2, h3, -⟩ := ((hK.2.2.2.2.1).1 0 (by decide)).1.kept (zkeep hH)
    exact ⟨cell, h1, h2, by rw [hrc]; exact h3⟩
  have hpre : PreV s H M'.1.cls (gS G) (va_Pc (.ref (gS G) :: As) (fun U => zK G U ∧ zHp G U U.heap h n)) As := ⟨zBlind, hrecv, fun U hU hW => ⟨rfl, hK.warm hW, by rw [hU]; exact hH.moved hW.alike⟩⟩
  have hrm := zRoom hk hkd hR hmd.2.2.2
  rcases hlk with hlk | ⟨host, hlk⟩
  · exact va_runV (C := M'.1.cls) (As := As) (rest := rest) ⟨hx, hb, hml, hown, hts⟩ (hct (d - 1) (by omega)) ⟨callB_of na hts (zGood (M := M) hmd.1) rfl rfl rfl (hts _ hmd.2.1) (hts _ hlk) hmd.2.2.1 hrm, hts _ hinst.1, hts _ hinst.2⟩ hpre rfl hna hL.1 rfl (lv_room hrest) hd hcell
  · exact va_runVN (C := M'.1.cls) (As := As) (rest := rest) (host := host) ⟨hx, hb, hml, hown, hts⟩ (hct (d - 1) (by omega)) ⟨va_cnB na hts (zGood (M := M) hmd.1) rfl rfl rfl (hK.2.1 _ hlk) (hts _ hmd.2.1) hmd.2.2.1 hrm, hts _ hinst.1, hts _ hinst.2⟩ hpre rfl hna hL.1 rfl (lv_room hrest) hd hcell
theorem x_strI0 {M' : zM} {k' idx : Nat} {v : Int32} (hd : decode M.2.1 pc = .ok (.invokevirtual idx, 3)) (hlk : zLk M.1.cls idx M') (hmd : zMd M' 0) (hinst : Cond.instanceMethod M'.1 ∈ zTbl ∧ Cond.selects M'.1.cls M'.1 M'.1 ∈ zTbl) (hrc : M'.1.cls = "java/lang/String") (hk : k' + 1 ≤ k) (hct : zI G M' k' [.ref (gS G)] h n v) (hrest : (st.map fun v => v.category).sum ≤ 8) (hu : u.1 ≤ mc ∧ u.2 ≤ ms) (K : zEx G M k mc ms (pc + 3) lv (.int v :: st) h n u Q) : zEx G M k mc ms pc lv (.ref (gS G) :: st) h n u Q := x_callVS (mc' := 0) (ms' := 0) (As := []) (rest := st) hd hlk hmd hinst hrc hk hct rfl hrest rfl hu (by rintro r h' _ ⟨rfl, rfl, rfl⟩; exact K)
theorem x_strI1 {M' : zM} {k' idx : Nat} {v : Int32} {a1 : Value} (hd : decode M.2.1 pc = .ok (.invokevirtual idx, 3)) (hlk : zLk M.1.cls idx M') (hmd : zMd M' 1) (hinst : Cond.instanceMethod M'.1 ∈ zTbl ∧ Cond.selects M'.1.cls M'.1 M'.1 ∈ zTbl) (hrc : M'.1.cls = "java/lang/String") (hk : k' + 1 ≤ k) (hct : zI G M' k' [.ref (gS G), a1] h n v) (hrest : (st.map fun v => v.category).sum ≤ 8) (hu : u.1 ≤ mc ∧ u.2 ≤ ms) (K : zEx G M k mc ms (pc + 3) lv (.int v :: st) h n u Q) : zEx G M k mc ms pc lv (a1 :: .ref (gS G) :: st) h n u Q := x_callVS (mc' := 0) (ms' := 0) (As := [a1]) (rest := st) hd hlk hmd hinst hrc hk hct rfl hrest rfl hu (by rintro r h' _ ⟨rfl, rfl, rfl⟩; exact K)
end ZST
/-- the letters of the first text -/
def chN (i : Nat) : Nat := (zStr.getD i 0).toNatClampNeg
theorem chN_ok : ∀ i, i < 86 → (((zStr.getD i 0 &&& nI 255).toUInt32 % 65536).toInt32 = nI (chN i) ∧ chN i < 128) := by decide +kernel
section ZST2
variable {G : zG} {n : Nat} {h : zF}
theorem c_coder : zI G MJ0_coder_7d493 0 [.ref (gS G)] h n (nI 0) := by
  refine zCt.of rfl (Nat.le_of_ble_eq_true rfl) rfl ?_
  refine x_gets38 dJ0_coder_7d493_0 rfl ?_
  refine n_if_eq (tgt := 13) dJ0_coder_7d493_3 (by decide) (by omega) (fun c1 => ?_) (fun c1 => ?_)
  · omega
  · refine x_aload_n dJ0_coder_7d493_6 rfl ?_
    refine x_strC dJ0_coder_7d493_7 rfl ?_
    refine x_goto (tgt := 14) dJ0_coder_7d493_10 (by decide) ?_
    refine x_iret dJ0_coder_7d493_14 rfl rfl ⟨Nat.le_refl _, Nat.le_refl _⟩ ?_
    exact ⟨rfl, rfl, rfl⟩
theorem c_strLen : zI G MJ0_length_8abf5 1 [.ref (gS G)] h n (nI 86) := by
  refine zCt.of rfl (Nat.le_of_ble_eq_true rfl) rfl ?_
  refine x_aload_n dJ0_length_8abf5_0 rfl ?_
  refine x_strV dJ0_length_8abf5_1 rfl ?_
  refine x_strL dJ0_length_8abf5_4 ?_
  refine x_aload_n dJ0_length_8abf5_5 rfl ?_
  refine x_strI0 dJ0_length_8abf5_6 lkJ0_335 mdJ0_coder_7d493 isJ0_coder_7d493 rfl (by decide) c_coder (Nat.le_of_ble_eq_true rfl) ⟨Nat.le_refl _, Nat.le_refl _⟩ ?_
  refine x_ishr dJ0_length_8abf5_9 ?_
  rw [show nI 86 >>> (nI 0 &&& 31) = nI 86 by decide]
  refine x_iret dJ0_length_8abf5_10 rfl rfl ⟨Nat.le_refl _, Nat.le_refl _⟩ ?_
  exact ⟨rfl, rfl, rfl⟩
theorem c_isLatin1 : zI G MJ0_isLatin1_aae02 0 [.ref (gS G)] h n (nI 1) := by
  refine zCt.of rfl (Nat.le_of_ble_eq_true rfl) rfl ?_
  refine x_gets38 dJ0_isLatin1_aae02_0 rfl ?_
  refine n_if_eq (tgt := 17) dJ0_isLatin1_aae02_3 (by decide) (by omega) (fun c1 => ?_) (fun c1 => ?_)
  · omega
  · refine x_aload_n dJ0_isLatin1_aae02_6 rfl ?_
    refine x_strC dJ0_isLatin1_aae02_7 rfl ?_
    refine n_if_ne (tgt := 17) dJ0_isLatin1_aae02_10 (by decide) (by omega) (fun c2 => ?_) (fun c2 => ?_)
    · omega
    · refine x_iconst (v := nI 1) dJ0_isLatin1_aae02_13 (by decide) ?_
      refine x_goto (tgt := 18) dJ0_isLatin1_aae02_14 (by decide) ?_
      refine x_iret dJ0_isLatin1_aae02_18 rfl (nar_b true) ⟨Nat.le_refl _, Nat.le_refl _⟩ ?_
      exact ⟨rfl, rfl, rfl⟩
theorem c_chk3n {i m : Nat} (hi : i < m) (hm : m < 2 ^ 31) : zI G MJ3_checkIndex_8e157 0 [.int (nI i), .int (nI m), .null] h n (nI i) := by
  refine zCt.of rfl (Nat.le_of_ble_eq_true rfl) rfl ?_
  refine x_iload_n dJ3_checkIndex_8e157_0 rfl ?_
  refine x_if_lt (tgt := 9) dJ3_checkIndex_8e157_1 (by decide) (fun c1 => absurd c1 (nI_pos (by omega))) (fun c1 => ?_)
  refine x_iload_n dJ3_checkIndex_8e157_4 rfl ?_
  refine x_iload_n dJ3_checkIndex_8e157_5 rfl ?_
  refine n_icmp_lt (tgt := 16) dJ3_checkIndex_8e157_6 (by decide) (by omega) (by omega) (fun c2 => ?_) (fun c2 => ?_)
  · refine x_iload_n dJ3_checkIndex_8e157_16 rfl ?_
    refine x_iret dJ3_checkIndex_8e157_17 rfl rfl ⟨Nat.le_refl _, Nat.le_refl _⟩ ?_
    exact ⟨rfl, rfl, rfl⟩
  · omega
theorem c_chk3r {i m t : Nat} (hi : i < m) (hm : m < 2 ^ 31) : zI G MJ3_checkIndex_8e157 0 [.int (nI i), .int (nI m), .ref t] h n (nI i) := by
  refine zCt.of rfl (Nat.le_of_ble_eq_true rfl) rfl ?_
  refine x_iload_n dJ3_checkIndex_8e157_0 rfl ?_
  refine x_if_lt (tgt := 9) dJ3_checkIndex_8e157_1 (by decide) (fun c1 => absurd c1 (nI_pos (by omega))) (fun c1 => ?_)
  refine x_iload_n dJ3_checkIndex_8e157_4 rfl ?_
  refine x_iload_n dJ3_checkIndex_8e157_5 rfl ?_
  refine n_icmp_lt (tgt := 16) dJ3_checkIndex_8e157_6 (by decide) (by omega) (by omega) (fun c2 => ?_) (fun c2 => ?_)
  · refine x_iload_n dJ3_checkIndex_8e157_16 rfl ?_
    refine x_iret dJ3_checkIndex_8e157_17 rfl rfl ⟨Nat.le_refl _, Nat.le_refl _⟩ ?_
    exact ⟨rfl, rfl, rfl⟩
  · omega
theorem c_chk {i m : Nat} (hi : i < m) (hm : m < 2 ^ 31) : zPv G MJ0_checkIndex_df160 1 [.int (nI i), .int (nI m)] h n (fun h' => h' = h) := by
  refine zCt.of rfl (Nat.le_of_ble_eq_true rfl) rfl ?_
  refine x_iload_n dJ0_checkIndex_df160_0 rfl ?_
  refine x_iload_n dJ0_checkIndex_df160_1 rfl ?_
  refine x_gets1053 dJ0_checkIndex_df160_2 rfl ?_ (fun t => ?_)
  · refine x_cSi3 dJ0_checkIndex_df160_5 lkJ0_1059 mdJ3_checkIndex_8e157 stJ3_checkIndex_8e157 (by decide) (c_chk3n hi hm) (Nat.le_of_ble_eq_true rfl) ⟨Nat.le_refl _, Nat.le_refl _⟩ ?_
    refine x_pop dJ0_checkIndex_df160_8 rfl ?_
    refine x_vret dJ0_checkIndex_df160_9 rfl ⟨Nat.le_refl _, Nat.le_refl _⟩ ?_
    exact ⟨rfl, rfl, rfl⟩
  · refine x_cSi3 dJ0_checkIndex_df160_5 lkJ0_1059 mdJ3_checkIndex_8e157 stJ3_checkIndex_8e157 (by decide) (c_chk3r hi hm) (Nat.le_of_ble_eq_true rfl) ⟨Nat.le_refl _, Nat.le_refl _⟩ ?_
    refine x_pop dJ0_checkIndex_df160_8 rfl ?_
    refine x_vret dJ0_checkIndex_df160_9 rfl ⟨Nat.le_refl _, Nat.le_refl _⟩ ?_
    exact ⟨rfl, rfl, rfl⟩
theorem c_lcharAt {i : Nat} (hi : i < 86) : zI G MJ1_charAt_3b067 2 [.ref (gV G), .int (nI i)] h n (nI (chN i)) := by
  refine zCt.of rfl (Nat.le_of_ble_eq_true rfl) rfl ?_
  have hc := chN_ok i hi
  refine x_iload_n dJ1_charAt_3b067_0 rfl ?_
  refine x_aload_n dJ1_charAt_3b067_1 rfl ?_
  refine x_strL dJ1_charAt_3b067_2 ?_
  refine x_cSV2 dJ1_charAt_3b067_3 lkJ1_9 mdJ0_checkIndex_df160 stJ0_checkIndex_df160 (by decide) (c_chk (show i < 86 from hi) (by decide)) (Nat.le_of_ble_eq_true rfl) ⟨Nat.le_refl _, Nat.le_refl _⟩ ?_
  rintro h' rfl
  refine x_aload_n dJ1_charAt_3b067_6 rfl ?_
  refine x_iload_n dJ1_charAt_3b067_7 rfl ?_
  refine x_strB dJ1_charAt_3b067_8 hi ?_
  refine x_sipush (v := nI 255) dJ1_charAt_3b067_9 (by decide) ?_
  refine x_iand dJ1_charAt_3b067_12 ?_
  refine x_i2c (v := nI (chN i)) dJ1_charAt_3b067_13 hc.1 ?_
  refine x_iret dJ1_charAt_3b067_14 rfl (nar_c _ hc.2) ⟨Nat.le_refl _, Nat.le_refl _⟩ ?_
  exact ⟨rfl, rfl, rfl⟩
theorem c_strCh {i : Nat} (hi : i < 86) : zI G MJ0_charAt_5068e 3 [.ref (gS G), .int (nI i)] h n (nI (chN i)) := by
  refine zCt.of rfl (Nat.le_of_ble_eq_true rfl) rfl ?_
  have hc := chN_ok i hi
  refine x_aload_n dJ0_charAt_5068e_0 rfl ?_
  refine x_strI0 dJ0_charAt_5068e_1 lkJ0_492 mdJ0_isLatin1_aae02 isJ0_isLatin1_aae02 rfl (by decide) c_isLatin1 (Nat.le_of_ble_eq_true rfl) ⟨Nat.le_refl _, Nat.le_refl _⟩ ?_
  refine n_if_eq (tgt := 16) dJ0_charAt_5068e_4 (by decide) (by omega) (fun c1 => ?_) (fun c1 => ?_)
  · omega
  · refine x_aload_n dJ0_charAt_5068e_7 rfl ?_
    refine x_strV dJ0_charAt_5068e_8 rfl ?_
    refine x_iload_n dJ0_charAt_5068e_11 rfl ?_
    refine x_cSi2 dJ0_charAt_5068e_12 lkJ0_495 mdJ1_charAt_3b067 stJ1_charAt_3b067 (by decide) (c_lcharAt hi) (Nat.le_of_ble_eq_true rfl) ⟨Nat.le_refl _, Nat.le_refl _⟩ ?_
    refine x_iret dJ0_charAt_5068e_15 rfl (nar_c _ hc.2) ⟨Nat.le_refl _, Nat.le_refl _⟩ ?_
    exact ⟨rfl, rfl, rfl⟩
end ZST2
