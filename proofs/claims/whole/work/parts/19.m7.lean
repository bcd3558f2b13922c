def arrIs (f : Nat → Nat) (l : List Nat) : Prop := ∀ j, j < l.length → f j = l.getD j 0
theorem arrIs.push {f : Nat → Nat} {l : List Nat} {m : Nat} (h : arrIs f l) (hm : l.length = m) (x : Nat) : arrIs (va_up f m x) (l ++ [x]) := by
  intro j hj
  rw [List.length_append] at hj
  simp only [List.length_cons, List.length_nil] at hj
  unfold va_up
  by_cases h1 : j = m
  · subst h1; rw [if_pos rfl, List.getD_eq_getElem?_getD, List.getElem?_append_right (by omega)]
    simp [hm]
  · rw [if_neg h1, h j (by omega), List.getD_eq_getElem?_getD, List.getD_eq_getElem?_getD, List.getElem?_append_left (by omega)]
/-- the things that the first three parcels of a code hold -/
def usedW (w : Nat) : Nat := (sI w 0 ||| sI w 1) ||| sI w 2
theorem usedW_lt (w : Nat) : usedW w < 256 := Nat.or_lt_two_pow (n := 8) (Nat.or_lt_two_pow (n := 8) (sI_lt w 0) (sI_lt w 1)) (sI_lt w 2)
theorem nI_used (w : Nat) : ((nI w ||| nI w >>> (nI 8 &&& 31)) ||| nI w >>> (nI 16 &&& 31)) &&& nI 255 = nI (usedW w) := by
  refine b_ext fun i hi => ?_
  rw [b_and, b_or, b_or, b_sshr 8 (by decide) _ hi, b_sshr 16 (by decide) _ hi, bt_nI _ hi, bt_nI _ hi, bt_nI _ hi]
  unfold usedW sI
  rw [show (256 : Nat) = 2 ^ 8 from rfl, Nat.testBit_or, Nat.testBit_or, Nat.testBit_mod_two_pow, Nat.testBit_mod_two_pow, Nat.testBit_mod_two_pow, Nat.testBit_div_two_pow, Nat.testBit_div_two_pow, Nat.testBit_div_two_pow, show (255 : Nat) = 2 ^ 8 - 1 from rfl, Nat.testBit_two_pow_sub_one]
  by_cases h8 : i < 8
  · rw [if_pos (by omega), if_pos (by omega), bt_nI _ (by omega), bt_nI _ (by omega)]
    simp [h8, Nat.add_comm]
  · simp [h8]
/-- what a set, put into parcel p, makes of a code: sets below s -/
def extTo (T : zT) (p w : Nat) : Nat → List Nat
  | 0 => []
  | s + 1 => extTo T p w s ++ (if 1 ≤ s ∧ pop s = T 10 p ∧ s &&& usedW w = 0 then [w ||| s * 2 ^ (8 * p)] else [])
def levTo (T : zT) (p : Nat) (L : List Nat) : Nat → List Nat
  | 0 => []
  | i + 1 => levTo T p L i ++ extTo T p (L.getD i 0) (2 ^ T 2 0)
def lev (T : zT) : Nat → List Nat
  | 0 => [0]
  | p + 1 => levTo T p (lev T p) (lev T p).length
def filTo (T : zT) (L : List Nat) : Nat → List Nat
  | 0 => []
  | i + 1 => filTo T L i ++ (if fairT T (L.getD i 0) then [L.getD i 0] else [])
/-- the worlds, in their order -/
def wl (T : zT) : List Nat := filTo T (lev T (T 7 0)) (lev T (T 7 0)).length
theorem extTo_mono (T : zT) (p w : Nat) : ∀ (d s : Nat), (extTo T p w s).length ≤ (extTo T p w (s + d)).length
  | 0, s => Nat.le_refl _
  | d + 1, s => by
    have := extTo_mono T p w d s
    rw [show s + (d + 1) = (s + d) + 1 from rfl, extTo, List.length_append]
    omega
theorem levTo_mono (T : zT) (p : Nat) (L : List Nat) : ∀ (d i : Nat), (levTo T p L i).length ≤ (levTo T p L (i + d)).length
  | 0, i => Nat.le_refl _
  | d + 1, i => by
    have := levTo_mono T p L d i
    rw [show i + (d + 1) = (i + d) + 1 from rfl, levTo, List.length_append]
    omega
theorem lev_room {T : zT} {p i s : Nat} (hi : i < (lev T p).length) (hs : s ≤ 2 ^ T 2 0) : (levTo T p (lev T p) i ++ extTo T p ((lev T p).getD i 0) s).length ≤ (lev T (p + 1)).length := by
  have h1 := levTo_mono T p (lev T p) ((lev T p).length - (i + 1)) (i + 1)
  rw [show i + 1 + ((lev T p).length - (i + 1)) = (lev T p).length by omega] at h1
  have h2 := extTo_mono T p ((lev T p).getD i 0) (2 ^ T 2 0 - s) s
  rw [show s + (2 ^ T 2 0 - s) = 2 ^ T 2 0 by omega] at h2
  rw [levTo, List.length_append] at h1
  rw [List.length_append]
  show _ ≤ (levTo T p (lev T p) (lev T p).length).length
  omega
theorem filTo_le (T : zT) (L : List Nat) : ∀ i, (filTo T L i).length ≤ i
  | 0 => Nat.le_refl _
  | i + 1 => by
    have := filTo_le T L i
    rw [filTo, List.length_append]
    split <;> simp <;> omega
theorem vw_up {A : Nat → Nat → Nat} {k : Nat} {f : Nat → Nat} (b : Nat) (hk : 16 ≤ k) : vw (va_up A k f) b = vw A b := by
  funext q j
  simp only [vw, va_up, ite_app]
  grind
section ZM8
variable {G : zG} {n : Nat} {h0 : zF} {a : Nat} {I : Nat → Nat} {A : Nat → Nat → Nat} {B : Nat → Nat}
theorem vw_0 (A : Nat → Nat → Nat) : vw A 0 2 0 = A 2 0 ∧ vw A 0 7 0 = A 7 0 ∧ (∀ p, vw A 0 10 p = A 10 p) := by
  refine ⟨rfl, rfl, fun p => ?_⟩
  show A 10 (4 * 0 + p) = A 10 p
  rw [Nat.mul_zero, Nat.zero_add]
set_option maxHeartbeats 4000000 in
set_option maxRecDepth 100000 in
theorem c_layWorlds (hk : tOK (vw A 0)) (hlen : ∀ p, p ≤ vw A 0 7 0 → (lev (vw A 0) p).length ≤ 5040) : zPv G MX8_layWorlds 3 [.ref a] (mH h0 a I A B) n (fun h' => ∃ f g, h' = mH h0 a (va_up I 17 (wl (vw A 0)).length) (va_up (va_up A 16 g) 21 f) B ∧ arrIs g (wl (vw A 0))) := by
  refine zCt.of rfl (Nat.le_of_ble_eq_true rfl) rfl ?_
  have cf := fun (f g : Nat → Nat) (I' : Nat → Nat) (w : Nat) => c_isFair (A := va_up (va_up A 16 g) 21 f) (G := G) (n := n) (h0 := h0) (a := a) (I := I') (B := B) (w := w) (b := 0) (by decide) (by rw [vw_up 0 (by decide), vw_up 0 (by decide)]; exact hk.1) (by rw [vw_up 0 (by decide), vw_up 0 (by decide)]; exact hk.2.1) (by rw [vw_up 0 (by decide), vw_up 0 (by decide)]; exact fun t ht => (hk.2.2.1 t ht).2.2.1) (by rw [vw_up 0 (by decide), vw_up 0 (by decide)]; exact fun p hp => (hk.2.2.2.1 p hp).2.1) (by rw [vw_up 0 (by decide), vw_up 0 (by decide)]; exact hk.2.2.2.2.2.1)
  have cf : ∀ (f g : Nat → Nat) (I' : Nat → Nat) (w : Nat), zI G MX8_isFair 2 [.ref a, .int (nI 0), .int (nI w)] (mH h0 a I' (va_up (va_up A 16 g) 21 f) B) n (nI (fairT (vw A 0) w).toNat) := by
    intro f g I' w
    have := cf f g I' w
    rwa [vw_up 0 (by decide), vw_up 0 (by decide)] at this
  have e2 : A 2 0 = vw A 0 2 0 := rfl
  have e7 : A 7 0 = vw A 0 7 0 := rfl
  have e10 : ∀ p, A 10 p = vw A 0 10 p := fun p => ((vw_0 A).2.2 p).symm
  generalize hT : vw A 0 = T at hk hlen cf e2 e7 e10 ⊢
  obtain ⟨k2, k7, k3, k4, -⟩ := hk
  have hpow : 2 ^ T 2 0 ≤ 256 := (Nat.pow_le_pow_right (by decide) k2 : 2 ^ T 2 0 ≤ 2 ^ 8)
  refine x_aload_n dX8_layWorlds_0 rfl ?_
  refine x_iconst (v := nI 1) dX8_layWorlds_1 (by decide) ?_
  refine m_put dX8_layWorlds_2 flX8_172 ftX8_17 (by simp [mFs]) rfl ?_
  refine x_aload_n dX8_layWorlds_5 rfl ?_
  refine x_getf dX8_layWorlds_6 flX8_55 mH_a rfl ?_
  refine x_iconst (v := nI 0) dX8_layWorlds_9 (by decide) ?_
  refine x_iconst (v := nI 0) dX8_layWorlds_10 (by decide) ?_
  refine m_iast dX8_layWorlds_11 rfl (by simp only [mLen]; omega) (by decide) ?_
  refine x_iconst (v := nI 0) dX8_layWorlds_12 (by decide) ?_
  refine x_is1 dX8_layWorlds_13 (by decide) rfl ?_
  refine x_eqA (A' := va_up (va_up A 16 (va_up (A 16) 0 0)) 21 (A 21)) (by funext k j; simp only [va_up, ite_app]; grind) ?_
  have key : ∀ p, p ≤ T 7 0 → ∀ (f g : Nat → Nat) (o2 o3 o4 o5 : Option Value), arrIs g (lev T p) → zEx G MX8_layWorlds 3 0 0 14 [some (.ref a), some (.int (nI p)), o2, o3, o4, o5] [] (mH h0 a (va_up I 17 (lev T p).length) (va_up (va_up A 16 g) 21 f) B) n (0, 0) (fun r h' n' => r = none ∧ (∃ f g, h' = mH h0 a (va_up I 17 (wl T).length) (va_up (va_up A 16 g) 21 f) B ∧ arrIs g (wl T)) ∧ n' = n) := by
    refine z_up (T 7 0) ?_
    intro p hp ihp f g o2 o3 o4 o5 hg
    have hLp := hlen p hp
    refine x_iload_n dX8_layWorlds_14 rfl ?_
    refine x_aload_n dX8_layWorlds_15 rfl ?_
    refine x_getf dX8_layWorlds_16 flX8_28 mH_a rfl ?_
    refine x_iconst (v := nI 0) dX8_layWorlds_19 (by decide) ?_
    refine m_iald (A := va_up (va_up A 16 g) 21 f) (j := 0) dX8_layWorlds_20 rfl (by simp only [mLen]; omega) (by decide) ?_
    have e7' : (va_up (va_up A 16 g) 21 f) 7 0 = T 7 0 := e7
    rw [e7']
    refine n_icmp_ge (tgt := 177) dX8_layWorlds_21 (by decide) (by omega) (by omega) (fun hc => ?_) (fun hc => ?_)
    · have hpe : p = T 7 0 := by omega
      subst hpe
      refine x_iconst (v := nI 0) dX8_layWorlds_177 (by decide) ?_
      refine x_is1 dX8_layWorlds_178 (by decide) rfl ?_
      refine x_iconst (v := nI 0) dX8_layWorlds_179 (by decide) ?_
      refine x_is2 dX8_layWorlds_180 (by decide) rfl ?_
      have fl : ∀ i, i ≤ (lev T (T 7 0)).length → ∀ (g : Nat → Nat), arrIs g (filTo T (lev T (T 7 0)) i) → (∀ j, i ≤ j → j < (lev T (T 7 0)).length → g j = (lev T (T 7 0)).getD j 0) → zEx G MX8_layWorlds 3 0 0 181 [some (.ref a), some (.int (nI (filTo T (lev T (T 7 0)) i).length)), some (.int (nI i)), o3, o4, o5] [] (mH h0 a (va_up I 17 (lev T (T 7 0)).length) (va_up (va_up A 16 g) 21 f) B) n (0, 0) (fun r h' n' => r = none ∧ (∃ f g, h' = mH h0 a (va_up I 17 (wl T).length) (va_up (va_up A 16 g) 21 f) B ∧ arrIs g (wl T)) ∧ n' = n) := by
        refine z_up (lev T (T 7 0)).length ?_
        intro i hi ih g hg1 hg2
        have hfl := filTo_le T (lev T (T 7 0)) i
        refine x_iload_n dX8_layWorlds_181 rfl ?_
        refine x_aload_n dX8_layWorlds_182 rfl ?_
        refine x_getf (v := .int (nI (lev T (T 7 0)).length)) dX8_layWorlds_183 flX8_172 mH_a rfl ?_
        refine n_icmp_ge (tgt := 229) dX8_layWorlds_186 (by decide) (by omega) (by omega) (fun hc2 => ?_) (fun hc2 => ?_)
        · have hie : i = (lev T (T 7 0)).length := by omega
          refine x_aload_n dX8_layWorlds_229 rfl ?_
          refine x_iload_n dX8_layWorlds_230 rfl ?_
          refine m_put dX8_layWorlds_231 flX8_172 ftX8_17 (by simp [mFs]) rfl ?_
          refine x_vret dX8_layWorlds_234 rfl ⟨Nat.le_refl _, Nat.le_refl _⟩ ?_
          refine ⟨rfl, ⟨f, g, ?_, by rw [hie] at hg1; exact hg1⟩, rfl⟩
          rw [up_up, hie]; rfl
        · have hgi := hg2 i (by omega) (by omega)
          refine x_aload_n dX8_layWorlds_189 rfl ?_
          refine x_getf dX8_layWorlds_190 flX8_55 mH_a rfl ?_
          refine x_iload_n dX8_layWorlds_193 rfl ?_
          refine x_aload_n dX8_layWorlds_194 rfl ?_
          refine x_getf dX8_layWorlds_195 flX8_55 mH_a rfl ?_
          refine x_iload_n dX8_layWorlds_198 rfl ?_
          refine m_iald dX8_layWorlds_199 rfl (by simp only [mLen]; omega) (by decide) ?_
          have e16 : (va_up (va_up A 16 g) 21 f) 16 i = g i := rfl
          rw [e16]
          refine m_iast dX8_layWorlds_200 rfl (by simp only [mLen]; omega) (by decide) ?_
          refine x_eqA (A' := va_up (va_up A 16 (va_up g (filTo T (lev T (T 7 0)) i).length (g i))) 21 f) (by funext k j; simp only [va_up, ite_app]; grind) ?_
          refine x_iload_n dX8_layWorlds_201 rfl ?_
          refine x_aload_n dX8_layWorlds_202 rfl ?_
          refine x_iconst (v := nI 0) dX8_layWorlds_203 (by decide) ?_
          refine x_aload_n dX8_layWorlds_204 rfl ?_
          refine x_getf dX8_layWorlds_205 flX8_55 mH_a rfl ?_
          refine x_iload_n dX8_layWorlds_208 rfl ?_
          refine m_iald (j := i) dX8_layWorlds_209 rfl (by simp only [mLen]; omega) (by decide) ?_
          have ev : (va_up (va_up A 16 (va_up g (filTo T (lev T (T 7 0)) i).length (g i))) 21 f) 16 i = (lev T (T 7 0)).getD i 0 := by
            show va_up g (filTo T (lev T (T 7 0)) i).length (g i) i = _
            unfold va_up; rw [hgi]; split <;> rfl
          rw [ev]
          refine x_cVi2 dX8_layWorlds_210 lkX8_166 mdX8_isFair isX8_isFair rfl rfl mH_a (by decide) (cf _ _ _ _) (Nat.le_of_ble_eq_true rfl) ⟨Nat.le_refl _, Nat.le_refl _⟩ ?_
          have ih9 := ih (by omega) (va_up g (filTo T (lev T (T 7 0)) i).length (g i))
          have hg2' : ∀ j, i + 1 ≤ j → j < (lev T (T 7 0)).length → va_up g (filTo T (lev T (T 7 0)) i).length (g i) j = (lev T (T 7 0)).getD j 0 := by
            intro j h1 h2
            rw [up_ne _ _ (by omega)]
            exact hg2 j (by omega) h2
          refine b_if_eq (tgt := 220) dX8_layWorlds_213 (by decide) (fun c3 => ?_) (fun c3 => ?_)
          · refine x_iconst (v := nI 0) dX8_layWorlds_220 (by decide) ?_
            refine n_iadd dX8_layWorlds_221 ?_
            refine x_is1 dX8_layWorlds_222 (by decide) rfl ?_
            refine n_ii2 (w := 1) dX8_layWorlds_223 (by decide) (by decide) rfl ?_
            refine x_goto (tgt := 181) dX8_layWorlds_226 (by decide) ?_
            have el : filTo T (lev T (T 7 0)) (i + 1) = filTo T (lev T (T 7 0)) i := by rw [filTo, c3]; simp
            rw [el] at ih9
            exact ih9 (fun j hj => by rw [up_ne _ _ (by omega)]; exact hg1 j hj) hg2'
          · refine x_iconst (v := nI 1) dX8_layWorlds_216 (by decide) ?_
            refine x_goto (tgt := 221) dX8_layWorlds_217 (by decide) ?_
            refine n_iadd dX8_layWorlds_221 ?_
            refine x_is1 dX8_layWorlds_222 (by decide) rfl ?_
            refine n_ii2 (w := 1) dX8_layWorlds_223 (by decide) (by decide) rfl ?_
            refine x_goto (tgt := 181) dX8_layWorlds_226 (by decide) ?_
            have el : filTo T (lev T (T 7 0)) (i + 1) = filTo T (lev T (T 7 0)) i ++ [(lev T (T 7 0)).getD i 0] := by rw [filTo, c3]; rfl
            rw [el, List.length_append] at ih9
            exact ih9 (by rw [hgi]; exact hg1.push rfl _) hg2'
      exact fl 0 (Nat.zero_le _) g (fun j hj => absurd hj (Nat.not_lt_zero _)) (fun j _ hj => hg j hj)
    · have hp4 : p < 4 := by omega
      have hL1 := hlen (p + 1) (by omega)
      have h10 := (k4 p (by omega)).2.2
      refine x_iconst (v := nI 0) dX8_layWorlds_24 (by decide) ?_
      refine x_is2 dX8_layWorlds_25 (by decide) rfl ?_
      refine x_iconst (v := nI 0) dX8_layWorlds_26 (by decide) ?_
      refine x_is3 dX8_layWorlds_27 (by decide) rfl ?_
      have wloop : ∀ i, i ≤ (lev T p).length → ∀ (f : Nat → Nat) (o4 o5 : Option Value), arrIs f (levTo T p (lev T p) i) → zEx G MX8_layWorlds 3 0 0 28 [some (.ref a), some (.int (nI p)), some (.int (nI (levTo T p (lev T p) i).length)), some (.int (nI i)), o4, o5] [] (mH h0 a (va_up I 17 (lev T p).length) (va_up (va_up A 16 g) 21 f) B) n (0, 0) (fun r h' n' => r = none ∧ (∃ f g, h' = mH h0 a (va_up I 17 (wl T).length) (va_up (va_up A 16 g) 21 f) B ∧ arrIs g (wl T)) ∧ n' = n) := by
        refine z_up (lev T p).length ?_
        intro i hi ihi f o4 o5 hf
        refine x_iload_n dX8_layWorlds_28 rfl ?_
        refine x_aload_n dX8_layWorlds_29 rfl ?_
        refine x_getf (v := .int (nI (lev T p).length)) dX8_layWorlds_30 flX8_172 mH_a rfl ?_
        refine n_icmp_ge (tgt := 141) dX8_layWorlds_33 (by decide) (by omega) (by omega) (fun hc2 => ?_) (fun hc2 => ?_)
        · have hie : i = (lev T p).length := by omega
          subst hie
          refine x_aload_n dX8_layWorlds_141 rfl ?_
          refine x_iload_n dX8_layWorlds_142 rfl ?_
          refine m_put dX8_layWorlds_143 flX8_172 ftX8_17 (by simp [mFs]) rfl ?_
          refine x_iconst (v := nI 0) dX8_layWorlds_146 (by decide) ?_
          refine x_is3 dX8_layWorlds_147 (by decide) rfl ?_
          refine x_eqI (I' := va_up I 17 (lev T (p + 1)).length) (up_up _ _ _ _) ?_
          have hlevn : levTo T p (lev T p) (lev T p).length = lev T (p + 1) := rfl
          rw [hlevn] at hf ⊢
          have cpy : ∀ i, i ≤ (lev T (p + 1)).length → ∀ (g : Nat → Nat), (∀ j, j < i → g j = (lev T (p + 1)).getD j 0) → zEx G MX8_layWorlds 3 0 0 148 [some (.ref a), some (.int (nI p)), some (.int (nI (lev T (p + 1)).length)), some (.int (nI i)), o4, o5] [] (mH h0 a (va_up I 17 (lev T (p + 1)).length) (va_up (va_up A 16 g) 21 f) B) n (0, 0) (fun r h' n' => r = none ∧ (∃ f g, h' = mH h0 a (va_up I 17 (wl T).length) (va_up (va_up A 16 g) 21 f) B ∧ arrIs g (wl T)) ∧ n' = n) := by
            refine z_up (lev T (p + 1)).length ?_
            intro i hi ih g hg1
            refine x_iload_n dX8_layWorlds_148 rfl ?_
            refine x_iload_n dX8_layWorlds_149 rfl ?_
            refine n_icmp_ge (tgt := 171) dX8_layWorlds_150 (by decide) (by omega) (by omega) (fun hc3 => ?_) (fun hc3 => ?_)
            · have hie : i = (lev T (p + 1)).length := by omega
              refine n_ii1 (w := 1) dX8_layWorlds_171 (by decide) (by decide) rfl ?_
              refine x_goto (tgt := 14) dX8_layWorlds_174 (by decide) ?_
              exact ihp (by omega) f g _ _ _ _ (fun j hj => hg1 j (by omega))
            · refine x_aload_n dX8_layWorlds_153 rfl ?_
              refine x_getf dX8_layWorlds_154 flX8_55 mH_a rfl ?_
              refine x_iload_n dX8_layWorlds_157 rfl ?_
              refine x_aload_n dX8_layWorlds_158 rfl ?_
              refine x_getf dX8_layWorlds_159 flX8_70 mH_a rfl ?_
              refine x_iload_n dX8_layWorlds_162 rfl ?_
              refine m_iald dX8_layWorlds_163 rfl (by simp only [mLen]; omega) (by decide) ?_
              refine m_iast (x := f i) dX8_layWorlds_164 rfl (by simp only [mLen]; omega) (by decide) ?_
              refine x_eqA (A' := va_up (va_up A 16 (va_up g i (f i))) 21 f) (by funext k j; simp only [va_up, ite_app]; grind) ?_
              refine n_ii3 (w := 1) dX8_layWorlds_165 (by decide) (by decide) rfl ?_
              refine x_goto (tgt := 148) dX8_layWorlds_168 (by decide) ?_
              refine ih (by omega) _ (fun j hj => ?_)
              unfold va_up
              by_cases hj2 : j = i
              · rw [if_pos hj2, hj2]; exact hf i (by omega)
              · rw [if_neg hj2]; exact hg1 j (by omega)
          exact cpy 0 (Nat.zero_le _) g (fun j hj => absurd hj (Nat.not_lt_zero _))
        · have hilt : i < (lev T p).length := by omega
          have hgi := hg i hilt
          have hus := usedW_lt ((lev T p).getD i 0)
          refine x_aload_n dX8_layWorlds_36 rfl ?_
          refine x_getf dX8_layWorlds_37 flX8_55 mH_a rfl ?_
          refine x_iload_n dX8_layWorlds_40 rfl ?_
          refine m_iald dX8_layWorlds_41 rfl (by simp only [mLen]; omega) (by decide) ?_
          refine x_aload_n dX8_layWorlds_42 rfl ?_
          refine x_getf dX8_layWorlds_43 flX8_55 mH_a rfl ?_
          refine x_iload_n dX8_layWorlds_46 rfl ?_
          refine m_iald dX8_layWorlds_47 rfl (by simp only [mLen]; omega) (by decide) ?_
          refine x_bipush (v := nI 8) dX8_layWorlds_48 (by decide) ?_
          refine x_ishr dX8_layWorlds_50 ?_
          refine x_ior dX8_layWorlds_51 ?_
          refine x_aload_n dX8_layWorlds_52 rfl ?_
          refine x_getf dX8_layWorlds_53 flX8_55 mH_a rfl ?_
          refine x_iload_n dX8_layWorlds_56 rfl ?_
          refine m_iald dX8_layWorlds_57 rfl (by simp only [mLen]; omega) (by decide) ?_
          refine x_bipush (v := nI 16) dX8_layWorlds_58 (by decide) ?_
          refine x_ishr dX8_layWorlds_60 ?_
          refine x_ior dX8_layWorlds_61 ?_
          refine x_sipush (v := nI 255) dX8_layWorlds_62 (by decide) ?_
          refine x_iand dX8_layWorlds_65 ?_
          have ev : ∀ f : Nat → Nat, (va_up (va_up A 16 g) 21 f) 16 i = (lev T p).getD i 0 := fun _ => hgi
          rw [ev, nI_used]
          refine x_is4 dX8_layWorlds_66 (by decide) rfl ?_
          refine x_iconst (v := nI 1) dX8_layWorlds_68 (by decide) ?_
          refine x_is5 dX8_layWorlds_69 (by decide) rfl ?_
          have sloop : ∀ s, s ≤ 2 ^ T 2 0 → 1 ≤ s → ∀ (f : Nat → Nat), arrIs f (levTo T p (lev T p) i ++ extTo T p ((lev T p).getD i 0) s) → zEx G MX8_layWorlds 3 0 0 71 [some (.ref a), some (.int (nI p)), some (.int (nI (levTo T p (lev T p) i ++ extTo T p ((lev T p).getD i 0) s).length)), some (.int (nI i)), some (.int (nI (usedW ((lev T p).getD i 0)))), some (.int (nI s))] [] (mH h0 a (va_up I 17 (lev T p).length) (va_up (va_up A 16 g) 21 f) B) n (0, 0) (fun r h' n' => r = none ∧ (∃ f g, h' = mH h0 a (va_up I 17 (wl T).length) (va_up (va_up A 16 g) 21 f) B ∧ arrIs g (wl T)) ∧ n' = n) := by
            refine z_up (2 ^ T 2 0) ?_
            intro s hs ihs h1 f hf
            refine x_iload dX8_layWorlds_71 rfl ?_
            refine x_iconst (v := nI 1) dX8_layWorlds_73 (by decide) ?_
            refine x_aload_n dX8_layWorlds_74 rfl ?_
            refine x_getf dX8_layWorlds_75 flX8_13 mH_a rfl ?_
            refine x_iconst (v := nI 0) dX8_layWorlds_78 (by decide) ?_
            refine m_iald dX8_layWorlds_79 rfl (by simp only [mLen]; omega) (by decide) ?_
            have e2' : (va_up (va_up A 16 g) 21 f) 2 0 = T 2 0 := e2
            rw [e2']
            refine n_ishl (y := T 2 0) dX8_layWorlds_80 (by omega) ?_
            refine n_icmp_ge (tgt := 135) dX8_layWorlds_81 (by decide) (by omega) (by omega) (fun hc3 => ?_) (fun hc3 => ?_)
            · have hse : s = 2 ^ T 2 0 := by omega
              refine n_ii3 (w := 1) dX8_layWorlds_135 (by decide) (by decide) rfl ?_
              refine x_goto (tgt := 28) dX8_layWorlds_138 (by decide) ?_
              rw [hse] at hf ⊢
              exact ihi hilt f _ _ hf
            · have hs1 : s < 2 ^ T 2 0 := by omega
              have hroom := lev_room (p := p) (s := s + 1) hilt (by omega)
              have ihs9 := ihs hs1 (by omega)
              have hpop := pop_lt s (by omega)
              refine x_iload dX8_layWorlds_84 rfl ?_
              refine x_cSi1 dX8_layWorlds_86 lkX8_159 mdX8_bits stX8_bits (by decide) (c_bits (by omega)) (Nat.le_of_ble_eq_true rfl) ⟨Nat.le_refl _, Nat.le_refl _⟩ ?_
              refine x_aload_n dX8_layWorlds_89 rfl ?_
              refine x_getf dX8_layWorlds_90 flX8_37 mH_a rfl ?_
              refine x_iload_n dX8_layWorlds_93 rfl ?_
              refine m_iald (j := p) dX8_layWorlds_94 rfl (by simp only [mLen]; omega) (by decide) ?_
              have e10p : (va_up (va_up A 16 g) 21 f) 10 p = T 10 p := e10 p
              rw [e10p]
              refine n_icmp_ne (tgt := 129) dX8_layWorlds_95 (by decide) (by omega) (by omega) (fun c4 => ?_) (fun c4 => ?_)
              · refine n_ii5 (w := 1) dX8_layWorlds_129 (by decide) (by decide) rfl ?_
                refine x_goto (tgt := 71) dX8_layWorlds_132 (by decide) ?_
                rw [extTo, if_neg (fun q => c4 q.2.1), List.append_nil] at ihs9
                exact ihs9 f hf
              · refine x_iload dX8_layWorlds_98 rfl ?_
                refine x_iload dX8_layWorlds_100 rfl ?_
                refine n_iand dX8_layWorlds_102 ?_
                have hand : s &&& usedW ((lev T p).getD i 0) < 256 := Nat.lt_of_le_of_lt Nat.and_le_right hus
                refine n_if_ne (tgt := 129) dX8_layWorlds_103 (by decide) (by omega) (fun c5 => ?_) (fun c5 => ?_)
                · refine n_ii5 (w := 1) dX8_layWorlds_129 (by decide) (by decide) rfl ?_
                  refine x_goto (tgt := 71) dX8_layWorlds_132 (by decide) ?_
                  rw [extTo, if_neg (fun q => c5 q.2.2), List.append_nil] at ihs9
                  exact ihs9 f hf
                · rw [extTo, if_pos ⟨h1, c4, c5⟩, ← List.append_assoc, List.length_append] at ihs9 hroom
                  simp only [List.length_cons, List.length_nil] at hroom
                  refine x_aload_n dX8_layWorlds_106 rfl ?_
                  refine x_getf dX8_layWorlds_107 flX8_70 mH_a rfl ?_
                  refine x_iload_n dX8_layWorlds_110 rfl ?_
                  refine x_aload_n dX8_layWorlds_111 rfl ?_
                  refine x_getf dX8_layWorlds_112 flX8_55 mH_a rfl ?_
                  refine x_iload_n dX8_layWorlds_115 rfl ?_
                  refine m_iald (j := i) dX8_layWorlds_116 rfl (by simp only [mLen]; omega) (by decide) ?_
                  rw [ev]
                  refine x_iload dX8_layWorlds_117 rfl ?_
                  refine x_bipush (v := nI 8) dX8_layWorlds_119 (by decide) ?_
                  refine x_iload_n dX8_layWorlds_121 rfl ?_
                  refine n_imul dX8_layWorlds_122 ?_
                  refine n_ishl (y := 8 * p) dX8_layWorlds_123 (by omega) ?_
                  refine n_ior dX8_layWorlds_124 ?_
                  refine m_iast dX8_layWorlds_125 rfl (by simp only [mLen]; omega) (by decide) ?_
                  refine x_eqA (A' := va_up (va_up A 16 g) 21 (va_up f (levTo T p (lev T p) i ++ extTo T p ((lev T p).getD i 0) s).length ((lev T p).getD i 0 ||| s * 2 ^ (8 * p)))) (by funext k j; simp only [va_up, ite_app]; grind) ?_
                  refine n_ii2 (w := 1) dX8_layWorlds_126 (by decide) (by decide) rfl ?_
                  refine n_ii5 (w := 1) dX8_layWorlds_129 (by decide) (by decide) rfl ?_
                  refine x_goto (tgt := 71) dX8_layWorlds_132 (by decide) ?_
                  exact ihs9 _ (hf.push rfl _)
          have hs0 := sloop 1 (Nat.one_le_two_pow) (Nat.le_refl _) f
          have ee : extTo T p ((lev T p).getD i 0) 1 = [] := by simp [extTo]
          rw [ee, List.append_nil] at hs0
          exact hs0 hf
      exact wloop 0 (Nat.zero_le _) f _ _ (fun j hj => absurd hj (Nat.not_lt_zero _))
  exact key 0 (Nat.zero_le _) (A 21) _ _ _ _ _ (fun j hj => by
    have : j = 0 := by simp [lev] at hj; exact hj
    subst this
    exact up_eq _ _ _)
end ZM8
