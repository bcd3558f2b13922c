section ZK7
variable {G : zG} {n : Nat} {h0 : zF} {L : zSh} {V V' : Nat → Nat → Nat} {c x : Nat} {P J I I' : Nat → Nat} {X A A' : Nat → Nat → Nat} {S S' : Nat → Nat}
theorem scR.cg (h : scR V x S) (h8 : S 8 ≤ 12) (e : ∀ k, k < 21 → S' k = S k) : scR V x S' := by
  obtain ⟨a1, a2, a3, a4⟩ := h
  refine ⟨a1, fun p hp => ?_, by rw [e 8 (by decide)]; exact a3, fun k hk => ?_⟩
  · rw [e p (by omega), e (4 + p) (by omega)]; exact a2 p hp
  · rw [e 8 (by decide)] at hk
    rw [e (9 + k) (by omega)]; exact a4 k hk
theorem scOK.cg (h : scOK A S) (h7 : A 7 0 ≤ 4) (e : ∀ k, k < 21 → S' k = S k) : scOK A S' := by
  obtain ⟨⟨a1, a2⟩, a3, a4, a5, a6⟩ := h
  refine ⟨⟨by rw [e 8 (by decide)]; exact a1, fun k hk => ?_⟩, fun p hp => ?_, fun p q hp hq hn => ?_, fun p h1 h2 => ?_, fun p hp => ?_⟩
  · rw [e 8 (by decide)] at hk
    rw [e (9 + k) (by omega)]; exact a2 k hk
  · rw [e p (by omega)]; exact a3 p hp
  · rw [e p (by omega), e q (by omega)]; exact a4 p q hp hq hn
  · rw [e p (by omega)]; exact a5 p h1 h2
  · rw [e (4 + p) (by omega)]; exact a6 p hp
theorem rwE_up {k : Nat} {f : Nat → Nat} (hk : 15 ≤ k) : rwE A (va_up A k f) := fun j _ h => up_ne _ _ (by omega)
theorem rwE.tr {A'' : Nat → Nat → Nat} (h1 : rwE A A') (h2 : rwE A' A'') : rwE A A'' := fun k a b => (h2 k a b).trans (h1 k a b)
theorem fitT_S (e : ∀ j, S' (9 + j) = S (9 + j)) (w : Nat) : ∀ k, fitT A S' w k = fitT A S w k
  | 0 => rfl
  | k + 1 => by unfold fitT; rw [fitT_S e w k, e k]
/-- what scenes but the answers change leaves the remaining worlds -/
theorem kSt.now (h : kSt V c P I A) (r : rwE A A') (e8 : A' 17 8 = A 17 8) (e : ∀ j, A' 17 (9 + j) = A 17 (9 + j)) (e16 : A' 16 = A 16) (i17 : I' 17 = I 17) : kSt V c P I' A' := by
  have hf : ∀ w k, fitT A' (A' 17) w k = fitT A (A 17) w k := fun w k => by rw [r.fit, fitT_S e]
  have hrem : remL A' (A' 17 8) = remL A (A 17 8) := by
    unfold remL; rw [r.wlE, e8]; congr 1; funext w; rw [hf]
  have hjd : ∀ q k, jdF I' A' q k = jdF I A q k := by
    intro q
    induction q with
    | zero => intro k; rfl
    | succ q ih =>
      intro k
      unfold jdF
      have : nLeft A' (k + 1) (I' 17) = nLeft A (k + 1) (I 17) := by
        rw [i17]; unfold nLeft lf; exact zsum_congr 0 _ (fun w _ => by rw [hf, e16])
      rw [this, ih]
  unfold kSt at h ⊢
  rw [hrem, hjd, e8]; exact h
theorem kUn_sc (hL : kL L c P) (h : kUn V c I A) : ∀ j, j < 8 → zSc L (V (c + 49) j) := by
  intro j hj
  obtain ⟨i, hi, e⟩ := h.2.2.1 j hj
  rw [e]; exact hL.2.2.2.2.2.2.2.1.2.2 i hi
/-- what a push needs, and what it leaves -/
theorem un_push (hL : kL L c P) (hU : kUn V c I A) : V (c + 48) 1 ≤ 8 ∧ ∀ j, j < 8 → V (c + 49) j + 3 < c + 44 ∨ c + 44 + 3 < V (c + 49) j := by
  refine ⟨by rw [hU.1]; exact hU.2.1, fun j hj => ?_⟩
  obtain ⟨i, hi, e⟩ := hU.2.2.1 j hj
  omega
theorem kUn_push (hU : kUn V c I A) (hN : kNw V c A) (h7 : A 7 0 ≤ 4) (f1 : ∀ b, b ≠ c + 48 → b ≠ c + 49 → (b < rotR 8 (V (c + 48) 1) (V (c + 49)) (rotU 8 (V (c + 48) 1)) ∨ rotR 8 (V (c + 48) 1) (V (c + 49)) (rotU 8 (V (c + 48) 1)) + 3 < b) → V' b = V b) (f2 : V' (c + 48) 1 = rotU 8 (V (c + 48) 1) + 1) (f3 : ∀ j, j < 8 → V' (c + 49) j = rotR 8 (V (c + 48) 1) (V (c + 49)) j) (f4 : scEq V' (rotR 8 (V (c + 48) 1) (V (c + 49)) (rotU 8 (V (c + 48) 1))) V (c + 44)) : (∀ b, (b < c + 48 ∨ c + 82 ≤ b) → V' b = V b) ∧ kUn V' c (va_up I 20 (ntU (I 20))) (va_up A 18 (ntB (A 18) (A 17) (I 20))) := by
  obtain ⟨a1, a2, a3, a4, a5⟩ := hU
  have hin : ∀ j, j < 8 → c + 50 ≤ V (c + 49) j ∧ V (c + 49) j + 3 < c + 82 := fun j hj => by obtain ⟨i, hi, e⟩ := a3 j hj; omega
  have hap : ∀ j j', j < 8 → j' < 8 → j ≠ j' → V (c + 49) j + 3 < V (c + 49) j' ∨ V (c + 49) j' + 3 < V (c + 49) j := by
    intro j j' hj hj' hn
    obtain ⟨i, hi, e⟩ := a3 j hj
    obtain ⟨i', hi', e'⟩ := a3 j' hj'
    have : V (c + 49) j ≠ V (c + 49) j' := fun z => hn (a4 j j' hj hj' z)
    omega
  rw [a1] at f1 f2 f3 f4
  have r := rwE_up (A := A) (f := ntB (A 18) (A 17) (I 20)) (k := 18) (by decide)
  have e18 : va_up A 18 (ntB (A 18) (A 17) (I 20)) 18 = ntB (A 18) (A 17) (I 20) := up_eq _ _ _
  by_cases h8 : I 20 < 8
  · have eu : rotU 8 (I 20) = I 20 := if_pos h8
    have er : ∀ j, rotR 8 (I 20) (V (c + 49)) j = V (c + 49) j := fun j => if_pos h8
    rw [eu, er] at f1 f4
    rw [eu] at f2
    have f3 : ∀ j, j < 8 → V' (c + 49) j = V (c + 49) j := fun j hj => (f3 j hj).trans (er j)
    have hi := hin (I 20) h8
    refine ⟨fun b hb => f1 b (by omega) (by omega) (by omega), ?_, ?_, ?_, ?_, ?_⟩
    · rw [f2, up_eq]; unfold ntU; rw [if_neg (by omega)]
    · rw [up_eq]; unfold ntU; rw [if_neg (by omega)]; omega
    · intro j hj; rw [f3 j hj]; exact a3 j hj
    · intro j j' hj hj'; rw [f3 j hj, f3 j' hj']; exact a4 j j' hj hj'
    · intro u hu
      rw [up_eq] at hu
      unfold ntU at hu
      rw [if_neg (by omega)] at hu
      rw [e18, f3 u (by omega)]
      by_cases e : u = I 20
      · subst e
        have eS : ∀ k, k < 21 → ntB (A 18) (A 17) (I 20) (21 * I 20 + k) = A 17 k := by
          intro k hk
          unfold ntB
          rw [if_neg (by omega), if_pos (by omega)]
          congr 1; omega
        exact ⟨(hN.1.eq hN.2.1.1 f4).cg hN.2.1.1 eS, r.sc (hN.2.cg h7 eS)⟩
      · have eS : ∀ k, k < 21 → ntB (A 18) (A 17) (I 20) (21 * u + k) = A 18 (21 * u + k) := by
          intro k hk
          unfold ntB
          rw [if_neg (by omega), if_neg (by omega)]
        have ha := hap u (I 20) (by omega) h8 e
        have hu' := hin u (by omega)
        have hs := a5 u (by omega)
        refine ⟨(hs.1.fr ?_ ?_ ?_ ?_).cg hs.2.1.1 eS, r.sc (hs.2.cg h7 eS)⟩ <;> exact f1 _ (by omega) (by omega) (by omega)
  · have h8 : I 20 = 8 := by omega
    rw [h8] at f1 f2 f3 f4
    have eu : rotU 8 8 = 7 := rfl
    have er : ∀ j, rotR 8 8 (V (c + 49)) j = if j + 1 < 8 then V (c + 49) (j + 1) else V (c + 49) 0 := fun j => rfl
    have er7 : rotR 8 8 (V (c + 49)) 7 = V (c + 49) 0 := rfl
    rw [eu, er7] at f1 f4
    rw [eu] at f2
    have f3 : ∀ j, j < 8 → V' (c + 49) j = if j + 1 < 8 then V (c + 49) (j + 1) else V (c + 49) 0 := fun j hj => (f3 j hj).trans (er j)
    have hi := hin 0 (by decide)
    refine ⟨fun b hb => f1 b (by omega) (by omega) (by omega), ?_, ?_, ?_, ?_, ?_⟩
    · rw [f2, up_eq, h8]; rfl
    · rw [up_eq, h8]; exact Nat.le_refl _
    · intro j hj
      rw [f3 j hj]
      split
      · exact a3 _ (by assumption)
      · exact a3 0 (by decide)
    · intro j j' hj hj'
      rw [f3 j hj, f3 j' hj']
      split
      · split
        · intro z; have := a4 _ _ (by omega) (by omega) z; omega
        · intro z; have := a4 _ _ (by omega) (by omega) z; omega
      · split
        · intro z; have := a4 _ _ (by omega) (by omega) z; omega
        · intro _; omega
    · intro u hu
      rw [up_eq, h8] at hu
      have hu : u < 8 := hu
      rw [e18, f3 u hu, h8]
      by_cases e : u = 7
      · subst e
        have eS : ∀ k, k < 21 → ntB (A 18) (A 17) 8 (21 * 7 + k) = A 17 k := by
          intro k hk
          unfold ntB
          rw [if_pos rfl, if_neg (by omega), if_pos (by omega), show 21 * 7 + k - 147 = k by omega]
        rw [h8] at r
        exact ⟨(hN.1.eq hN.2.1.1 f4).cg hN.2.1.1 eS, r.sc (hN.2.cg h7 eS)⟩
      · rw [if_pos (by omega)]
        have eS : ∀ k, k < 21 → ntB (A 18) (A 17) 8 (21 * u + k) = A 18 (21 * (u + 1) + k) := by
          intro k hk
          unfold ntB
          rw [if_pos rfl, if_pos (by omega), show 21 + (21 * u + k) = 21 * (u + 1) + k by omega]
        have ha := hap (u + 1) 0 (by omega) (by decide) (by omega)
        have hu' := hin (u + 1) (by omega)
        have hs := a5 (u + 1) (by omega)
        rw [h8] at r
        refine ⟨(hs.1.fr ?_ ?_ ?_ ?_).cg hs.2.1.1 eS, r.sc (hs.2.cg h7 eS)⟩ <;> exact f1 _ (by omega) (by omega) (by omega)
/-- what changes the scene now, behind a push: the answers stay or the mark is set -/
theorem kV.nt {u : Nat} {f g : Nat → Nat} (hL : kL L c P) (hV : kV V c P J X I A) (e : ∀ b, (b < c + 44 ∨ c + 82 ≤ b) → b ≠ c → V' b = V b) (hU : kUn V' c (va_up I 20 u) (va_up A 18 f)) (hN : kNw V' c (va_up (va_up A 18 f) 17 g)) (hs : kSt V' c P (va_up I 20 u) (va_up (va_up A 18 f) 17 g)) : kV V' c P J X (va_up I 20 u) (va_up (va_up A 18 f) 17 g) := by
  have hP := hL.2.2.2.2.2.2.2.2.2.2.2.2.1
  have r : rwE A (va_up (va_up A 18 f) 17 g) := (rwE_up (by decide)).tr (rwE_up (by decide))
  have r2 : rwE (va_up A 18 f) (va_up (va_up A 18 f) 17 g) := rwE_up (by decide)
  obtain ⟨a1, a2, a3, a4, a5, a6, a7⟩ := hV
  exact ⟨(a1.fr (e _ (by omega) (by omega)) (e _ (by omega) (by omega)) (e _ (by omega) (by omega))).co rfl rfl, a2.co r, (a3.fr (e _ (by omega) (by omega)) (e _ (by omega) (by omega))).co r rfl rfl, hN, hU.co r2 rfl rfl, (a6.fr (fun b h1 h2 => e _ (by omega) (by omega))).co r rfl rfl, hs⟩
theorem kSt.fr2 (h : kSt V c P I A) (hL : kL L c P) (e : ∀ b, (b < c + 44 ∨ c + 82 ≤ b) → V' b = V b) : kSt V' c P I A := by
  have hP := hL.2.2.2.2.2.2.2.2.2.2.2.2.1
  exact h.fr (e _ (by omega)) (e _ (by omega)) (e _ (by omega))
end ZK7
