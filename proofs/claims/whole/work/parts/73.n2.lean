def txS (c : Nat) : Nat → ((Nat → Nat) → zC)
  | 0 => sX (c + 2) (c + 3)
  | 1 => sC 200
  | _ => sA 4
def woS (x : Nat) : Nat → ((Nat → Nat) → zC)
  | 0 => sW (x + 1)
  | _ => sA 0
def fiS (x : Nat) : Nat → ((Nat → Nat) → zC)
  | 0 => sFi x
  | 1 => sA 256
  | 2 => sA 64
  | 3 => sA 65
  | 4 => sA 64
  | _ => sA 256
def scS (x : Nat) : Nat → ((Nat → Nat) → zC)
  | 0 => sS x
  | 1 => sA 4
  | _ => sA 12
def ssS (x len i : Nat) : (Nat → Nat) → zC := if i = 0 then sSs (x + 1) else if i = 1 then sR len else scS (x + 2 + 4 * ((i - 2) / 4)) ((i - 2) % 4)
/-- the shapes of the class's first cells, by their places behind it -/
def cT (c k : Nat) : Option ((Nat → Nat) → zC) := if k < 1 then some (sK c (c + 4) (c + 18)) else if k < 4 then some (txS c (k - 1)) else if k < 32 then none else if k < 34 then some (woS (c + 32) (k - 32)) else if k < 36 then some (woS (c + 34) (k - 34)) else if k < 38 then some (woS (c + 36) (k - 36)) else if k < 44 then some (fiS (c + 38) (k - 38)) else if k < 48 then some (scS (c + 44) (k - 44)) else if k < 82 then some (ssS (c + 48) 8 (k - 48)) else if k < 92 then some (ssS (c + 82) 2 (k - 82)) else some (sLA 256)
def cL (c : Nat) : zSh := fun b => if c ≤ b ∧ b < c + 93 then cT c (b - c) else none
def V0 (c : Nat) : Nat → Nat → Nat := fun b j => if b = c then (if j = 11 then 1 else if j = 12 then 4294967292 else 0) else if b = c + 49 then c + 50 + 4 * j else if b = c + 83 then c + 84 + 4 * j else 0
/-- the first cells themselves -/
def cs0 (c k : Nat) : zC := if k < 4 then txC (c + 1) (k - 1) else if k < 18 then tC (c + 4) J0 X0 (k - 4) else if k < 32 then tC (c + 18) J0 X0 (k - 18) else if k < 34 then woC (c + 32) (k - 32) else if k < 36 then woC (c + 34) (k - 34) else if k < 38 then woC (c + 36) (k - 36) else if k < 44 then fiC (c + 38) (k - 38) else if k < 48 then scC (c + 44) (k - 44) else if k < 82 then ssC (c + 48) 8 (k - 48) else if k < 92 then ssC (c + 82) 2 (k - 82) else lA 256 (fun _ => 0)
section ZN4
variable {c : Nat} {h : zF}
theorem cL_k {k : Nat} (hk : k < 93) : cL c (c + k) = cT c k := by
  unfold cL; rw [if_pos (by omega), show c + k - c = k by omega]
theorem V0_z {k : Nat} (h0 : k ≠ 0) (h1 : k ≠ 49) (h2 : k ≠ 83) : V0 c (c + k) = fun _ => 0 := by
  funext j; unfold V0; rw [if_neg (by omega), if_neg (by omega), if_neg (by omega)]
theorem scn_eq (x : Nat) : ∀ i, scS x i (fun _ => 0) = scC x i
  | 0 => rfl
  | 1 => rfl
  | _ + 2 => rfl
theorem ss_eq {x len i : Nat} {f : Nat → Nat} (h1 : i = 1 → f = fun j => x + 2 + 4 * j) (h2 : i ≠ 1 → f = fun _ => 0) : ssS x len i f = ssC x len i := by
  unfold ssS ssC
  by_cases e0 : i = 0
  · rw [if_pos e0, if_pos e0, h2 (by omega)]
  · rw [if_neg e0, if_neg e0]
    by_cases e1 : i = 1
    · rw [if_pos e1, if_pos e1, h1 e1]
    · rw [if_neg e1, if_neg e1, h2 e1]
      exact scn_eq _ _
def fsF (c : Nat) : List Value := [.ref (c + 1), .ref (c + 4), .ref (c + 18), .ref (c + 32), .ref (c + 34), .ref (c + 36), .ref (c + 38), .ref (c + 44), .ref (c + 48), .ref (c + 82), .ref (c + 92), .int (nI 1), .int (nI 4294967292)]
theorem first_eq : blkR h c 93 7 (fsF c) (cs0 c) = gH (tH (tH h (c + 4) J0 X0) (c + 18) J0 X0) (cL c) (V0 c) := by
  funext b
  unfold blkR
  by_cases e : b = c
  · subst e
    have hb : cL b b = some (sK b (b + 4) (b + 18)) := cL_k (c := b) (k := 0) (by decide)
    rw [if_pos rfl, g_c hb]
    have e1 : V0 b b 11 = 1 := by unfold V0; rw [if_pos rfl]; rfl
    have e2 : V0 b b 12 = 4294967292 := by unfold V0; rw [if_pos rfl]; rfl
    show _ = some (Sum.inr (7, [_, _, _, _, _, _, _, _, _, _, _, Value.int (nI (V0 b b 11)), Value.int (nI (V0 b b 12))]))
    rw [e1, e2]; rfl
  · rw [if_neg e]
    by_cases e2 : c < b ∧ b < c + 93
    · rw [if_pos e2]
      obtain ⟨k, rfl⟩ := Nat.exists_eq_add_of_le (Nat.le_of_lt e2.1)
      have hk : k < 93 := by omega
      have hk0 : k ≠ 0 := by omega
      rw [show c + k - c = k by omega]
      have hl := cL_k (c := c) hk
      unfold cT at hl
      rw [if_neg (by omega)] at hl
      unfold cs0
      by_cases q1 : k < 4
      · rw [if_pos q1] at hl ⊢
        rw [g_c hl, V0_z hk0 (by omega) (by omega)]
        rcases (show k = 1 ∨ k = 2 ∨ k = 3 by omega) with rfl | rfl | rfl <;> rfl
      rw [if_neg q1] at hl ⊢
      by_cases q2 : k < 18
      · rw [if_pos (by omega)] at hl
        rw [if_pos q2, g_out hl, tH_out (by omega)]
        unfold tH
        rw [if_pos (by omega), show c + k - (c + 4) = k - 4 by omega]
      rw [if_neg q2]
      by_cases q3 : k < 32
      · rw [if_pos q3] at hl
        rw [if_pos q3, g_out hl]
        unfold tH
        rw [if_pos (by omega), show c + k - (c + 18) = k - 18 by omega]
      rw [if_neg q3] at hl ⊢
      by_cases q4 : k < 34
      · rw [if_pos q4] at hl ⊢
        rw [g_c hl, V0_z hk0 (by omega) (by omega)]
        rcases (show k = 32 ∨ k = 33 by omega) with rfl | rfl <;> rfl
      rw [if_neg q4] at hl ⊢
      by_cases q5 : k < 36
      · rw [if_pos q5] at hl ⊢
        rw [g_c hl, V0_z hk0 (by omega) (by omega)]
        rcases (show k = 34 ∨ k = 35 by omega) with rfl | rfl <;> rfl
      rw [if_neg q5] at hl ⊢
      by_cases q6 : k < 38
      · rw [if_pos q6] at hl ⊢
        rw [g_c hl, V0_z hk0 (by omega) (by omega)]
        rcases (show k = 36 ∨ k = 37 by omega) with rfl | rfl <;> rfl
      rw [if_neg q6] at hl ⊢
      by_cases q7 : k < 44
      · rw [if_pos q7] at hl ⊢
        rw [g_c hl, V0_z hk0 (by omega) (by omega)]
        rcases (show k = 38 ∨ k = 39 ∨ k = 40 ∨ k = 41 ∨ k = 42 ∨ k = 43 by omega) with rfl | rfl | rfl | rfl | rfl | rfl <;> rfl
      rw [if_neg q7] at hl ⊢
      by_cases q8 : k < 48
      · rw [if_pos q8] at hl ⊢
        rw [g_c hl, V0_z hk0 (by omega) (by omega), scn_eq]
      rw [if_neg q8] at hl ⊢
      by_cases q9 : k < 82
      · rw [if_pos q9] at hl ⊢
        rw [g_c hl, ss_eq]
        · intro z
          rw [show c + k = c + 49 by omega]
          funext j; unfold V0; rw [if_neg (by omega), if_pos rfl]
        · intro z; exact V0_z hk0 (by omega) (by omega)
      rw [if_neg q9] at hl ⊢
      by_cases q10 : k < 92
      · rw [if_pos q10] at hl ⊢
        rw [g_c hl, ss_eq]
        · intro z
          rw [show c + k = c + 83 by omega]
          funext j; unfold V0; rw [if_neg (by omega), if_neg (by omega), if_pos rfl]
        · intro z; exact V0_z hk0 (by omega) (by omega)
      rw [if_neg q10] at hl ⊢
      rw [g_c hl, V0_z hk0 (by omega) (by omega)]
    · rw [if_neg e2]
      have hl : cL c b = none := by unfold cL; rw [if_neg (by omega)]
      rw [g_out hl, tH_out (by omega), tH_out (by omega)]
def P0 (c : Nat) : Nat → Nat := fun k => if k = 0 then c + 4 else if k = 1 then c + 18 else if k = 2 then c + 33 else if k = 3 then c + 35 else if k = 4 then c + 37 else 0
theorem ss_sc {x len i q : Nat} (hq : q < 4) : ssS x len (2 + 4 * i + q) = scS (x + 2 + 4 * i) q := by
  unfold ssS
  rw [if_neg (by omega), if_neg (by omega), show (2 + 4 * i + q - 2) / 4 = i by omega, show (2 + 4 * i + q - 2) % 4 = q by omega]
theorem kL_first : kL (cL c) c (P0 c) := by
  have u : ∀ i, i < 8 → ∀ q, q < 4 → cL c (c + 50 + 4 * i + q) = some (scS (c + 50 + 4 * i) q) := by
    intro i hi q hq
    rw [show c + 50 + 4 * i + q = c + (50 + 4 * i + q) by omega, cL_k (by omega)]
    unfold cT
    rw [if_neg (by omega), if_neg (by omega), if_neg (by omega), if_neg (by omega), if_neg (by omega), if_neg (by omega), if_neg (by omega), if_neg (by omega), if_pos (by omega), show 50 + 4 * i + q - 48 = 2 + 4 * i + q by omega, ss_sc hq]
  have v : ∀ i, i < 2 → ∀ q, q < 4 → cL c (c + 84 + 4 * i + q) = some (scS (c + 84 + 4 * i) q) := by
    intro i hi q hq
    rw [show c + 84 + 4 * i + q = c + (84 + 4 * i + q) by omega, cL_k (by omega)]
    unfold cT
    rw [if_neg (by omega), if_neg (by omega), if_neg (by omega), if_neg (by omega), if_neg (by omega), if_neg (by omega), if_neg (by omega), if_neg (by omega), if_neg (by omega), if_pos (by omega), show 84 + 4 * i + q - 82 = 2 + 4 * i + q by omega, ss_sc hq]
  refine ⟨cL_k (k := 0) (by decide), ⟨cL_k (k := 1) (by decide), cL_k (k := 2) (by decide), cL_k (k := 3) (by decide)⟩, ⟨cL_k (k := 32) (by decide), cL_k (k := 33) (by decide)⟩, ⟨cL_k (k := 34) (by decide), cL_k (k := 35) (by decide)⟩, ⟨cL_k (k := 36) (by decide), cL_k (k := 37) (by decide)⟩, ⟨cL_k (k := 38) (by decide), cL_k (k := 39) (by decide), cL_k (k := 40) (by decide), cL_k (k := 41) (by decide), cL_k (k := 42) (by decide), cL_k (k := 43) (by decide)⟩, ⟨cL_k (k := 44) (by decide), cL_k (k := 45) (by decide), cL_k (k := 46) (by decide), cL_k (k := 47) (by decide)⟩, ⟨cL_k (k := 48) (by decide), cL_k (k := 49) (by decide), fun i hi => ⟨u i hi 0 (by decide), u i hi 1 (by decide), u i hi 2 (by decide), u i hi 3 (by decide)⟩⟩, ⟨cL_k (k := 82) (by decide), cL_k (k := 83) (by decide), fun i hi => ⟨v i hi 0 (by decide), v i hi 1 (by decide), v i hi 2 (by decide), v i hi 3 (by decide)⟩⟩, cL_k (k := 92) (by decide), ?_, Or.inl ⟨rfl, rfl⟩, ?_, ?_⟩
  · intro y h1 h2
    obtain ⟨k, rfl⟩ := Nat.exists_eq_add_of_le (show c ≤ y by omega)
    rw [cL_k (by omega)]
    unfold cT
    rw [if_neg (by omega), if_neg (by omega), if_pos (by omega)]
  · show (c + 33 = c + 33 ∨ _) ∧ (c + 35 = c + 35 ∨ _) ∧ (c + 37 = c + 37 ∨ _) ∧ c + 33 ≠ c + 35 ∧ c + 33 ≠ c + 37 ∧ c + 35 ≠ c + 37
    omega
  · exact ⟨by show 0 < 1000000; decide, by show 0 < 1000000; decide, by show 0 < 1000000; decide⟩
end ZN4
