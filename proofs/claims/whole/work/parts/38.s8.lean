/-- the sets of one or two things below hi, as the class meets them -/
def pr2 (hi lo : Nat) : Nat := 2 ^ hi ||| 2 ^ lo
def sets2 (m : Nat) : List Nat := (List.range m).flatMap (fun hi => (List.range (hi + 1)).map (pr2 hi))
theorem sets2_ok : ∀ m, m ≤ 8 → ∀ z, z < 3 → 1 ≤ z → (sets2 m).filter (fun s => pop s == z) = (List.range (2 ^ m)).filter (fun s => pop s == z) := by decide +kernel
theorem extTo_range (T : zT) (p x : Nat) : ∀ N, extTo T p x N = ((List.range N).filter (fun s => decide (1 ≤ s ∧ pop s = T 10 p ∧ s &&& usedW x = 0))).map (fun s => x ||| s * 2 ^ (8 * p))
  | 0 => rfl
  | N + 1 => by
    rw [extTo, extTo_range T p x N, List.range_succ, List.filter_append, List.map_append]
    congr 1
    by_cases h : 1 ≤ N ∧ pop N = T 10 p ∧ N &&& usedW x = 0
    · rw [if_pos h, List.filter_cons_of_pos (by simpa using h)]; rfl
    · rw [if_neg h, List.filter_cons_of_neg (by simpa using h)]; rfl
def okS (T : zT) (p u : Nat) (s : Nat) : Bool := s &&& u == 0 && pop s == T 10 p
theorem extTo_sets {T : zT} {p x : Nat} (h2 : T 2 0 ≤ 8) (hz : 1 ≤ T 10 p ∧ T 10 p ≤ 2) : extTo T p x (2 ^ T 2 0) = ((sets2 (T 2 0)).filter (okS T p (usedW x))).map (fun s => x ||| s * 2 ^ (8 * p)) := by
  rw [extTo_range]
  congr 1
  have h1 : (sets2 (T 2 0)).filter (okS T p (usedW x)) = ((sets2 (T 2 0)).filter (fun s => pop s == T 10 p)).filter (fun s => s &&& usedW x == 0) := by
    rw [List.filter_filter]; rfl
  rw [h1, sets2_ok _ h2 _ (by omega) hz.1, List.filter_filter]
  refine List.filter_congr (fun s hs => ?_)
  by_cases h0 : s = 0
  · subst h0
    have : pop 0 = 0 := rfl
    simp [this]; omega
  · have : 1 ≤ s := by omega
    simp only [this, true_and, Bool.decide_and]
    rw [Bool.and_comm]
    rfl
/-- the fair worlds that a code grows to, by d more parcels -/
def dfs (T : zT) : Nat → Nat → Nat → List Nat
  | 0, _, x => if fairT T x then [x] else []
  | d + 1, p, x => ((sets2 (T 2 0)).filter (okS T p (usedW x))).flatMap (fun s => dfs T d (p + 1) (x ||| s * 2 ^ (8 * p)))
theorem levTo_flat (T : zT) (p : Nat) (L : List Nat) : ∀ i, i ≤ L.length → levTo T p L i = (L.take i).flatMap (fun x => extTo T p x (2 ^ T 2 0))
  | 0, _ => rfl
  | i + 1, hi => by
    rw [levTo, levTo_flat T p L i (by omega), take_succ' (by omega), List.flatMap_append]
    simp
theorem filTo_flat (T : zT) (L : List Nat) : ∀ i, i ≤ L.length → filTo T L i = (L.take i).flatMap (fun x => if fairT T x then [x] else [])
  | 0, _ => rfl
  | i + 1, hi => by
    rw [filTo, filTo_flat T L i (by omega), take_succ' (by omega), List.flatMap_append]
    simp
theorem lev_dfs {T : zT} (h2 : T 2 0 ≤ 8) (hz : ∀ p, p < T 7 0 → 1 ≤ T 10 p ∧ T 10 p ≤ 2) : ∀ d p, p + d = T 7 0 → wl T = (lev T p).flatMap (dfs T d p)
  | 0, p, h => by
    unfold wl
    rw [filTo_flat T _ _ (Nat.le_refl _), List.take_length, ← h]
    rfl
  | d + 1, p, h => by
    rw [lev_dfs h2 hz d (p + 1) (by omega), lev, levTo_flat T p _ _ (Nat.le_refl _), List.take_length, List.flatMap_assoc]
    congr 1
    funext x
    rw [extTo_sets h2 (hz p (by omega)), dfs]
    generalize (sets2 (T 2 0)).filter (okS T p (usedW x)) = l
    induction l with
    | nil => rfl
    | cons a l ih => rw [List.map_cons, List.flatMap_cons, List.flatMap_cons, ih]
theorem wl_dfs {T : zT} (h2 : T 2 0 ≤ 8) (hz : ∀ p, p < T 7 0 → 1 ≤ T 10 p ∧ T 10 p ≤ 2) : wl T = dfs T (T 7 0) 0 0 := by
  rw [lev_dfs h2 hz (T 7 0) 0 (by omega)]
  simp [lev]
theorem lev_next {T : zT} {p x s : Nat} (h2 : T 2 0 ≤ 8) (hx : x ∈ lev T p) (hs : 1 ≤ s ∧ s < 2 ^ T 2 0) (ho : okS T p (usedW x) s = true) : x ||| s * 2 ^ (8 * p) ∈ lev T (p + 1) := by
  rw [lev, levTo_flat T p _ _ (Nat.le_refl _), List.take_length]
  refine List.mem_flatMap.mpr ⟨x, hx, ?_⟩
  unfold okS at ho
  rw [Bool.and_eq_true, beq_iff_eq, beq_iff_eq] at ho
  exact extTo_mem.mpr ⟨s, hs, ho.2, ho.1, rfl⟩
/-- what the two loops have met at hi, lo -/
def mO (T : zT) (p u : Nat) (F : Nat → List Nat) (hi : Nat) : List Nat := ((sets2 hi).filter (okS T p u)).flatMap F
def mI (T : zT) (p u : Nat) (F : Nat → List Nat) (hi lo : Nat) : List Nat := (((List.range lo).map (pr2 hi)).filter (okS T p u)).flatMap F
theorem mI_succ {T : zT} {p u : Nat} {F : Nat → List Nat} {hi lo : Nat} : mI T p u F hi (lo + 1) = mI T p u F hi lo ++ (if okS T p u (pr2 hi lo) then F (pr2 hi lo) else []) := by
  unfold mI
  rw [List.range_succ, List.map_append, List.filter_append, List.flatMap_append]
  congr 1
  by_cases h : okS T p u (pr2 hi lo) = true
  · simp [h]
  · simp [h]
theorem mO_succ {T : zT} {p u : Nat} {F : Nat → List Nat} {hi : Nat} : mO T p u F (hi + 1) = mO T p u F hi ++ mI T p u F hi (hi + 1) := by
  unfold mO mI
  rw [show sets2 (hi + 1) = sets2 hi ++ (List.range (hi + 1)).map (pr2 hi) by unfold sets2; rw [List.range_succ (n := hi), List.flatMap_append, List.flatMap_cons, List.flatMap_nil, List.append_nil, ← List.range_succ], List.filter_append, List.flatMap_append]
theorem mI_le {T : zT} {p u : Nat} {F : Nat → List Nat} {hi : Nat} : ∀ d lo, (mI T p u F hi lo).length ≤ (mI T p u F hi (lo + d)).length
  | 0, _ => Nat.le_refl _
  | d + 1, lo => by
    have := mI_le (T := T) (p := p) (u := u) (F := F) (hi := hi) d lo
    rw [show lo + (d + 1) = (lo + d) + 1 from rfl, mI_succ, List.length_append]
    omega
theorem mO_le {T : zT} {p u : Nat} {F : Nat → List Nat} : ∀ d hi, (mO T p u F hi).length ≤ (mO T p u F (hi + d)).length
  | 0, _ => Nat.le_refl _
  | d + 1, hi => by
    have := mO_le (T := T) (p := p) (u := u) (F := F) d hi
    rw [show hi + (d + 1) = (hi + d) + 1 from rfl, mO_succ, List.length_append]
    omega
