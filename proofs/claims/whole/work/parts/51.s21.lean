abbrev sFi (y : Nat) : (Nat → Nat) → zC := fun f => .inr (0, [.int (nI (f 0)), .int (nI (f 1)), .int (nI (f 2)), .int (nI (f 3)), .ref (y + 1), .ref (y + 2), .ref (y + 3), .ref (y + 4), .ref (y + 5)])
/-- a finder stands at y -/
def zFi (L : zSh) (y : Nat) : Prop := L y = some (sFi y) ∧ L (y + 1) = some (sA 256) ∧ L (y + 2) = some (sA 64) ∧ L (y + 3) = some (sA 65) ∧ L (y + 4) = some (sA 64) ∧ L (y + 5) = some (sA 256)
/-- the largest of the first k -/
def mx (g : Nat → Nat) : Nat → Nat
  | 0 => 0
  | k + 1 => max (mx g k) (g k)
theorem mx_ge {g : Nat → Nat} : ∀ {N q : Nat}, q < N → g q ≤ mx g N
  | N + 1, q, h => by
    unfold mx
    by_cases e : q = N
    · subst e; omega
    · have := mx_ge (g := g) (N := N) (q := q) (by omega); omega
theorem mx_mem {g : Nat → Nat} : ∀ N, mx g N = 0 ∨ ∃ q, q < N ∧ mx g N = g q
  | 0 => Or.inl rfl
  | N + 1 => by
    unfold mx
    by_cases e : mx g N ≤ g N
    · exact Or.inr ⟨N, by omega, by omega⟩
    · rcases mx_mem (g := g) N with h | ⟨q, hq, h⟩
      · omega
      · exact Or.inr ⟨q, by omega, by omega⟩
theorem mx_uniq {g : Nat → Nat} {N m : Nat} (h1 : ∀ q, q < N → g q ≤ m) (h2 : m = 0 ∨ ∃ q, q < N ∧ m = g q) : mx g N = m := by
  have a : m ≤ mx g N := by
    rcases h2 with h | ⟨q, hq, h⟩
    · omega
    · rw [h]; exact mx_ge hq
  have b : mx g N ≤ m := by
    rcases mx_mem (g := g) N with h | ⟨q, hq, h⟩
    · omega
    · rw [h]; exact h1 q hq
  omega
/-- how many of l answer so -/
def cnA (T : zT) (p sort : Nat) (l : List Nat) (q : Nat) : Nat := l.countP (fun x => ansF T p sort (sI x p) 0 == q)
def mxA (T : zT) (p sort : Nat) (l : List Nat) : Nat := mx (cnA T p sort l) 64
theorem mxA_le {T : zT} {p sort : Nat} {l : List Nat} : mxA T p sort l ≤ l.length := by
  unfold mxA
  rcases mx_mem (g := cnA T p sort l) 64 with h | ⟨q, hq, h⟩
  · omega
  · rw [h]; exact List.countP_le_length
/-- the class's choice, by the trials tried -/
def chO (T : zT) (l : List Nat) : Nat → Nat × Nat
  | 0 => (4294967292, l.length + 1)
  | k + 1 => if mxA T (k / 4) (k % 4) l < (chO T l k).2 then (k, mxA T (k / 4) (k % 4) l) else chO T l k
theorem chO_le {T : zT} {l : List Nat} : ∀ k, (chO T l k).2 ≤ l.length + 1
  | 0 => Nat.le_refl _
  | k + 1 => by
    have := chO_le (T := T) (l := l) k
    have h2 := mxA_le (T := T) (p := k / 4) (sort := k % 4) (l := l)
    unfold chO
    split
    · show mxA T (k / 4) (k % 4) l ≤ _
      omega
    · exact this
theorem cnt_step (f a : Nat → Nat) (s v : Nat) : ∀ l : List Nat, l.countP (fun x => decide (f x < s + 1) && (a (f x) == v)) = l.countP (fun x => decide (f x < s) && (a (f x) == v)) + (if a s = v then l.countP (fun x => f x == s) else 0)
  | [] => by simp
  | x :: l => by
    rw [List.countP_cons, List.countP_cons, List.countP_cons, cnt_step f a s v l]
    by_cases h1 : f x = s
    · by_cases h2 : a s = v
      · simp [h1, h2]; omega
      · simp [h1, h2]
    · by_cases h3 : f x < s
      · simp [h1, h3, show f x < s + 1 by omega]; split <;> omega
      · simp [h1, h3, show ¬ f x < s + 1 by omega]
section ZS25
variable {G : zG} {n : Nat} {h0 : zF} {L : zSh} {V : Nat → Nat → Nat} {y w r len t : Nat} {J : Nat → Nat} {X : Nat → Nat → Nat} {T : zT}
theorem ws_ne {l0 q : Nat} (hw : L w = some (sW r)) (hq : L q = some (sA l0)) : w ≠ q := by
  rintro rfl
  rw [hw] at hq
  have := congrFun (Option.some.inj hq) (fun _ => 0)
  cases this
theorem c_countSets {p : Nat} {l : List Nat} (hy : zFi L y) (hw : L w = some (sW r)) (hr : L r = some (sA len)) (hm : len < 2 ^ 31) (hl : isWs V w r l) (hln : l.length ≤ len) (hp : p < 4) (hry : r < y ∨ y + 5 < r) : zPv G MX0_countSets 2 [.ref y, .ref w, .int (nI p)] (gH h0 L V) n (fun h' => ∃ V', h' = gH h0 L V' ∧ (∀ b, b ≠ y + 1 → V' b = V b) ∧ ∀ s, s < 256 → V' (y + 1) s = l.countP (fun x => sI x p == s)) := by
  refine zCt.of rfl (Nat.le_of_ble_eq_true rfl) rfl ?_
  have hwy := ws_ne hw hy.2.1
  refine x_aload_n dX0_countSets_0 rfl ?_
  refine x_getf dX0_countSets_1 flX0_9 (g_c (And.left hy)) rfl ?_
  refine x_iconst (v := nI 0) dX0_countSets_4 (by decide) ?_
  refine x_cSV2 dX0_countSets_5 lkX0_56 mdJ7_fill_53178 stJ7_fill_53178 (by decide) (c_fillI (g_c hy.2.1) (by decide)) (Nat.le_of_ble_eq_true rfl) ⟨Nat.le_refl _, Nat.le_refl _⟩ ?_
  rintro h' rfl
  refine x_eqH (g_up hy.2.1 _) ?_
  refine x_iconst (v := nI 0) dX0_countSets_8 (by decide) ?_
  refine x_is3 dX0_countSets_9 (by decide) rfl ?_
  have key : ∀ i, i ≤ l.length → ∀ V' : Nat → Nat → Nat, (∀ b, b ≠ y + 1 → V' b = V b) → (∀ s, s < 256 → V' (y + 1) s = (l.take i).countP (fun x => sI x p == s)) → zEx G MX0_countSets 2 0 0 10 [some (.ref y), some (.ref w), some (.int (nI p)), some (.int (nI i))] [] (gH h0 L V') n (0, 0) (fun r1 h' n' => r1 = none ∧ (∃ V', h' = gH h0 L V' ∧ (∀ b, b ≠ y + 1 → V' b = V b) ∧ ∀ s, s < 256 → V' (y + 1) s = l.countP (fun x => sI x p == s)) ∧ n' = n) := by
    refine z_up l.length ?_
    intro i hi ih V' g1 g2
    have ew : V' w 1 = l.length := by rw [g1 w hwy]; exact hl.1
    refine x_iload_n dX0_countSets_10 rfl ?_
    refine x_aload_n dX0_countSets_11 rfl ?_
    refine x_getf dX0_countSets_12 flX0_31 (g_c hw) rfl ?_
    rw [ew]
    refine n_icmp_ge (tgt := 41) dX0_countSets_15 (by decide) (by omega) (by omega) (fun c1 => ?_) (fun c1 => ?_)
    · have hie : i = l.length := by omega
      subst hie
      rw [List.take_length] at g2
      refine x_vret dX0_countSets_41 rfl ⟨Nat.le_refl _, Nat.le_refl _⟩ ?_
      exact ⟨rfl, ⟨V', rfl, g1, g2⟩, rfl⟩
    · have hi' : i < l.length := by omega
      have ev : V' r i = l.getD i 0 := by rw [g1 r (by omega)]; exact hl.2 i hi'
      have hsl := sI_lt (l.getD i 0) p
      refine x_aload_n dX0_countSets_18 rfl ?_
      refine x_getf dX0_countSets_19 flX0_9 (g_c (And.left hy)) rfl ?_
      refine x_aload_n dX0_countSets_22 rfl ?_
      refine x_iload_n dX0_countSets_23 rfl ?_
      refine x_cVi1 dX0_countSets_24 lkX0_62 mdX6_take isX6_take rfl rfl (g_c hw) (by decide) (c_take hw hr hm (by omega)) (Nat.le_of_ble_eq_true rfl) ⟨Nat.le_refl _, Nat.le_refl _⟩ ?_
      rw [ev]
      refine x_iload_n dX0_countSets_27 rfl ?_
      refine x_cSi2 dX0_countSets_28 lkX0_66 mdX7_inside stX7_inside (by decide) (c_inside _ hp) (Nat.le_of_ble_eq_true rfl) ⟨Nat.le_refl _, Nat.le_refl _⟩ ?_
      refine x_iconst (v := nI 1) dX0_countSets_31 (by decide) ?_
      refine x_cSV3 dX0_countSets_32 lkX0_69 mdX7_raise stX7_raise (by decide) (c_raiseN (g_c hy.2.1) (by decide) hsl) (Nat.le_of_ble_eq_true rfl) ⟨Nat.le_refl _, Nat.le_refl _⟩ ?_
      rintro h' rfl
      refine x_eqH (g_up hy.2.1 _) ?_
      refine n_ii3 (w := 1) dX0_countSets_35 (by decide) (by decide) rfl ?_
      refine x_goto (tgt := 10) dX0_countSets_38 (by decide) ?_
      refine ih (by omega) _ ?_ ?_
      · intro b hb; rw [up_ne _ _ hb, g1 b hb]
      · intro s hs
        rw [up_eq, take_succ' hi', List.countP_append, ← g2 s hs, List.countP_cons, List.countP_nil]
        unfold va_up
        by_cases q : s = sI (l.getD i 0) p
        · subst q; simp
        · rw [if_neg q, if_neg (by simpa using Ne.symm q)]; omega
  refine key 0 (Nat.zero_le _) _ ?_ ?_
  · intro b hb; rw [up_ne _ _ hb]
  · intro s hs; rw [up_eq, if_pos hs]; simp
theorem c_countReplies {p sort : Nat} {l : List Nat} (hy : zFi L y) (hT : ∀ V, zTr (gH h0 L V) t J X) (hI : tI J X T) (hk : tR T) (hp : p < T 7 0) (hso : sort < 4) (hl : ∀ x ∈ l, (1 ≤ sI x p ∧ sI x p < 2 ^ T 2 0) ∧ ansF T p sort (sI x p) 0 < 60) (hlen : l.length < 2 ^ 30) (hb : ∀ s, s < 256 → V (y + 1) s = l.countP (fun x => sI x p == s)) : zPi G MX0_countReplies 3 [.ref y, .ref t, .int (nI p), .int (nI sort)] (gH h0 L V) n (fun v h' => v = nI (mxA T p sort l) ∧ ∃ V', h' = gH h0 L V' ∧ (∀ b, b ≠ y + 2 → V' b = V b) ∧ ∀ q, q < 64 → V' (y + 2) q = cnA T p sort l q) := by
  refine zCt.of rfl (Nat.le_of_ble_eq_true rfl) rfl ?_
  have k2 := hk.1
  have k7 := hk.2.1
  have hpow : 2 ^ T 2 0 ≤ 256 := (Nat.pow_le_pow_right (by decide) k2 : 2 ^ T 2 0 ≤ 2 ^ 8)
  refine x_aload_n dX0_countReplies_0 rfl ?_
  refine x_getf dX0_countReplies_1 flX0_15 (g_c (And.left hy)) rfl ?_
  refine x_iconst (v := nI 0) dX0_countReplies_4 (by decide) ?_
  refine x_cSV2 dX0_countReplies_5 lkX0_56 mdJ7_fill_53178 stJ7_fill_53178 (by decide) (c_fillI (g_c hy.2.2.1) (by decide)) (Nat.le_of_ble_eq_true rfl) ⟨Nat.le_refl _, Nat.le_refl _⟩ ?_
  rintro h' rfl
  refine x_eqH (g_up hy.2.2.1 _) ?_
  refine x_iconst (v := nI 0) dX0_countReplies_8 (by decide) ?_
  refine x_is4 dX0_countReplies_9 (by decide) rfl ?_
  refine x_iconst (v := nI 1) dX0_countReplies_11 (by decide) ?_
  refine x_is5 dX0_countReplies_12 (by decide) rfl ?_
  have key : ∀ s, s ≤ 256 → 1 ≤ s → ∀ (V' : Nat → Nat → Nat) (m : Nat) (o6 : Option Value), (∀ b, b ≠ y + 2 → V' b = V b) → (∀ q, q < 64 → V' (y + 2) q = l.countP (fun x => decide (sI x p < s) && (ansF T p sort (sI x p) 0 == q))) → (∀ q, q < 64 → V' (y + 2) q ≤ m) → (m = 0 ∨ ∃ q, q < 64 ∧ m = V' (y + 2) q) → zEx G MX0_countReplies 3 0 0 14 [some (.ref y), some (.ref t), some (.int (nI p)), some (.int (nI sort)), some (.int (nI m)), some (.int (nI s)), o6] [] (gH h0 L V') n (0, 0) (fun r1 h' n' => ∃ v, r1 = some (.int v) ∧ (v = nI (mxA T p sort l) ∧ ∃ V', h' = gH h0 L V' ∧ (∀ b, b ≠ y + 2 → V' b = V b) ∧ ∀ q, q < 64 → V' (y + 2) q = cnA T p sort l q) ∧ n' = n) := by
    refine z_up 256 ?_
    intro s hs ih hs1 V' m o6 g1 g2 g3 g4
    have eb : V' (y + 1) = V (y + 1) := g1 _ (by omega)
    have hle : ∀ q, q < 64 → V' (y + 2) q ≤ l.length := fun q hq => by rw [g2 q hq]; exact List.countP_le_length
    have hml : m ≤ l.length := by
      rcases g4 with h | ⟨q, hq, h⟩
      · omega
      · rw [h]; exact hle q hq
    refine x_iload dX0_countReplies_14 rfl ?_
    refine x_aload_n dX0_countReplies_16 rfl ?_
    refine x_getf dX0_countReplies_17 flX0_9 (g_c (And.left hy)) rfl ?_
    refine x_alen dX0_countReplies_20 (g_c hy.2.1) rfl ?_
    refine n_icmp_ge (tgt := 83) dX0_countReplies_21 (by decide) (by omega) (by omega) (fun c1 => ?_) (fun c1 => ?_)
    · have hse : s = 256 := by omega
      subst hse
      refine x_iload dX0_countReplies_83 rfl ?_
      refine x_iret dX0_countReplies_85 rfl rfl ⟨Nat.le_refl _, Nat.le_refl _⟩ ?_
      have e : ∀ q, q < 64 → V' (y + 2) q = cnA T p sort l q := by
        intro q hq
        rw [g2 q hq]
        unfold cnA
        congr 1
        funext x
        rw [decide_eq_true (sI_lt x p), Bool.true_and]
      refine ⟨_, rfl, ⟨?_, V', rfl, g1, e⟩, rfl⟩
      unfold mxA
      rw [mx_uniq (m := m)]
      · intro q hq; rw [← e q hq]; exact g3 q hq
      · rcases g4 with h | ⟨q, hq, h⟩
        · exact Or.inl h
        · exact Or.inr ⟨q, hq, h.trans (e q hq)⟩
    · have hs' : s < 256 := by omega
      have ebs : V' (y + 1) s = l.countP (fun x => sI x p == s) := by rw [eb]; exact hb s hs'
      have hcl : V' (y + 1) s ≤ l.length := by rw [ebs]; exact List.countP_le_length
      have st := fun q => cnt_step (fun x => sI x p) (fun z => ansF T p sort z 0) s q l
      refine x_aload_n dX0_countReplies_24 rfl ?_
      refine x_getf dX0_countReplies_25 flX0_9 (g_c (And.left hy)) rfl ?_
      refine x_iload dX0_countReplies_28 rfl ?_
      refine g_iald dX0_countReplies_30 (g_c hy.2.1) hs' (by omega) ?_
      by_cases c0 : V' (y + 1) s = 0
      · refine x_if_le (tgt := 77) dX0_countReplies_31 (by decide) (fun c2 => ?_) (fun c2 => absurd (by rw [c0]; decide) c2)
        refine n_ii5 (w := 1) dX0_countReplies_77 (by decide) (by decide) rfl ?_
        refine x_goto (tgt := 14) dX0_countReplies_80 (by decide) ?_
        refine ih hs' (by omega) V' m _ g1 ?_ g3 g4
        intro q hq
        rw [st q, ← ebs, c0, g2 q hq]
        simp
      · refine x_if_le (tgt := 77) dX0_countReplies_31 (by decide) (fun c2 => absurd c2 (nI_nle (by omega) (by omega))) (fun c2 => ?_)
        obtain ⟨x, hx, hxs⟩ := List.countP_pos_iff.mp (show 0 < l.countP (fun x => sI x p == s) by omega)
        have hxs : sI x p = s := by simpa using hxs
        have hxl := hl x hx
        rw [hxs] at hxl
        have hR := hxl.2
        generalize hRe : ansF T p sort s 0 = R at hR
        have crep := c_reply (G := G) (n := n) (hT V') hI hk hp hso hxl.1.2 (show 0 < 100 by decide)
        rw [hRe] at crep
        have hR1 := hle R (by omega)
        refine x_aload_n dX0_countReplies_34 rfl ?_
        refine x_iload_n dX0_countReplies_35 rfl ?_
        refine x_iload_n dX0_countReplies_36 rfl ?_
        refine x_iload dX0_countReplies_37 rfl ?_
        refine x_iconst (v := nI 0) dX0_countReplies_39 (by decide) ?_
        refine x_cVi4 dX0_countReplies_40 lkX0_73 mdX5_reply isX5_reply rfl rfl (And.left (hT _)) (by decide) (crep) (Nat.le_of_ble_eq_true rfl) ⟨Nat.le_refl _, Nat.le_refl _⟩ ?_
        refine x_is6 dX0_countReplies_43 (by decide) rfl ?_
        refine x_aload_n dX0_countReplies_45 rfl ?_
        refine x_getf dX0_countReplies_46 flX0_15 (g_c (And.left hy)) rfl ?_
        refine x_iload dX0_countReplies_49 rfl ?_
        refine x_aload_n dX0_countReplies_51 rfl ?_
        refine x_getf dX0_countReplies_52 flX0_9 (g_c (And.left hy)) rfl ?_
        refine x_iload dX0_countReplies_55 rfl ?_
        refine g_iald dX0_countReplies_57 (g_c hy.2.1) hs' (by omega) ?_
        refine x_cSV3 dX0_countReplies_58 lkX0_69 mdX7_raise stX7_raise (by decide) (c_raiseN (g_c hy.2.2.1) (by decide) (show R < 64 by omega)) (Nat.le_of_ble_eq_true rfl) ⟨Nat.le_refl _, Nat.le_refl _⟩ ?_
        rintro h' rfl
        refine x_eqH (g_up hy.2.2.1 _) ?_
        generalize hV2 : va_up V' (y + 2) (va_up (V' (y + 2)) R (V' (y + 2) R + V' (y + 1) s)) = V2
        have f1 : ∀ b, b ≠ y + 2 → V2 b = V' b := fun b hb => by rw [← hV2]; exact up_ne _ _ hb
        have f2 : V2 (y + 2) = va_up (V' (y + 2)) R (V' (y + 2) R + V' (y + 1) s) := by rw [← hV2]; exact up_eq _ _ _
        have f3 : V2 (y + 2) R = V' (y + 2) R + V' (y + 1) s := by rw [f2]; exact up_eq _ _ _
        have f4 : ∀ q, q ≠ R → V2 (y + 2) q = V' (y + 2) q := fun q hq => by rw [f2]; exact up_ne _ _ hq
        refine x_iload dX0_countReplies_61 rfl ?_
        refine x_aload_n dX0_countReplies_63 rfl ?_
        refine x_getf dX0_countReplies_64 flX0_15 (g_c (And.left hy)) rfl ?_
        refine x_iload dX0_countReplies_67 rfl ?_
        refine x_cSi2 dX0_countReplies_69 lkX0_77 mdX7_at stX7_at (by decide) (c_atN (g_c hy.2.2.1) (by decide) (show R < 64 by omega)) (Nat.le_of_ble_eq_true rfl) ⟨Nat.le_refl _, Nat.le_refl _⟩ ?_
        rw [f3]
        refine x_max dX0_countReplies_72 (zmem 785 (by decide +kernel) rfl) (by decide) (by omega) (by omega) (Nat.le_of_ble_eq_true rfl) ⟨Nat.le_refl _, Nat.le_refl _⟩ ?_
        refine x_is4 dX0_countReplies_75 (by decide) rfl ?_
        refine n_ii5 (w := 1) dX0_countReplies_77 (by decide) (by decide) rfl ?_
        refine x_goto (tgt := 14) dX0_countReplies_80 (by decide) ?_
        refine ih hs' (by omega) V2 _ _ ?_ ?_ ?_ ?_
        · intro b hb; rw [f1 b hb, g1 b hb]
        · intro q hq
          rw [st q, ← ebs, ← g2 q hq]
          simp only [hRe]
          by_cases e : q = R
          · subst e; rw [if_pos rfl, f3]
          · rw [if_neg (Ne.symm e), f4 q e]; rfl
        · intro q hq
          by_cases e : q = R
          · subst e; rw [f3]; omega
          · rw [f4 q e]; have := g3 q hq; omega
        · by_cases e : m ≤ V' (y + 2) R + V' (y + 1) s
          · exact Or.inr ⟨R, by omega, by rw [f3]; omega⟩
          · rcases g4 with h | ⟨q, hq, h⟩
            · omega
            · refine Or.inr ⟨q, hq, ?_⟩
              have : q ≠ R := by rintro rfl; omega
              rw [f4 q this]; omega
  refine key 1 (by decide) (by decide) _ 0 _ ?_ ?_ ?_ (Or.inl rfl)
  · intro b hb; rw [up_ne _ _ hb]
  · intro q hq
    rw [up_eq, if_pos hq]
    symm
    rw [List.countP_eq_zero]
    intro x hx
    have := (hl x hx).1.1
    simp; omega
  · intro q hq; rw [up_eq, if_pos hq]; exact Nat.le_refl _
set_option maxRecDepth 100000 in
theorem c_choose {l : List Nat} (hy : zFi L y) (hw : L w = some (sW r)) (hr : L r = some (sA len)) (hm : len < 2 ^ 31) (hl : isWs V w r l) (hln : l.length ≤ len) (hT : ∀ V, zTr (gH h0 L V) t J X) (hI : tI J X T) (hk : tR T) (hok : ∀ x ∈ l, ∀ p, p < T 7 0 → ∀ so, so < 4 → (1 ≤ sI x p ∧ sI x p < 2 ^ T 2 0) ∧ ansF T p so (sI x p) 0 < 60) (hlen : l.length < 2 ^ 29) (hry : r < y ∨ y + 5 < r) : zPv G MX0_choose 4 [.ref y, .ref t, .ref w] (gH h0 L V) n (fun h' => ∃ V', h' = gH h0 L V' ∧ (∀ b, b ≠ y → b ≠ y + 1 → b ≠ y + 2 → V' b = V b) ∧ (∀ j, j ≠ 0 → j ≠ 1 → V' y j = V y j) ∧ V' y 0 = (chO T l (4 * T 7 0)).1 ∧ V' y 1 = (chO T l (4 * T 7 0)).2) := by
  refine zCt.of rfl (Nat.le_of_ble_eq_true rfl) rfl ?_
  have k7 := hk.2.1
  have e4 := hI.1.2.1
  have w0 : w ≠ y := by
    rintro rfl
    have := hy.1
    rw [hw] at this
    have := congrFun (Option.some.inj this) (fun _ => 0)
    cases this
  have w1 := ws_ne hw hy.2.1
  have w2 := ws_ne hw hy.2.2.1
  have ew0 : V w 1 = l.length := hl.1
  refine x_aload_n dX0_choose_0 rfl ?_
  refine x_bipush (v := nI 4294967292) dX0_choose_1 (by decide) ?_
  refine g_put dX0_choose_3 flX0_27 ftX0_0 hy.1 (Nat.le_of_ble_eq_true rfl) rfl ?_
  refine x_aload_n dX0_choose_6 rfl ?_
  refine x_aload_n dX0_choose_7 rfl ?_
  refine x_getf dX0_choose_8 flX0_31 (g_c hw) rfl ?_
  refine x_iconst (v := nI 1) dX0_choose_11 (by decide) ?_
  refine n_iadd dX0_choose_12 ?_
  rw [show (va_up V y (va_up (V y) 0 4294967292)) w 1 = l.length by rw [up_ne _ _ w0]; exact ew0]
  refine g_put dX0_choose_13 flX0_36 ftX0_1 hy.1 (Nat.le_of_ble_eq_true rfl) rfl ?_
  refine x_iconst (v := nI 0) dX0_choose_16 (by decide) ?_
  refine x_is3 dX0_choose_17 (by decide) rfl ?_
  have outer : ∀ p, p ≤ T 7 0 → ∀ (V' : Nat → Nat → Nat) (o4 o5 : Option Value), (∀ b, b ≠ y → b ≠ y + 1 → b ≠ y + 2 → V' b = V b) → (∀ j, j ≠ 0 → j ≠ 1 → V' y j = V y j) → V' y 0 = (chO T l (4 * p)).1 → V' y 1 = (chO T l (4 * p)).2 → zEx G MX0_choose 4 0 0 18 [some (.ref y), some (.ref t), some (.ref w), some (.int (nI p)), o4, o5] [] (gH h0 L V') n (0, 0) (fun r1 h' n' => r1 = none ∧ (∃ V', h' = gH h0 L V' ∧ (∀ b, b ≠ y → b ≠ y + 1 → b ≠ y + 2 → V' b = V b) ∧ (∀ j, j ≠ 0 → j ≠ 1 → V' y j = V y j) ∧ V' y 0 = (chO T l (4 * T 7 0)).1 ∧ V' y 1 = (chO T l (4 * T 7 0)).2) ∧ n' = n) := by
    refine z_up (T 7 0) ?_
    intro p hp ih V' o4 o5 g1 g2 g3 g4
    refine x_iload_n dX0_choose_18 rfl ?_
    refine x_aload_n dX0_choose_19 rfl ?_
    refine x_getf dX0_choose_20 flX0_39 (And.left (hT _)) rfl ?_
    rw [e4]
    refine n_icmp_ge (tgt := 88) dX0_choose_23 (by decide) (by omega) (by omega) (fun c1 => ?_) (fun c1 => ?_)
    · have hpe : p = T 7 0 := by omega
      subst hpe
      refine x_vret dX0_choose_88 rfl ⟨Nat.le_refl _, Nat.le_refl _⟩ ?_
      exact ⟨rfl, ⟨V', rfl, g1, g2, g3, g4⟩, rfl⟩
    · have hl' : isWs V' w r l := ⟨by rw [g1 w w0 w1 w2]; exact hl.1, by rw [g1 r (by omega) (by omega) (by omega)]; exact hl.2⟩
      refine x_aload_n dX0_choose_26 rfl ?_
      refine x_aload_n dX0_choose_27 rfl ?_
      refine x_iload_n dX0_choose_28 rfl ?_
      refine x_cVV2 dX0_choose_29 lkX0_44 mdX0_countSets isX0_countSets rfl rfl (g_c (And.left hy)) (by decide) (c_countSets hy hw hr hm hl' hln (show p < 4 by omega) hry) (Nat.le_of_ble_eq_true rfl) ⟨Nat.le_refl _, Nat.le_refl _⟩ ?_
      rintro h' ⟨V1, rfl, f1, f2⟩
      refine x_iconst (v := nI 0) dX0_choose_32 (by decide) ?_
      refine x_is4 dX0_choose_33 (by decide) rfl ?_
      have inner : ∀ so, so ≤ 4 → ∀ (V' : Nat → Nat → Nat) (o5 : Option Value), (∀ b, b ≠ y → b ≠ y + 1 → b ≠ y + 2 → V' b = V b) → (∀ j, j ≠ 0 → j ≠ 1 → V' y j = V y j) → V' y 0 = (chO T l (4 * p + so)).1 → V' y 1 = (chO T l (4 * p + so)).2 → (∀ s, s < 256 → V' (y + 1) s = l.countP (fun x => sI x p == s)) → zEx G MX0_choose 4 0 0 35 [some (.ref y), some (.ref t), some (.ref w), some (.int (nI p)), some (.int (nI so)), o5] [] (gH h0 L V') n (0, 0) (fun r1 h' n' => r1 = none ∧ (∃ V', h' = gH h0 L V' ∧ (∀ b, b ≠ y → b ≠ y + 1 → b ≠ y + 2 → V' b = V b) ∧ (∀ j, j ≠ 0 → j ≠ 1 → V' y j = V y j) ∧ V' y 0 = (chO T l (4 * T 7 0)).1 ∧ V' y 1 = (chO T l (4 * T 7 0)).2) ∧ n' = n) := by
        refine z_up 4 ?_
        intro so hso ihs V' o5 g1 g2 g3 g4 g5
        refine x_iload dX0_choose_35 rfl ?_
        refine x_iconst (v := nI 4) dX0_choose_37 (by decide) ?_
        refine n_icmp_ge (tgt := 82) dX0_choose_38 (by decide) (by omega) (by omega) (fun c2 => ?_) (fun c2 => ?_)
        · have hse : so = 4 := by omega
          subst hse
          refine n_ii3 (w := 1) dX0_choose_82 (by decide) (by decide) rfl ?_
          refine x_goto (tgt := 18) dX0_choose_85 (by decide) ?_
          exact ih (by omega) V' _ _ g1 g2 g3 g4
        · have hx1 : (4 * p + so) / 4 = p := by omega
          have hx2 : (4 * p + so) % 4 = so := by omega
          have eC : chO T l (4 * p + (so + 1)) = if mxA T p so l < (chO T l (4 * p + so)).2 then (4 * p + so, mxA T p so l) else chO T l (4 * p + so) := by
            have e : chO T l (4 * p + so + 1) = if mxA T ((4 * p + so) / 4) ((4 * p + so) % 4) l < (chO T l (4 * p + so)).2 then (4 * p + so, mxA T ((4 * p + so) / 4) ((4 * p + so) % 4) l) else chO T l (4 * p + so) := rfl
            rw [hx1, hx2] at e
            exact e
          have hcl := chO_le (T := T) (l := l) (4 * p + so)
          have hml := mxA_le (T := T) (p := p) (sort := so) (l := l)
          refine x_aload_n dX0_choose_41 rfl ?_
          refine x_aload_n dX0_choose_42 rfl ?_
          refine x_iload_n dX0_choose_43 rfl ?_
          refine x_iload dX0_choose_44 rfl ?_
          refine x_cVI3 dX0_choose_46 lkX0_48 mdX0_countReplies isX0_countReplies rfl rfl (g_c (And.left hy)) (by decide) (c_countReplies hy hT hI hk (by omega) (by omega) (fun x hx => hok x hx p (by omega) so (by omega)) (by omega) g5) (Nat.le_of_ble_eq_true rfl) ⟨Nat.le_refl _, Nat.le_refl _⟩ ?_
          rintro v h' ⟨rfl, V2, rfl, f1, f2⟩
          have ey : V2 y = V' y := f1 y (by omega)
          clear f2
          generalize mxA T p so l = m9 at hml eC ⊢
          refine x_is5 dX0_choose_49 (by decide) rfl ?_
          refine x_iload dX0_choose_51 rfl ?_
          refine x_aload_n dX0_choose_53 rfl ?_
          refine x_getf dX0_choose_54 flX0_36 (g_c (And.left hy)) rfl ?_
          rw [ey, g4]
          refine n_icmp_ge (tgt := 76) dX0_choose_57 (by decide) (by omega) (by omega) (fun c3 => ?_) (fun c3 => ?_)
          · refine n_ii4 (w := 1) dX0_choose_76 (by decide) (by decide) rfl ?_
            refine x_goto (tgt := 35) dX0_choose_79 (by decide) ?_
            refine ihs (by omega) V2 _ ?_ ?_ ?_ ?_ ?_
            · intro b h1 h2 h3; rw [f1 b h3, g1 b h1 h2 h3]
            · intro j h1 h2; rw [ey, g2 j h1 h2]
            · rw [ey, g3, eC, if_neg (by omega)]
            · rw [ey, g4, eC, if_neg (by omega)]
            · intro s hs; rw [f1 _ (by omega), g5 s hs]
          · refine x_aload_n dX0_choose_60 rfl ?_
            refine x_iload_n dX0_choose_61 rfl ?_
            refine x_iload dX0_choose_62 rfl ?_
            refine x_cSi2 dX0_choose_64 lkX0_52 mdX7_trialOf stX7_trialOf (by decide) (c_trialOf) (Nat.le_of_ble_eq_true rfl) ⟨Nat.le_refl _, Nat.le_refl _⟩ ?_
            refine g_put dX0_choose_67 flX0_27 ftX0_0 hy.1 (Nat.le_of_ble_eq_true rfl) rfl ?_
            generalize hV3 : va_up V2 y (va_up (V2 y) 0 (4 * p + so)) = V3
            have u1 : ∀ b, b ≠ y → V3 b = V2 b := fun b hb => by rw [← hV3]; exact up_ne _ _ hb
            have u2 : V3 y = va_up (V2 y) 0 (4 * p + so) := by rw [← hV3]; exact up_eq _ _ _
            refine x_aload_n dX0_choose_70 rfl ?_
            refine x_iload dX0_choose_71 rfl ?_
            refine g_put dX0_choose_73 flX0_36 ftX0_1 hy.1 (Nat.le_of_ble_eq_true rfl) rfl ?_
            refine n_ii4 (w := 1) dX0_choose_76 (by decide) (by decide) rfl ?_
            refine x_goto (tgt := 35) dX0_choose_79 (by decide) ?_
            refine ihs (by omega) _ _ ?_ ?_ ?_ ?_ ?_
            · intro b h1 h2 h3; rw [up_ne _ _ h1, u1 b h1, f1 b h3, g1 b h1 h2 h3]
            · intro j h1 h2; rw [up_eq, up_ne _ _ h2, u2, up_ne _ _ h1, ey, g2 j h1 h2]
            · rw [up_eq, up_ne _ _ (by decide), u2, up_eq, eC, if_pos (by omega)]
            · rw [up_eq, up_eq, eC, if_pos (by omega)]
            · intro s hs; rw [up_ne _ _ (by omega), u1 _ (by omega), f1 _ (by omega), g5 s hs]
      refine inner 0 (by omega) V1 _ ?_ ?_ ?_ ?_ f2
      · intro b h1 h2 h3; rw [f1 b h2, g1 b h1 h2 h3]
      · intro j h1 h2; rw [f1 y (by omega), g2 j h1 h2]
      · rw [f1 y (by omega), g3]; rfl
      · rw [f1 y (by omega), g4]; rfl
  refine outer 0 (Nat.zero_le _) _ _ _ ?_ ?_ ?_ ?_
  · intro b h1 h2 h3; rw [up_ne _ _ h1, up_ne _ _ h1]
  · intro j h1 h2; rw [up_eq, up_ne _ _ h2, up_eq, up_ne _ _ h1]
  · rw [up_eq, up_ne _ _ (by decide), up_eq, up_eq]; rfl
  · rw [up_eq, up_eq]; rfl
end ZS25
