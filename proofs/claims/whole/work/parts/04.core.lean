/-! the pure machine: a heap of cells by address, and a judgement zEx over it; every row of it is proved once out of the kit's rows -/
abbrev zC : Type := (FieldType × vp_A) ⊕ (Nat × List Value)
abbrev zF : Type := Nat → Option zC
abbrev zG : Type := Launch × va_G × Heap × (Nat × Nat × (Nat → Int32)) × (Nat → Nat) × (Nat → Nat)
abbrev zM : Type := MethodName × ByteArray × Nat × Option FieldType
abbrev zQ : Type := Option Value → zF → Nat → Prop
abbrev zCl : List vw_C := [(RX0, TX0, 9), (RX1, TX1, 5), (RX2, TX2, 2), (RX3, TX3, 4), (RX4, TX4, 11), (RX5, TX5, 10), (RX6, TX6, 2), (RX7, TX7, 13), (RX8, TX8, 33)]
def zTbl : List Cond := lw_tbl.filter goodWord
def zIsN : Cond → Bool
  | .fieldLinkNest _ _ _ _ _ _ => true
  | .methodLinkNest _ _ _ _ => true
  | _ => false
def zNest : List Cond := lw_tbl.filter zIsN
theorem zmem {w : Cond} (i : Nat) (h : lw_tbl[i]? = some w) (g : goodWord w = true) : w ∈ zTbl := List.mem_filter.mpr ⟨List.mem_of_getElem? h, g⟩
theorem zmemN {w : Cond} (i : Nat) (h : lw_tbl[i]? = some w) (g : zIsN w = true) : w ∈ zNest := List.mem_filter.mpr ⟨List.mem_of_getElem? h, g⟩
abbrev zH0 (G : zG) : Heap := G.2.2.1
def zA (G : zG) : Nat → Prop := fun q => G.2.2.1.size ≤ q
def zStr : List Int32 := [116, 53, 44, 48, 44, 51, 44, 52, 59, 116, 57, 44, 49, 44, 51, 44, 50, 59, 116, 53, 44, 50, 44, 52, 44, 49, 59, 116, 55, 44, 51, 44, 50, 44, 51, 59, 112, 49, 44, 48, 44, 49, 59, 112, 50, 44, 49, 44, 50, 59, 105, 48, 44, 50, 59, 105, 49, 44, 48, 59, 105, 49, 44, 51, 59, 103, 50, 59, 100, 53, 59, 110, 48, 44, 49, 44, 50, 48, 59, 110, 50, 44, 51, 44, 53, 59]
def zText : String := "t5,0,3,4;t9,1,3,2;t5,2,4,1;t7,3,2,3;p1,0,1;p2,1,2;i0,2;i1,0;i1,3;g2;d5;n0,1,20;n2,3,5;"
/-- what lies below the law's own cells: the script, the one String constant, two statics -/
def zOld (G : zG) (U : State) : Prop := va_X G.2.2.2.1.1 G.2.2.2.1.2.1 G.2.2.2.1.2.2 U (zH0 G) ∧ G.2.2.2.1.1 < (zH0 G).size ∧ vk_S 1 [86] [zStr] G.2.2.2.2.1 G.2.2.2.2.2 (zA G) U (zH0 G) ∧ vk_R "ShakenParcels" 77 zText (G.2.2.2.2.1 0) U ∧ va_Z "java/lang/String" "COMPACT_STRINGS" "Z" (.int 1) (zA G) U (zH0 G) ∧ va_Zq "jdk/internal/util/Preconditions" "SIOOBE_FORMATTER" "Ljava/util/function/BiFunction;" (zA G) U (zH0 G) ∧ va_AO "ShakenParcels$Scene" U
/-- what holds of the tables -/
def zK (G : zG) (U : State) : Prop := va_K G.2.1 zCl [] U ∧ (∀ w ∈ zNest, va_Nw w U) ∧ zOld G U
theorem zK.warm {G : zG} {s U : State} (hW : s.WarmedH U.vm) (h : zK G s) : zK G U := by
  obtain ⟨h1, h2, h3, h4, h5, h6, h7, h8, h9⟩ := h
  refine ⟨va_K.moved hW.alike h1, fun w hw => ?_, va_X.moved hW.alike h3, h4, vk_S.moved hW.alike h5, vk_R.warm hW h6, va_Z.moved hW.alike h7, va_Zq.moved hW.alike h8, va_AO.moved hW.alike h9⟩
  have hn := (List.mem_filter.mp hw).2
  have hz := h2 w hw
  cases w <;> first | exact va_Nw.warmF hW hz | exact va_Nw.warmM hW hz | (exact absurd hn (by simp [zIsN]))
theorem zK.same {G : zG} {s U : State} (hv : s.vm = U.vm) (h : zK G s) : zK G U := by
  obtain ⟨h1, h2, h3, h4, h5, h6, h7, h8, h9⟩ := h
  have ha : s.vm.Alike U.vm := by rw [hv]; exact Vm.Alike.refl _
  refine ⟨va_K.moved ha h1, fun w hw => ?_, va_X.moved ha h3, h4, vk_S.moved ha h5, vk_R.same hv.symm h6, va_Z.moved ha h7, va_Zq.moved ha h8, va_AO.moved ha h9⟩
  have hn := (List.mem_filter.mp hw).2
  have hz := h2 w hw
  cases w <;> first | exact va_Nw.same rfl hv hz | (exact absurd hn (by simp [zIsN]))
/-- a cell of the pure heap, in the machine's -/
def zat (G : zG) (U : State) (H : Heap) (a : Nat) (c : zC) : Prop := match c with
  | .inl q => ∃ cA : ClassId, (ArrOfT U cA q.1 ∧ va_RA U cA q.1) ∧ H[a]? = some (vp_cell cA q.2)
  | .inr o => ∃ r : vw_C, zCl[o.1]? = some r ∧ t_OB a (G.2.1.1 o.1) r.2.2 (G.2.1.2 o.1) H (vp_V o.2)
theorem zat.moved {G : zG} {u U : State} {H : Heap} {a : Nat} {c : zC} (hvm : u.vm.Alike U.vm) (h : zat G u H a c) : zat G U H a c := by
  cases c with
  | inl q => obtain ⟨cA, ⟨h1, h2⟩, h3⟩ := h; exact ⟨cA, ⟨arrOfT_moved hvm h1, h2.moved hvm⟩, h3⟩
  | inr o => exact h
theorem zat.kept {G : zG} {U : State} {H H1 : Heap} {a : Nat} {c : zC} (h : zat G U H a c) (hq : H1[a]? = H[a]?) : zat G U H1 a c := by
  cases c with
  | inl q => obtain ⟨cA, h1, h3⟩ := h; exact ⟨cA, h1, hq.trans h3⟩
  | inr o => obtain ⟨r, h1, h2⟩ := h; exact ⟨r, h1, h2.kept hq⟩
def zHp (G : zG) (U : State) (H : Heap) (h : zF) (n : Nat) : Prop := H.size = n ∧ (zH0 G).size ≤ n ∧ (∀ q : Nat, q < (zH0 G).size → H[q]? = (zH0 G)[q]?) ∧ ∀ (a : Nat) (c : zC), h a = some c → (zH0 G).size ≤ a ∧ a < n ∧ zat G U H a c
theorem zHp.moved {G : zG} {u U : State} {H : Heap} {h : zF} {n : Nat} (hvm : u.vm.Alike U.vm) (hh : zHp G u H h n) : zHp G U H h n := ⟨hh.1, hh.2.1, hh.2.2.1, fun a c hc => ⟨(hh.2.2.2 a c hc).1, (hh.2.2.2 a c hc).2.1, (hh.2.2.2 a c hc).2.2.moved hvm⟩⟩
theorem zHp.set {G : zG} {U : State} {H H1 : Heap} {h : zF} {n a : Nat} {c c0 : zC} (hh : zHp G U H h n) (ha : h a = some c0) (z : H1.size = H.size) (o : ∀ q : Nat, q ≠ a → H1[q]? = H[q]?) (hc : zat G U H1 a c) : zHp G U H1 (va_up h a (some c)) n := by
  have h0 := hh.2.2.2 a c0 ha
  refine ⟨z.trans hh.1, hh.2.1, fun q hq => (o q (by omega)).trans (hh.2.2.1 q hq), fun b d hb => ?_⟩
  unfold va_up at hb
  by_cases hba : b = a
  · subst hba
    rw [if_pos rfl] at hb
    cases hb
    exact ⟨h0.1, h0.2.1, hc⟩
  · rw [if_neg hba] at hb
    have h1 := hh.2.2.2 b d hb
    exact ⟨h1.1, h1.2.1, h1.2.2.kept (o b hba)⟩
theorem zHp.push {G : zG} {U : State} {H H1 : Heap} {h : zF} {n : Nat} {c : zC} (hh : zHp G U H h n) (z : H1.size = n + 1) (o : ∀ q : Nat, q < n → H1[q]? = H[q]?) (hc : zat G U H1 n c) : zHp G U H1 (va_up h n (some c)) (n + 1) := by
  have h0 := hh.2.1
  refine ⟨z, by omega, fun q hq => (o q (by omega)).trans (hh.2.2.1 q hq), fun b d hb => ?_⟩
  unfold va_up at hb
  by_cases hba : b = n
  · subst hba
    rw [if_pos rfl] at hb
    cases hb
    exact ⟨h0, by omega, hc⟩
  · rw [if_neg hba] at hb
    have h1 := hh.2.2.2 b d hb
    exact ⟨h1.1, by omega, h1.2.2.kept (o b h1.2.1)⟩
/-- the locals by their places -/
def zg : List (Option Value) → Nat → Option Value
  | [], _ => none
  | a :: _, 0 => a
  | _ :: t, i + 1 => zg t i
def zL (ls : Array Slot) (nL : Nat) (lv : List (Option Value)) : Prop := ls.size = nL ∧ lv_wf ls ∧ ∀ (i : Nat) (v : Value), zg lv i = some v → ls[i]? = some (.val v)
def zas : Nat → List (Option Value) → List (Nat × Value)
  | _, [] => []
  | i, none :: t => zas (i + 1) t
  | i, some v :: t => (i, v) :: zas (i + 1) t
theorem zas_mem {q : Nat × Value} : ∀ (lv : List (Option Value)) (i : Nat), q ∈ zas i lv ↔ ∃ j, q.1 = i + j ∧ zg lv j = some q.2
  | [], i => by simp [zas, zg]
  | none :: t, i => by
    simp only [zas, zas_mem t (i + 1)]
    constructor
    · rintro ⟨j, h1, h2⟩; exact ⟨j + 1, by omega, h2⟩
    · rintro ⟨j, h1, h2⟩
      cases j with
      | zero => simp [zg] at h2
      | succ j => exact ⟨j, by omega, h2⟩
  | some v :: t, i => by
    simp only [zas, List.mem_cons, zas_mem t (i + 1)]
    constructor
    · rintro (h | ⟨j, h1, h2⟩)
      · exact ⟨0, by rw [h]; rfl, by rw [h]; rfl⟩
      · exact ⟨j + 1, by omega, h2⟩
    · rintro ⟨j, h1, h2⟩
      cases j with
      | zero => left; simp only [zg] at h2; cases q; simp at h1 h2; simp [h1, h2]
      | succ j => right; exact ⟨j, by omega, h2⟩
theorem zL.kit {ls : Array Slot} {nL : Nat} {lv : List (Option Value)} (h : zL ls nL lv) : lv_has ls nL (zas 0 lv) := ⟨h.1, h.2.1, fun q hq => by
  obtain ⟨j, h1, h2⟩ := (zas_mem lv 0).mp hq
  rw [h1, Nat.zero_add]; exact h.2.2 j q.2 h2⟩
def zset : List (Option Value) → Nat → Option Value → List (Option Value)
  | [], _, _ => []
  | _ :: t, 0, v => v :: t
  | a :: t, i + 1, v => a :: zset t i v
theorem zg_zset : ∀ (lv : List (Option Value)) (i j : Nat) (v : Option Value), zg (zset lv i v) j = if j = i ∧ i < lv.length then v else zg lv j
  | [], i, j, v => by simp [zset, zg]
  | a :: t, 0, 0, v => by simp [zset, zg]
  | a :: t, 0, j + 1, v => by simp [zset, zg]
  | a :: t, i + 1, 0, v => by simp [zset, zg]
  | a :: t, i + 1, j + 1, v => by simp only [zset, zg, zg_zset t i j v, List.length_cons]; simp
/-- what stands just before place i is no long -/
def zok : List (Option Value) → Nat → Bool
  | _, 0 => true
  | lv, i + 1 => match zg lv i with
    | some v => v.category == 1
    | none => true
theorem zL.store {ls' : Array Slot} {nL i : Nat} {v : Value} {lv : List (Option Value)} (ho : zok lv i = true) (h : lv_has ls' nL ((i, v) :: (zas 0 lv).filter (fun q => !(q.1 == i) && !(q.1 + 1 == i && q.2.category == 2)))) : zL ls' nL (zset lv i (some v)) := by
  refine ⟨h.1, h.2.1, fun j w hw => ?_⟩
  rw [zg_zset] at hw
  by_cases hj : j = i ∧ i < lv.length
  · rw [if_pos hj] at hw
    cases hw
    rw [hj.1]
    exact h.2.2 (i, v) List.mem_cons_self
  · rw [if_neg hj] at hw
    by_cases hji : j = i
    · subst hji
      exfalso
      have hlt : ¬ j < lv.length := fun q => hj ⟨rfl, q⟩
      have hn : ∀ (l : List (Option Value)) (j : Nat), ¬ j < l.length → zg l j = none := by
        intro l
        induction l with
        | nil => intro j _; rfl
        | cons a t ih => intro j hj; cases j with
          | zero => exact absurd (Nat.zero_lt_succ _) hj
          | succ j => exact ih j (fun q => hj (Nat.succ_lt_succ q))
      rw [hn lv j hlt] at hw
      cases hw
    · refine h.2.2 (j, w) (List.mem_cons_of_mem _ (List.mem_filter.mpr ⟨(zas_mem lv 0).mpr ⟨j, by simp, hw⟩, ?_⟩))
      cases i with
      | zero => simp [hji]
      | succ i =>
        by_cases hj2 : j = i
        · subst hj2
          simp only [zok, hw, beq_iff_eq] at ho
          simp [ho]
        · simp [hji, hj2]
theorem zL.store2 {ls' : Array Slot} {nL i : Nat} {v : Value} {lv : List (Option Value)} (ho : zok lv i = true) (h : lv_has ls' nL ((i, v) :: (zas 0 lv).filter (fun q => !(q.1 == i) && (!(q.1 == i + 1) && !(q.1 + 1 == i && q.2.category == 2))))) : zL ls' nL (zset (zset lv i (some v)) (i + 1) none) := by
  refine ⟨h.1, h.2.1, fun j w hw => ?_⟩
  rw [zg_zset] at hw
  by_cases hj1 : j = i + 1
  · subst hj1
    by_cases hl : i + 1 < (zset lv i (some v)).length
    · rw [if_pos ⟨rfl, hl⟩] at hw; cases hw
    · have hn : ∀ (l : List (Option Value)) (j : Nat), ¬ j < l.length → zg l j = none := by
        intro l
        induction l with
        | nil => intro j _; rfl
        | cons a t ih => intro j hj; cases j with
          | zero => exact absurd (Nat.zero_lt_succ _) hj
          | succ j => exact ih j (fun q => hj (Nat.succ_lt_succ q))
      rw [if_neg (fun q => hl q.2), hn _ _ hl] at hw
      cases hw
  · rw [if_neg (fun q => hj1 q.1), zg_zset] at hw
    by_cases hj : j = i ∧ i < lv.length
    · rw [if_pos hj] at hw
      cases hw
      rw [hj.1]
      exact h.2.2 (i, v) List.mem_cons_self
    · rw [if_neg hj] at hw
      by_cases hji : j = i
      · subst hji
        exfalso
        have hlt : ¬ j < lv.length := fun q => hj ⟨rfl, q⟩
        have hn : ∀ (l : List (Option Value)) (j : Nat), ¬ j < l.length → zg l j = none := by
          intro l
          induction l with
          | nil => intro j _; rfl
          | cons a t ih => intro j hj; cases j with
            | zero => exact absurd (Nat.zero_lt_succ _) hj
            | succ j => exact ih j (fun q => hj (Nat.succ_lt_succ q))
        rw [hn lv j hlt] at hw
        cases hw
      · refine h.2.2 (j, w) (List.mem_cons_of_mem _ (List.mem_filter.mpr ⟨(zas_mem lv 0).mpr ⟨j, by simp, hw⟩, ?_⟩))
        cases i with
        | zero => simp [hji, hj1]
        | succ i =>
          by_cases hj2 : j = i
          · subst hj2
            simp only [zok, hw, beq_iff_eq] at ho
            simp [ho]; omega
          · simp [hji, hj1, hj2]
def zWs (M : zM) : List Cond := .code M.1 M.2.1 M.2.2.1 M.2.2.2 :: zTbl
/-- a contract: from this heap, with these arguments, the method returns with Q -/
def zCt (G : zG) (M : zM) (k mc ms : Nat) (av : List Value) (h : zF) (n : Nat) (Q : zQ) : Prop :=
  ∀ d : Nat, k ≤ d → Met G.1 M.1 (zWs M) { frames := d, cells := mc, slots := ms, locals := 60 * d } (va_Pc av (fun U => zK G U ∧ zHp G U U.heap h n)) (fun _ _ oc t => ∃ (r : Option Value) (h' : zF) (n' : Nat), oc = .returned r ∧ Q r h' n' ∧ zHp G t t.heap h' n') mc ms (zA G)
def zCx (G : zG) (M : zM) (d mc ms : Nat) (p : Program) (R : Room) (s : State) (m : MethodId) (args : Array Value) (meth : Method) (c : Code) : Prop :=
  p.tables.exec = Jvm.exec ∧ c.code = M.2.1 ∧ c.maxLocals = M.2.2.1 ∧ s.vm.findClass M.1.cls = some m.cls ∧ (∀ w ∈ zTbl, w.before args s = true) ∧ zK G s ∧ (d ≤ R.frames ∧ 60 * d ≤ R.locals) ∧ (mc ≤ R.cells ∧ ms ≤ R.slots) ∧ meth.name = M.1.name
def zRet (M : zM) (pc : Nat) (r : Option Value) : Prop := match r with
  | none => M.2.2.2 = none ∧ decode M.2.1 pc = .ok (.return_, 1)
  | some (.int v) => (∃ ty, M.2.2.2 = some ty ∧ narrow ty (.int v) = .int v) ∧ decode M.2.1 pc = .ok (.ireturn, 1)
  | some (.long _) => M.2.2.2 = some .long ∧ decode M.2.1 pc = .ok (.lreturn, 1)
  | some (.ref _) => (∃ n, M.2.2.2 = some (.object n)) ∧ decode M.2.1 pc = .ok (.areturn, 1)
  | _ => False
def zFin (G : zG) (M : zM) (mc ms : Nat) (p : Program) (e : Env) (R : Room) (s : State) (m : MethodId) (args : Array Value) (below : List Frame) (meth : Method) (c : Code) (Q : zQ) (Qz : State → Prop) : Prop :=
  ∀ (r : Option Value) (h' : zF) (n' : Nat) (H : Heap) (locs : List Loc) (ls : Array Slot) (cells slots pc : Nat), Q r h' n' → zHp G s H h' n' → (∀ q ∈ locs, zA G q.base) → cells ≤ mc → slots ≤ ms → zRet M pc r → W p G.1 e R s m args below meth c H locs cells slots Qz (F0 m pc ls r.toList)
def zEx (G : zG) (M : zM) (k mc ms pc : Nat) (lv : List (Option Value)) (st : List Value) (h : zF) (n : Nat) (u : Nat × Nat) (Q : zQ) : Prop :=
  ∀ (d : Nat) (p : Program) (e : Env) (R : Room) (s : State) (m : MethodId) (args : Array Value) (below : List Frame) (meth : Method) (c : Code) (Qz : State → Prop), k ≤ d → zCx G M d mc ms p R s m args meth c → zFin G M mc ms p e R s m args below meth c Q Qz →
    ∀ (H : Heap) (locs : List Loc) (ls : Array Slot), zHp G s H h n → (∀ q ∈ locs, zA G q.base) → zL ls M.2.2.1 lv → W p G.1 e R s m args below meth c H locs u.1 u.2 Qz (F0 m pc ls st)
def zent : List Value → List (Option Value)
  | [] => []
  | v :: t => match v.category with
    | 2 => some v :: none :: zent t
    | _ => some v :: zent t
def zpad : Nat → List (Option Value) → List (Option Value)
  | 0, _ => []
  | n + 1, [] => none :: zpad n []
  | n + 1, a :: t => a :: zpad n t
theorem zg_zpad : ∀ (n : Nat) (l : List (Option Value)) (i : Nat) (v : Value), zg (zpad n l) i = some v → zg l i = some v
  | 0, l, i, v, h => by simp [zpad, zg] at h
  | n + 1, [], 0, v, h => by simp [zpad, zg] at h
  | n + 1, [], i + 1, v, h => by simp only [zpad, zg] at h; have := zg_zpad n [] i v h; simp [zg] at this
  | n + 1, a :: t, 0, v, h => by simpa [zpad, zg] using h
  | n + 1, a :: t, i + 1, v, h => by simp only [zpad, zg] at h ⊢; exact zg_zpad n t i v h
theorem zent_args : ∀ (av : List Value) (i j : Nat) (v : Value), zg (zent av) j = some v → (i + j, v) ∈ lv_args i av
  | [], i, j, v, h => by simp [zent, zg] at h
  | x :: t, i, j, v, h => by
    rcases lv_cat x with hx | hx
    · simp only [zent, hx] at h
      cases j with
      | zero => simp only [zg] at h; cases h; simp [lv_args]
      | succ j =>
        have := zent_args t (i + 1) j v h
        rw [show i + (j + 1) = i + 1 + j by omega]
        simp [lv_args, hx, this]
    · simp only [zent, hx] at h
      cases j with
      | zero => simp only [zg] at h; cases h; simp [lv_args]
      | succ j => cases j with
        | zero => simp [zg] at h
        | succ j =>
          have := zent_args t (i + 2) j v h
          rw [show i + (j + 1 + 1) = i + 2 + j by omega]
          simp [lv_args, hx, this]
