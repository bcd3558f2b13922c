section ZR
variable {G : zG} {M : zM} {k mc ms pc n : Nat} {lv : List (Option Value)} {st : List Value} {h : zF} {u : Nat × Nat} {Q : zQ}
/-- a contract out of the judgement at the entry -/
theorem zCt.of {av : List Value} (hy : plainName M.1.cls = true) (hav : (lg_sl av).length ≤ M.2.2.1) (hl : zpad M.2.2.1 (zent av) = lv) (K : zEx G M k mc ms 0 lv [] h n (0, 0) Q) : zCt G M k mc ms av h n Q := by
  intro d hd
  refine Met.ofW (cc := M.2.1) (maxL := M.2.2.1) (ret := M.2.2.2) hy rfl ?_
  intro p e s m args below meth c s₁ B hml hv
  obtain ⟨rfl, hK, hH⟩ := hv
  have hts := atoms_spec (ws := zWs M) B.pre
  have hown : s.vm.findClass M.1.cls = some m.cls := findClass_of_methodNamed B.named
  have hin : meth.name = M.1.name := (name_of_methodNamed B.named B.method).1
  have hx := B.exec
  have hb := B.bytes
  have hr := B.returns
  have hlocks := B.notSynchronized
  have hl0 := lv_entry av (n := M.2.2.1) hav
  rw [lg_entry_eq]
  generalize (lg_sl av ++ List.replicate (M.2.2.1 - (lg_sl av).length) Slot.unset).toArray = ls at hl0 ⊢
  have hL : zL ls M.2.2.1 lv := ⟨hl0.1, hl0.2.1, fun i v hi => by
    rw [← hl] at hi
    have := zent_args av 0 i v (zg_zpad _ _ _ _ hi)
    rw [Nat.zero_add] at this
    exact hl0.2.2 _ this⟩
  refine K d p e _ s m av.toArray below meth c _ hd ⟨hx, hb, hml, hown, fun w hw => hts w (List.mem_cons_of_mem _ hw), hK, ⟨Nat.le_refl _, Nat.le_refl _⟩, ⟨Nat.le_refl _, Nat.le_refl _⟩, hin⟩ ?_ s.heap [] ls hH (fun q hq => by cases hq) hL
  intro r h' n' H locs ls cells slots pc hQ hH' hlc hc hs hR
  refine W.widen (k := mc) (n := ms) hc hs ?_
  have hq : ∀ t : State, t.heap = H → s.WarmedH t.vm → ∃ (r1 : Option Value) (h1 : zF) (n1 : Nat), Outcome.returned r = .returned r1 ∧ Q r1 h1 n1 ∧ zHp G t t.heap h1 n1 := fun t ht hW => ⟨r, h', n', rfl, hQ, by rw [ht]; exact hH'.moved hW.alike⟩
  match r, hR, hq with
  | none, hR, hq => exact W.vret hx hb (by rw [hr]; exact hR.1) hq hlc hR.2
  | some (.int v), hR, hq => obtain ⟨⟨ty, h1, h2⟩, h3⟩ := hR; exact W.zret hx hb (by rw [hr]; exact h1) h2 hq hlc h3
  | some (.long v), hR, hq => exact W.lret hx hb (by rw [hr]; exact hR.1) hq hlc hR.2
  | some (.ref v), hR, hq => obtain ⟨⟨nm, h1⟩, h3⟩ := hR; exact W.aret hx hb (by rw [hr]; exact h1) (Or.inl ⟨nm, rfl⟩) (Or.inr ⟨v, rfl⟩) hq hlc h3
theorem zEx.lift {pc' : Nat} {st' : List Value} (f : ∀ {p : Program} {e : Env} {R : Room} {s : State} {m : MethodId} {args : Array Value} {below : List Frame} {meth : Method} {c : Code} {H : Heap} {locs : List Loc} {Qz : State → Prop} {ls : Array Slot}, p.tables.exec = Jvm.exec → c.code = M.2.1 → W p G.1 e R s m args below meth c H locs u.1 u.2 Qz (F0 m pc' ls st') → W p G.1 e R s m args below meth c H locs u.1 u.2 Qz (F0 m pc ls st)) (K : zEx G M k mc ms pc' lv st' h n u Q) : zEx G M k mc ms pc lv st h n u Q := by
  intro d p e R s m args below meth c Qz hk hC hF H locs ls hH hl hL
  exact f hC.1 hC.2.1 (K d p e R s m args below meth c Qz hk hC hF H locs ls hH hl hL)
theorem zEx.lift2 {pc1 pc2 : Nat} {st1 : List Value} {P1 P2 : Prop} (f : ∀ {p : Program} {e : Env} {R : Room} {s : State} {m : MethodId} {args : Array Value} {below : List Frame} {meth : Method} {c : Code} {H : Heap} {locs : List Loc} {Qz : State → Prop} {ls : Array Slot}, p.tables.exec = Jvm.exec → c.code = M.2.1 → (P1 → W p G.1 e R s m args below meth c H locs u.1 u.2 Qz (F0 m pc1 ls st1)) → (P2 → W p G.1 e R s m args below meth c H locs u.1 u.2 Qz (F0 m pc2 ls st1)) → W p G.1 e R s m args below meth c H locs u.1 u.2 Qz (F0 m pc ls st)) (K1 : P1 → zEx G M k mc ms pc1 lv st1 h n u Q) (K2 : P2 → zEx G M k mc ms pc2 lv st1 h n u Q) : zEx G M k mc ms pc lv st h n u Q := by
  intro d p e R s m args below meth c Qz hk hC hF H locs ls hH hl hL
  exact f hC.1 hC.2.1 (fun q => K1 q d p e R s m args below meth c Qz hk hC hF H locs ls hH hl hL) (fun q => K2 q d p e R s m args below meth c Qz hk hC hF H locs ls hH hl hL)
theorem zEx.post {Q' : zQ} (K : zEx G M k mc ms pc lv st h n u Q') (hq : ∀ r h' n', Q' r h' n' → Q r h' n') : zEx G M k mc ms pc lv st h n u Q := by
  intro d p e R s m args below meth c Qz hk hC hF
  exact K d p e R s m args below meth c Qz hk hC (fun r h' n' H locs ls cells slots pc' a1 a2 a3 a4 a5 a6 => hF r h' n' H locs ls cells slots pc' (hq r h' n' a1) a2 a3 a4 a5 a6)
-- constants
theorem x_iconst {z : Int} {v : Int32} (hd : decode M.2.1 pc = .ok (.iconst z, 1)) (hv : Int32.ofInt z = v) (K : zEx G M k mc ms (pc + 1) lv (.int v :: st) h n u Q) : zEx G M k mc ms pc lv st h n u Q := zEx.lift (fun hx hb q => lv_iconst hx hb hd hv q) K
theorem x_bipush {z : Int} {v : Int32} (hd : decode M.2.1 pc = .ok (.bipush z, 2)) (hv : (Int8.ofInt z).toInt32 = v) (K : zEx G M k mc ms (pc + 2) lv (.int v :: st) h n u Q) : zEx G M k mc ms pc lv st h n u Q := zEx.lift (fun hx hb q => lv_bipush hx hb hd hv q) K
theorem x_sipush {z : Int} {v : Int32} (hd : decode M.2.1 pc = .ok (.sipush z, 3)) (hv : (Int16.ofInt z).toInt32 = v) (K : zEx G M k mc ms (pc + 3) lv (.int v :: st) h n u Q) : zEx G M k mc ms pc lv st h n u Q := zEx.lift (fun hx hb q => lv_sipush hx hb hd hv q) K
theorem x_lconst {z : Fin 2} {v : Int64} (hd : decode M.2.1 pc = .ok (.lconst z, 1)) (hv : Int64.ofNat (z : Nat) = v) (K : zEx G M k mc ms (pc + 1) lv (.long v :: st) h n u Q) : zEx G M k mc ms pc lv st h n u Q := zEx.lift (fun hx hb q => lv_lconst hx hb hd hv q) K
theorem x_ldc {i : Nat} {v : Int32} (hd : decode M.2.1 pc = .ok (.ldc i, 2)) (hw : Cond.constant M.1.cls i v ∈ zTbl) (K : zEx G M k mc ms (pc + 2) lv (.int v :: st) h n u Q) : zEx G M k mc ms pc lv st h n u Q := by
  intro d p e R s m args below meth c Qz hk hC hF H locs ls hH hl hL
  exact lv_ldc hC.1 hC.2.1 hC.2.2.2.1 (hC.2.2.2.2.1 _ hw) hd (K d p e R s m args below meth c Qz hk hC hF H locs ls hH hl hL)
theorem x_ldcw {i : Nat} {v : Int32} (hd : decode M.2.1 pc = .ok (.ldc_w i, 3)) (hw : Cond.constant M.1.cls i v ∈ zTbl) (K : zEx G M k mc ms (pc + 3) lv (.int v :: st) h n u Q) : zEx G M k mc ms pc lv st h n u Q := by
  intro d p e R s m args below meth c Qz hk hC hF H locs ls hH hl hL
  exact lv_ldcw hC.1 hC.2.1 hC.2.2.2.1 (hC.2.2.2.2.1 _ hw) hd (K d p e R s m args below meth c Qz hk hC hF H locs ls hH hl hL)
theorem x_ldc2 {i : Nat} {v : Int64} (hd : decode M.2.1 pc = .ok (.ldc2_w i, 3)) (hw : Cond.constantLong M.1.cls i v ∈ zTbl) (K : zEx G M k mc ms (pc + 3) lv (.long v :: st) h n u Q) : zEx G M k mc ms pc lv st h n u Q := by
  intro d p e R s m args below meth c Qz hk hC hF H locs ls hH hl hL
  exact lv_ldc2 hC.1 hC.2.1 hC.2.2.2.1 (hC.2.2.2.2.1 _ hw) hd (K d p e R s m args below meth c Qz hk hC hF H locs ls hH hl hL)
-- loads
theorem x_iload_n {q : Fin 4} {x : Int32} (hd : decode M.2.1 pc = .ok (.iload_n q, 1)) (hv : zg lv q.val = some (.int x)) (K : zEx G M k mc ms (pc + 1) lv (.int x :: st) h n u Q) : zEx G M k mc ms pc lv st h n u Q := by
  intro d p e R s m args below meth c Qz hk hC hF H locs ls hH hl hL
  exact lv_iload_n hC.1 hC.2.1 hd rfl (hL.2.2 _ _ hv) (K d p e R s m args below meth c Qz hk hC hF H locs ls hH hl hL)
theorem x_iload {i : Nat} {x : Int32} (hd : decode M.2.1 pc = .ok (.iload i, 2)) (hv : zg lv i = some (.int x)) (K : zEx G M k mc ms (pc + 2) lv (.int x :: st) h n u Q) : zEx G M k mc ms pc lv st h n u Q := by
  intro d p e R s m args below meth c Qz hk hC hF H locs ls hH hl hL
  exact lv_iload hC.1 hC.2.1 hd (hL.2.2 _ _ hv) (K d p e R s m args below meth c Qz hk hC hF H locs ls hH hl hL)
theorem x_lload_n {q : Fin 4} {x : Int64} (hd : decode M.2.1 pc = .ok (.lload_n q, 1)) (hv : zg lv q.val = some (.long x)) (K : zEx G M k mc ms (pc + 1) lv (.long x :: st) h n u Q) : zEx G M k mc ms pc lv st h n u Q := by
  intro d p e R s m args below meth c Qz hk hC hF H locs ls hH hl hL
  have h1 := hL.2.2 _ _ hv
  exact lv_lload_n hC.1 hC.2.1 hd rfl h1 (K d p e R s m args below meth c Qz hk hC hF H locs ls hH hl hL)
theorem x_lload {i : Nat} {x : Int64} (hd : decode M.2.1 pc = .ok (.lload i, 2)) (hv : zg lv i = some (.long x)) (K : zEx G M k mc ms (pc + 2) lv (.long x :: st) h n u Q) : zEx G M k mc ms pc lv st h n u Q := by
  intro d p e R s m args below meth c Qz hk hC hF H locs ls hH hl hL
  have h1 := hL.2.2 _ _ hv
  exact lv_lload hC.1 hC.2.1 hd h1 (K d p e R s m args below meth c Qz hk hC hF H locs ls hH hl hL)
theorem x_aload_n {q : Fin 4} {x : Nat} (hd : decode M.2.1 pc = .ok (.aload_n q, 1)) (hv : zg lv q.val = some (.ref x)) (K : zEx G M k mc ms (pc + 1) lv (.ref x :: st) h n u Q) : zEx G M k mc ms pc lv st h n u Q := by
  intro d p e R s m args below meth c Qz hk hC hF H locs ls hH hl hL
  exact lv_aload_n hC.1 hC.2.1 hd rfl (hL.2.2 _ _ hv) (K d p e R s m args below meth c Qz hk hC hF H locs ls hH hl hL)
theorem x_aload {i : Nat} {x : Nat} (hd : decode M.2.1 pc = .ok (.aload i, 2)) (hv : zg lv i = some (.ref x)) (K : zEx G M k mc ms (pc + 2) lv (.ref x :: st) h n u Q) : zEx G M k mc ms pc lv st h n u Q := by
  intro d p e R s m args below meth c Qz hk hC hF H locs ls hH hl hL
  exact lv_aload hC.1 hC.2.1 hd (hL.2.2 _ _ hv) (K d p e R s m args below meth c Qz hk hC hF H locs ls hH hl hL)
-- stores
theorem x_istore_n {q : Fin 4} {x : Int32} {lv' : List (Option Value)} (hd : decode M.2.1 pc = .ok (.istore_n q, 1)) (hn : q.val < M.2.2.1) (ho : zok lv q.val = true) (he : zset lv q.val (some (.int x)) = lv') (K : zEx G M k mc ms (pc + 1) lv' st h n u Q) : zEx G M k mc ms pc lv (.int x :: st) h n u Q := by
  intro d p e R s m args below meth c Qz hk hC hF H locs ls hH hl hL
  exact lv_istore_n hC.1 hC.2.1 hd rfl hL.kit hn rfl (fun ls' hL' => K d p e R s m args below meth c Qz hk hC hF H locs ls' hH hl (he ▸ zL.store ho hL'))
theorem x_istore {i : Nat} {x : Int32} {lv' : List (Option Value)} (hd : decode M.2.1 pc = .ok (.istore i, 2)) (hn : i < M.2.2.1) (ho : zok lv i = true) (he : zset lv i (some (.int x)) = lv') (K : zEx G M k mc ms (pc + 2) lv' st h n u Q) : zEx G M k mc ms pc lv (.int x :: st) h n u Q := by
  intro d p e R s m args below meth c Qz hk hC hF H locs ls hH hl hL
  exact lv_istore hC.1 hC.2.1 hd hL.kit hn rfl (fun ls' hL' => K d p e R s m args below meth c Qz hk hC hF H locs ls' hH hl (he ▸ zL.store ho hL'))
theorem x_lstore_n {q : Fin 4} {x : Int64} {lv' : List (Option Value)} (hd : decode M.2.1 pc = .ok (.lstore_n q, 1)) (hn : q.val + 1 < M.2.2.1) (ho : zok lv q.val = true) (he : zset (zset lv q.val (some (.long x))) (q.val + 1) none = lv') (K : zEx G M k mc ms (pc + 1) lv' st h n u Q) : zEx G M k mc ms pc lv (.long x :: st) h n u Q := by
  intro d p e R s m args below meth c Qz hk hC hF H locs ls hH hl hL
  exact lv_lstore_n hC.1 hC.2.1 hd rfl hL.kit hn rfl (fun ls' hL' => K d p e R s m args below meth c Qz hk hC hF H locs ls' hH hl (he ▸ zL.store2 ho hL'))
theorem x_lstore {i : Nat} {x : Int64} {lv' : List (Option Value)} (hd : decode M.2.1 pc = .ok (.lstore i, 2)) (hn : i + 1 < M.2.2.1) (ho : zok lv i = true) (he : zset (zset lv i (some (.long x))) (i + 1) none = lv') (K : zEx G M k mc ms (pc + 2) lv' st h n u Q) : zEx G M k mc ms pc lv (.long x :: st) h n u Q := by
  intro d p e R s m args below meth c Qz hk hC hF H locs ls hH hl hL
  exact lv_lstore hC.1 hC.2.1 hd hL.kit hn rfl (fun ls' hL' => K d p e R s m args below meth c Qz hk hC hF H locs ls' hH hl (he ▸ zL.store2 ho hL'))
theorem x_astore_n {q : Fin 4} {x : Nat} {lv' : List (Option Value)} (hd : decode M.2.1 pc = .ok (.astore_n q, 1)) (hn : q.val < M.2.2.1) (ho : zok lv q.val = true) (he : zset lv q.val (some (.ref x)) = lv') (K : zEx G M k mc ms (pc + 1) lv' st h n u Q) : zEx G M k mc ms pc lv (.ref x :: st) h n u Q := by
  intro d p e R s m args below meth c Qz hk hC hF H locs ls hH hl hL
  exact lv_astore_n hC.1 hC.2.1 hd rfl hL.kit hn rfl (fun ls' hL' => K d p e R s m args below meth c Qz hk hC hF H locs ls' hH hl (he ▸ zL.store ho hL'))
theorem x_astore {i : Nat} {x : Nat} {lv' : List (Option Value)} (hd : decode M.2.1 pc = .ok (.astore i, 2)) (hn : i < M.2.2.1) (ho : zok lv i = true) (he : zset lv i (some (.ref x)) = lv') (K : zEx G M k mc ms (pc + 2) lv' st h n u Q) : zEx G M k mc ms pc lv (.ref x :: st) h n u Q := by
  intro d p e R s m args below meth c Qz hk hC hF H locs ls hH hl hL
  exact lv_astore hC.1 hC.2.1 hd hL.kit hn rfl (fun ls' hL' => K d p e R s m args below meth c Qz hk hC hF H locs ls' hH hl (he ▸ zL.store ho hL'))
theorem x_iinc {i : Nat} {z : Int} {x v : Int32} {lv' : List (Option Value)} (hd : decode M.2.1 pc = .ok (.iinc i z, 3)) (hn : i < M.2.2.1) (hv : zg lv i = some (.int x)) (hz : x + Int32.ofInt z = v) (ho : zok lv i = true) (he : zset lv i (some (.int v)) = lv') (K : zEx G M k mc ms (pc + 3) lv' st h n u Q) : zEx G M k mc ms pc lv st h n u Q := by
  intro d p e R s m args below meth c Qz hk hC hF H locs ls hH hl hL
  obtain ⟨kk, hkk⟩ := List.getElem?_of_mem ((zas_mem (q := (i, Value.int x)) lv 0).mpr ⟨i, by simp, hv⟩)
  exact lv_iinc hC.1 hC.2.1 hd hL.kit hkk hz hn rfl (fun ls' hL' => K d p e R s m args below meth c Qz hk hC hF H locs ls' hH hl (he ▸ zL.store ho hL'))
-- returns
theorem x_ret {r : Option Value} (hq : Q r h n) (hr : zRet M pc r) (hu : u.1 ≤ mc ∧ u.2 ≤ ms) : zEx G M k mc ms pc lv r.toList h n u Q := by
  intro d p e R s m args below meth c Qz hk hC hF H locs ls hH hl hL
  exact hF r h n H locs ls u.1 u.2 pc hq hH hl hu.1 hu.2 hr
theorem x_iret {v : Int32} {ty : FieldType} (hd : decode M.2.1 pc = .ok (.ireturn, 1)) (hty : M.2.2.2 = some ty) (hn : narrow ty (.int v) = .int v) (hu : u.1 ≤ mc ∧ u.2 ≤ ms) (hq : Q (some (.int v)) h n) : zEx G M k mc ms pc lv [.int v] h n u Q := x_ret (r := some (.int v)) hq ⟨⟨ty, hty, hn⟩, hd⟩ hu
theorem x_lret {v : Int64} (hd : decode M.2.1 pc = .ok (.lreturn, 1)) (hty : M.2.2.2 = some .long) (hu : u.1 ≤ mc ∧ u.2 ≤ ms) (hq : Q (some (.long v)) h n) : zEx G M k mc ms pc lv [.long v] h n u Q := x_ret (r := some (.long v)) hq ⟨hty, hd⟩ hu
theorem x_vret (hd : decode M.2.1 pc = .ok (.return_, 1)) (hty : M.2.2.2 = none) (hu : u.1 ≤ mc ∧ u.2 ≤ ms) (hq : Q none h n) : zEx G M k mc ms pc lv [] h n u Q := x_ret (r := none) hq ⟨hty, hd⟩ hu
theorem x_aret {v : Nat} {nm : String} (hd : decode M.2.1 pc = .ok (.areturn, 1)) (hty : M.2.2.2 = some (.object nm)) (hu : u.1 ≤ mc ∧ u.2 ≤ ms) (hq : Q (some (.ref v)) h n) : zEx G M k mc ms pc lv [.ref v] h n u Q := x_ret (r := some (.ref v)) hq ⟨⟨nm, hty⟩, hd⟩ hu
end ZR
