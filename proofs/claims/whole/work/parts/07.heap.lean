section ZH
variable {G : zG} {M : zM} {k mc ms pc n : Nat} {lv : List (Option Value)} {st : List Value} {h : zF} {u : Nat × Nat} {Q : zQ}
/-- a field's link: class number ci of zCl, its field i, by the pool entry idx of the class own -/
def zFld (own : String) (idx ci i : Nat) : Prop := ∃ r : vw_C, zCl[ci]? = some r ∧ i < r.2.2 ∧ (r.2.1 i).1 = r.1 ∧ (∀ w ∈ u_ws r.1 r.2.1 r.2.2, w ∈ zTbl) ∧ (Cond.fieldLink own idx r.1 (r.2.1 i).2.1 (r.2.1 i).2.2.1 ∈ zTbl ∨ ∃ host, Cond.fieldLinkNest own idx r.1 (r.2.1 i).2.1 (r.2.1 i).2.2.1 host ∈ zNest)
/-- what a store into a field asks of the class's table -/
def zFty (ci i : Nat) (ty : FieldType) (fin : Bool) : Prop := ∀ r : vw_C, zCl[ci]? = some r → ∃ ty0 : Nat → FieldType, (∀ k, k < r.2.2 → parseFieldDescriptor (r.2.1 k).2.2.1 = some (ty0 k)) ∧ (∀ a, a < r.2.2 → ∀ b, b < r.2.2 → a ≠ b → (r.2.1 a).2.1 ≠ (r.2.1 b).2.1) ∧ parseFieldDescriptor (r.2.1 i).2.2.1 = some ty ∧ (r.2.1 i).2.2.2 = fin
theorem zP1 {G : zG} {U : State} {H : Heap} {a ci : Nat} {fs : List Value} (hz : zat G U H a (.inr (ci, fs))) : va_P G.2.1 zCl [(a, .inr (ci, fs))] H := by
  intro k0 q hq
  cases k0 with
  | zero => simp at hq; subst hq; exact hz
  | succ k0 => simp at hq
theorem x_getf {a idx ci i : Nat} {fs : List Value} {v : Value} (hd : decode M.2.1 pc = .ok (.getfield idx, 3)) (hk : zFld M.1.cls idx ci i) (hc : h a = some (.inr (ci, fs))) (hv : fs[i]? = some v) (K : zEx G M k mc ms (pc + 3) lv (v :: st) h n u Q) : zEx G M k mc ms pc lv (.ref a :: st) h n u Q := by
  intro d p e R s m args below meth c Qz hkd hC hF H locs ls hH hl hL
  obtain ⟨hx, hb, hml, hown, hts, hK, hR, hR2, hnm⟩ := id hC
  obtain ⟨⟨C, T, N⟩, h1, h2, h3, h4, h5⟩ := hk
  have hP := zP1 (hH.2.2.2 a _ hc).2.2
  have KK := K d p e R s m args below meth c Qz hkd hC hF H locs ls hH hl hL
  rcases h5 with h5 | ⟨host, h5⟩
  · exact va_get (D := G.2.1) (ci := ci) (C := C) (T := T) (N := N) (ref := C) hx hb hts h4 hown hK.1 hP 0 rfl h1 i h2 (hts _ h5) (fun x hx9 => by simp only at h3; rw [h3] at hx9; exact hx9) hv hd KK
  · exact va_getN (D := G.2.1) (ci := ci) (C := C) (T := T) (N := N) (ref := C) (host := host) hx hb hts h4 hown hK.1 hP 0 rfl h1 i h2 (va_Nw.use rfl (hK.2.1 _ h5)) (fun x hx9 => by simp only at h3; rw [h3] at hx9; exact hx9) hv hd KK
theorem x_putf {a idx ci i : Nat} {fs : List Value} {v : Value} {ty : FieldType} (hd : decode M.2.1 pc = .ok (.putfield idx, 3)) (hk : zFld M.1.cls idx ci i) (hty : zFty ci i ty false) (hc : h a = some (.inr (ci, fs))) (hn : narrow ty v = v) (hfit : fits ty v = true) (hlen : i < fs.length) (K : zEx G M k mc ms (pc + 3) lv st (va_up h a (some (.inr (ci, fs.set i v)))) n u Q) : zEx G M k mc ms pc lv (v :: .ref a :: st) h n u Q := by
  intro d p e R s m args below meth c Qz hkd hC hF H locs ls hH hl hL
  obtain ⟨hx, hb, hml, hown, hts, hK, hR, hR2, hnm⟩ := id hC
  obtain ⟨⟨C, T, N⟩, h1, h2, h3, hin, h5⟩ := hk
  obtain ⟨ty0, t1, t2, t3, t4⟩ := hty _ h1
  have hz := (hH.2.2.2 a _ hc)
  have hap := va_apart (own := M.1.cls) hts hin ty0 t1 t2 hK.1 h1
  obtain ⟨r, g1, cell, q1, q2, q3, q4⟩ := hz.2.2
  have hr : r = (C, T, N) := Option.some.inj (g1.symm.trans h1)
  subst hr
  obtain ⟨hS, hfc, kC, hkC, hkind⟩ := hK.1.1 ci _ h1
  obtain ⟨cf, kf, fi, f, hi, hsl⟩ := hS i h2
  have hlay := hts _ (hin _ (u_in_lay h2))
  unfold u_lay at hlay
  rw [if_neg (by rw [t4]; decide)] at hlay
  have hst := (u_facts hfc hkC (u_lays hts hin h2) hi).1
  have h6 := u_store hfc hkC hkind hlay hi t3 hn hfit
  have hi2 : s.fieldFound? C (T i).2.1 (T i).2.2.1 = some (cf, kf, fi, f) := by
    have : (T i).1 = C := h3
    rw [← this]; exact hi
  have fin : ∀ H' : Heap, H'[a]? = some (cell.setSlot f.slot v) → H'.size = H.size → (∀ q, q ≠ a → H'[q]? = H[q]?) → W p G.1 e R s m args below meth c H' (locs ++ [⟨a, f.slot⟩]) u.1 u.2 Qz (F0 m (pc + 3) ls st) := by
    intro H' e1 e2 e3
    refine K d p e R s m args below meth c Qz hkd hC hF H' _ ls (hH.set hc e2 e3 ?_) ?_ hL
    · rw [hsl] at e1
      exact ⟨_, h1, t_OB.to (V := updV (vp_V fs) i v) ⟨_, e1, q2, q3, t_set q4 hap h2 v⟩ (fun j _ => vp_updV_set hlen v j)⟩
    · intro q hq
      rcases List.mem_append.mp hq with hq | hq
      · exact hl q hq
      · rw [List.mem_singleton.mp hq]; exact hz.1
  rcases h5 with h5 | ⟨host, h5⟩
  · exact W.putK hx hb (f := f) ⟨hown, hts _ h5, ⟨_, _, _, hi2⟩, hst⟩ (by rw [q2]; exact h6) q1 q3 (by rw [hsl]; exact k2_hasslot (q4 i h2)) rfl rfl hd fin
  · exact va_WputK hx hb (f := f) hown (va_Nw.use rfl (hK.2.1 _ h5)) hi2 hst (by rw [q2]; exact h6) q1 q3 (by rw [hsl]; exact k2_hasslot (q4 i h2)) rfl rfl hd fin
theorem x_putF {a idx ci i : Nat} {fs : List Value} {v : Value} {ty : FieldType} (hd : decode M.2.1 pc = .ok (.putfield idx, 3)) (hk : zFld M.1.cls idx ci i) (hty : zFty ci i ty true) (hmn : M.1.name = "<init>") (hcl : ∀ r : vw_C, zCl[ci]? = some r → r.1 = M.1.cls) (hlk : ∀ r : vw_C, zCl[ci]? = some r → Cond.fieldLink M.1.cls idx r.1 (r.2.1 i).2.1 (r.2.1 i).2.2.1 ∈ zTbl) (hc : h a = some (.inr (ci, fs))) (hn : narrow ty v = v) (hfit : fits ty v = true) (hlen : i < fs.length) (K : zEx G M k mc ms (pc + 3) lv st (va_up h a (some (.inr (ci, fs.set i v)))) n u Q) : zEx G M k mc ms pc lv (v :: .ref a :: st) h n u Q := by
  intro d p e R s m args below meth c Qz hkd hC hF H locs ls hH hl hL
  obtain ⟨hx, hb, hml, hown, hts, hK, hR, hR2, hnm⟩ := id hC
  obtain ⟨⟨C, T, N⟩, h1, h2, h3, hin, h5⟩ := hk
  obtain ⟨ty0, t1, t2, t3, t4⟩ := hty _ h1
  have hz := (hH.2.2.2 a _ hc)
  have hap := va_apart (own := M.1.cls) hts hin ty0 t1 t2 hK.1 h1
  obtain ⟨r, g1, cell, q1, q2, q3, q4⟩ := hz.2.2
  have hr : r = (C, T, N) := Option.some.inj (g1.symm.trans h1)
  subst hr
  obtain ⟨hS, hfc, kC, hkC, hkind⟩ := hK.1.1 ci _ h1
  obtain ⟨cf, kf, fi, f, hi, hsl⟩ := hS i h2
  have hlay := hts _ (hin _ (u_in_lay h2))
  unfold u_lay at hlay
  rw [if_pos t4] at hlay
  have hst := (u_facts hfc hkC (u_lays hts hin h2) hi).1
  have hC9 : C = M.1.cls := hcl _ h1
  have h39 : (T i).1 = C := h3
  have hcf : m.cls = cf := by
    obtain ⟨_, _, c', _, _, _, -, -, hf', -, -, -, hown2, -⟩ := Cond.laysFinal_spec hlay
    have e1 : c' = cf := by have := hi.symm.trans hf'; simp at this; exact this.1.symm
    rw [h39, hC9] at hown2
    rw [← e1]; exact Option.some.inj (hown.symm.trans hown2)
  have h6 := u_fits hfc hkC hkind (Or.inr hlay) hi t3 hn hfit
  have hi2 : s.fieldFound? C (T i).2.1 (T i).2.2.1 = some (cf, kf, fi, f) := by
    rw [← h39]; exact hi
  refine W.putFinK hx hb hown (hts _ (hlk _ h1)) hi2 hst hcf (hnm.trans hmn) (by rw [q2]; exact h6) q1 q3 (by rw [hsl]; exact k2_hasslot (q4 i h2)) rfl rfl hd fun H' e1 e2 e3 => ?_
  refine K d p e R s m args below meth c Qz hkd hC hF H' _ ls (hH.set hc e2 e3 ?_) ?_ hL
  · rw [hsl] at e1
    exact ⟨_, h1, t_OB.to (V := updV (vp_V fs) i v) ⟨_, e1, q2, q3, t_set q4 hap h2 v⟩ (fun j _ => vp_updV_set hlen v j)⟩
  · intro q hq
    rcases List.mem_append.mp hq with hq | hq
    · exact hl q hq
    · rw [List.mem_singleton.mp hq]; exact hz.1
-- arrays
theorem zK.arr {G : zG} {U : State} {cA : ClassId} {ty : FieldType} (hK : zK G U) (hA : ArrOfT U cA ty ∧ va_RA U cA ty) : va_K G.2.1 zCl [(cA, ty)] U := ⟨hK.1.1, fun k0 q hq => by
  cases k0 with
  | zero => simp at hq; subst hq; exact hA
  | succ k0 => simp at hq⟩
theorem zPa {D : va_G} {H : Heap} {a : Nat} {cA : ClassId} {x : vp_A} (hz : H[a]? = some (vp_cell cA x)) : va_P D zCl [(a, .inl (cA, x))] H := by
  intro k0 q hq
  cases k0 with
  | zero => simp at hq; subst hq; exact hz
  | succ k0 => simp at hq
theorem x_iald {a len : Nat} {f : Nat → Int32} {i : Int32} (hd : decode M.2.1 pc = .ok (.iaload, 1)) (hc : h a = some (.inl (.int, len, .inl f))) (hi : vp_in i len) (K : zEx G M k mc ms (pc + 1) lv (.int (f i.toNatClampNeg) :: st) h n u Q) : zEx G M k mc ms pc lv (.int i :: .ref a :: st) h n u Q := by
  intro d p e R s m args below meth c Qz hkd hC hF H locs ls hH hl hL
  obtain ⟨hx, hb, hml, hown, hts, hK, hR, hR2, hnm⟩ := id hC
  obtain ⟨cA, hA, hz⟩ := (hH.2.2.2 a _ hc).2.2
  exact va_iald hx hb (hK.arr hA) (zPa hz) 0 0 rfl rfl hi hd (K d p e R s m args below meth c Qz hkd hC hF H locs ls hH hl hL)
theorem x_zald {a len : Nat} {f : Nat → Int32} {i : Int32} (hd : decode M.2.1 pc = .ok (.baload, 1)) (hc : h a = some (.inl (.boolean, len, .inl f))) (hi : vp_in i len) (K : zEx G M k mc ms (pc + 1) lv (.int (f i.toNatClampNeg) :: st) h n u Q) : zEx G M k mc ms pc lv (.int i :: .ref a :: st) h n u Q := by
  intro d p e R s m args below meth c Qz hkd hC hF H locs ls hH hl hL
  obtain ⟨hx, hb, hml, hown, hts, hK, hR, hR2, hnm⟩ := id hC
  obtain ⟨cA, hA, hz⟩ := (hH.2.2.2 a _ hc).2.2
  exact va_zald hx hb (hK.arr hA) (zPa hz) 0 0 rfl rfl hi hd (K d p e R s m args below meth c Qz hkd hC hF H locs ls hH hl hL)
theorem x_cald {a len : Nat} {f : Nat → Int32} {i : Int32} (hd : decode M.2.1 pc = .ok (.caload, 1)) (hc : h a = some (.inl (.char, len, .inl f))) (hi : vp_in i len) (K : zEx G M k mc ms (pc + 1) lv (.int (f i.toNatClampNeg) :: st) h n u Q) : zEx G M k mc ms pc lv (.int i :: .ref a :: st) h n u Q := by
  intro d p e R s m args below meth c Qz hkd hC hF H locs ls hH hl hL
  obtain ⟨hx, hb, hml, hown, hts, hK, hR, hR2, hnm⟩ := id hC
  obtain ⟨cA, hA, hz⟩ := (hH.2.2.2 a _ hc).2.2
  exact va_cald hx hb (hK.arr hA) (zPa hz) 0 0 rfl rfl hi hd (K d p e R s m args below meth c Qz hkd hC hF H locs ls hH hl hL)
theorem x_lald {a len : Nat} {f : Nat → Int64} {i : Int32} (hd : decode M.2.1 pc = .ok (.laload, 1)) (hc : h a = some (.inl (.long, len, .inr (.inl f)))) (hi : vp_in i len) (K : zEx G M k mc ms (pc + 1) lv (.long (f i.toNatClampNeg) :: st) h n u Q) : zEx G M k mc ms pc lv (.int i :: .ref a :: st) h n u Q := by
  intro d p e R s m args below meth c Qz hkd hC hF H locs ls hH hl hL
  obtain ⟨hx, hb, hml, hown, hts, hK, hR, hR2, hnm⟩ := id hC
  obtain ⟨cA, hA, hz⟩ := (hH.2.2.2 a _ hc).2.2
  exact va_lald hx hb (hK.arr hA) (zPa hz) 0 0 rfl rfl hi hd (K d p e R s m args below meth c Qz hkd hC hF H locs ls hH hl hL)
theorem x_aald {a len : Nat} {C : String} {f : Nat → Option Nat} {i : Int32} (hd : decode M.2.1 pc = .ok (.aaload, 1)) (hc : h a = some (.inl (.object C, len, .inr (.inr (.inr (.inr f)))))) (hi : vp_in i len) (K : zEx G M k mc ms (pc + 1) lv (va_rf (f i.toNatClampNeg) :: st) h n u Q) : zEx G M k mc ms pc lv (.int i :: .ref a :: st) h n u Q := by
  intro d p e R s m args below meth c Qz hkd hC hF H locs ls hH hl hL
  obtain ⟨hx, hb, hml, hown, hts, hK, hR, hR2, hnm⟩ := id hC
  obtain ⟨cA, hA, hz⟩ := (hH.2.2.2 a _ hc).2.2
  exact va_aldq hx hb (hK.arr hA) (zPa hz) 0 0 rfl rfl hi hd (K d p e R s m args below meth c Qz hkd hC hF H locs ls hH hl hL)
theorem x_alen {a : Nat} {ty : FieldType} {x : vp_A} {v : Int32} (hd : decode M.2.1 pc = .ok (.arraylength, 1)) (hc : h a = some (.inl (ty, x))) (hv : Int32.ofNat x.1 = v) (K : zEx G M k mc ms (pc + 1) lv (.int v :: st) h n u Q) : zEx G M k mc ms pc lv (.ref a :: st) h n u Q := by
  intro d p e R s m args below meth c Qz hkd hC hF H locs ls hH hl hL
  obtain ⟨hx, hb, hml, hown, hts, hK, hR, hR2, hnm⟩ := id hC
  obtain ⟨cA, hA, hz⟩ := (hH.2.2.2 a _ hc).2.2
  exact va_alen hx hb (hK.arr hA) (zPa hz) 0 0 rfl rfl hv hd (K d p e R s m args below meth c Qz hkd hC hF H locs ls hH hl hL)
theorem zlocs {G : zG} {locs : List Loc} {a i : Nat} (hl : ∀ q ∈ locs, zA G q.base) (ha : (zH0 G).size ≤ a) : ∀ q ∈ locs ++ [(⟨a, i⟩ : Loc)], zA G q.base := by
  intro q hq
  rcases List.mem_append.mp hq with hq | hq
  · exact hl q hq
  · rw [List.mem_singleton.mp hq]; exact ha
theorem zupv {α : Type} (f : Nat → α) (g : α → Value) (k : Nat) (x : α) : updV (fun j => g (f j)) k (g x) = fun j => g (va_up f k x j) := by
  funext q
  by_cases hq : q = k
  · subst hq; simp [updV, va_up]
  · simp [updV, va_up, hq]
theorem x_iast {a len : Nat} {f : Nat → Int32} {i x : Int32} (hd : decode M.2.1 pc = .ok (.iastore, 1)) (hc : h a = some (.inl (.int, len, .inl f))) (hi : vp_in i len) (K : zEx G M k mc ms (pc + 1) lv st (va_up h a (some (.inl (.int, len, .inl (va_up f i.toNatClampNeg x))))) n u Q) : zEx G M k mc ms pc lv (.int x :: .int i :: .ref a :: st) h n u Q := by
  intro d p e R s m args below meth c Qz hkd hC hF H locs ls hH hl hL
  obtain ⟨hx, hb, hml, hown, hts, hK, hR, hR2, hnm⟩ := id hC
  have h0 := hH.2.2.2 a _ hc
  obtain ⟨cA, hA, hz⟩ := h0.2.2
  refine W.iast hx hb hz (hA.1 len (fun j => .int (f j))) (fun q => by cases q) (by show ¬ (i < 0 ∨ (arrV _ _ _).slots.size ≤ _); rw [arrV_size]; exact hi) rfl rfl hd fun H1 e1 z oq => ?_
  refine K d p e R s m args below meth c Qz hkd hC hF H1 _ ls (hH.set hc z oq ⟨cA, hA, ?_⟩) (zlocs hl h0.1) hL
  rw [e1]
  dsimp only
  rw [vp_cell_i, vp_cell_i, arrV_store, zupv f (fun x => Value.int x)]
theorem x_zast {a len : Nat} {f : Nat → Int32} {i x : Int32} (hd : decode M.2.1 pc = .ok (.bastore, 1)) (hc : h a = some (.inl (.boolean, len, .inl f))) (hi : vp_in i len) (hn : narrow .boolean (.int x) = .int x) (K : zEx G M k mc ms (pc + 1) lv st (va_up h a (some (.inl (.boolean, len, .inl (va_up f i.toNatClampNeg x))))) n u Q) : zEx G M k mc ms pc lv (.int x :: .int i :: .ref a :: st) h n u Q := by
  intro d p e R s m args below meth c Qz hkd hC hF H locs ls hH hl hL
  obtain ⟨hx, hb, hml, hown, hts, hK, hR, hR2, hnm⟩ := id hC
  have h0 := hH.2.2.2 a _ hc
  obtain ⟨cA, hA, hz⟩ := h0.2.2
  refine W.zast hx hb hz (hA.1 len (fun j => .int (f j))) (fun q => by cases q) (by show ¬ (i < 0 ∨ (arrV _ _ _).slots.size ≤ _); rw [arrV_size]; exact hi) rfl rfl hd fun H1 e1 z oq => ?_
  refine K d p e R s m args below meth c Qz hkd hC hF H1 _ ls (hH.set hc z oq ⟨cA, hA, ?_⟩) (zlocs hl h0.1) hL
  rw [e1, hn]
  dsimp only
  rw [vp_cell_i, vp_cell_i, arrV_store, zupv f (fun x => Value.int x)]
theorem x_cast {a len : Nat} {f : Nat → Int32} {i x : Int32} (hd : decode M.2.1 pc = .ok (.castore, 1)) (hc : h a = some (.inl (.char, len, .inl f))) (hi : vp_in i len) (hn : narrow .char (.int x) = .int x) (K : zEx G M k mc ms (pc + 1) lv st (va_up h a (some (.inl (.char, len, .inl (va_up f i.toNatClampNeg x))))) n u Q) : zEx G M k mc ms pc lv (.int x :: .int i :: .ref a :: st) h n u Q := by
  intro d p e R s m args below meth c Qz hkd hC hF H locs ls hH hl hL
  obtain ⟨hx, hb, hml, hown, hts, hK, hR, hR2, hnm⟩ := id hC
  have h0 := hH.2.2.2 a _ hc
  obtain ⟨cA, hA, hz⟩ := h0.2.2
  refine W.cast hx hb hz (hA.1 len (fun j => .int (f j))) (fun q => by cases q) (by show ¬ (i < 0 ∨ (arrV _ _ _).slots.size ≤ _); rw [arrV_size]; exact hi) rfl rfl hd fun H1 e1 z oq => ?_
  refine K d p e R s m args below meth c Qz hkd hC hF H1 _ ls (hH.set hc z oq ⟨cA, hA, ?_⟩) (zlocs hl h0.1) hL
  rw [e1, hn]
  dsimp only
  rw [vp_cell_i, vp_cell_i, arrV_store, zupv f (fun x => Value.int x)]
theorem x_last {a len : Nat} {f : Nat → Int64} {i : Int32} {x : Int64} (hd : decode M.2.1 pc = .ok (.lastore, 1)) (hc : h a = some (.inl (.long, len, .inr (.inl f)))) (hi : vp_in i len) (K : zEx G M k mc ms (pc + 1) lv st (va_up h a (some (.inl (.long, len, .inr (.inl (va_up f i.toNatClampNeg x)))))) n u Q) : zEx G M k mc ms pc lv (.long x :: .int i :: .ref a :: st) h n u Q := by
  intro d p e R s m args below meth c Qz hkd hC hF H locs ls hH hl hL
  obtain ⟨hx, hb, hml, hown, hts, hK, hR, hR2, hnm⟩ := id hC
  have h0 := hH.2.2.2 a _ hc
  obtain ⟨cA, hA, hz⟩ := h0.2.2
  refine W.last hx hb hz (hA.1 len (fun j => .long (f j))) (fun q => by cases q) (by show ¬ (i < 0 ∨ (arrV _ _ _).slots.size ≤ _); rw [arrV_size]; exact hi) rfl rfl hd fun H1 e1 z oq => ?_
  refine K d p e R s m args below meth c Qz hkd hC hF H1 _ ls (hH.set hc z oq ⟨cA, hA, ?_⟩) (zlocs hl h0.1) hL
  rw [e1]
  dsimp only
  rw [vp_cell_l, vp_cell_l, arrV_store, zupv f (fun x => Value.long x)]
theorem x_aast {a len ci v : Nat} {C : String} {vs : List Value} {r : vw_C} {f : Nat → Option Nat} {i : Int32} (hd : decode M.2.1 pc = .ok (.aastore, 1)) (hc : h a = some (.inl (.object C, len, .inr (.inr (.inr (.inr f)))))) (hvc : h v = some (.inr (ci, vs))) (hr : zCl[ci]? = some r) (hC : r.1 = C) (hi : vp_in i len) (K : zEx G M k mc ms (pc + 1) lv st (va_up h a (some (.inl (.object C, len, .inr (.inr (.inr (.inr (va_up f i.toNatClampNeg (some v))))))))) n u Q) : zEx G M k mc ms pc lv (.ref v :: .int i :: .ref a :: st) h n u Q := by
  intro d p e R s m args below meth c Qz hkd hCx hF H locs ls hH hl hL
  obtain ⟨hx, hb, hml, hown, hts, hK, hR, hR2, hnm⟩ := id hCx
  subst hC
  have h0 := hH.2.2.2 a _ hc
  obtain ⟨cA, hA, hz⟩ := h0.2.2
  have hlt : i.toNatClampNeg < len := Nat.not_le.mp fun q => hi (Or.inr q)
  have h00 : ¬ i < 0 := fun q => hi (Or.inl q)
  obtain ⟨r', hr', cellV, g1, g2, g3, -⟩ := (hH.2.2.2 v _ hvc).2.2
  have hcls := (hK.1.1 ci r hr).2
  obtain ⟨kA, comp, k1, k2, k3, -⟩ := hA.2
  have hcomp : comp = G.2.1.1 ci := Option.some.inj (k3.symm.trans hcls.1)
  subst hcomp
  obtain ⟨kC, hkC, -⟩ := hcls.2
  refine W.aast hx hb hz (fun q h => by cases h) (fun h => by cases h) k1 k2 rfl hkC ⟨h00, by show _ < (arrV _ _ _).slots.size; rw [arrV_size]; exact hlt⟩ g1 (fun q h => by rw [g3] at h; cases h) (by rw [g2]; exact hkC) (by rw [g2]; exact va_assign hcls) rfl rfl hd fun H1 e1 z oq => ?_
  refine K d p e R s m args below meth c Qz hkd hCx hF H1 _ ls (hH.set hc z oq ⟨cA, hA, ?_⟩) (zlocs hl h0.1) hL
  rw [e1]
  dsimp only
  rw [vp_cell_q, vp_cell_q, arrV_store, ← zupv f va_rf]
  rfl
end ZH
