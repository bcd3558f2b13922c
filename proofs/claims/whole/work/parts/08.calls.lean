section ZN
variable {G : zG} {M : zM} {k mc ms pc n : Nat} {lv : List (Option Value)} {st : List Value} {h : zF} {u : Nat × Nat} {Q : zQ}
-- new cells
theorem x_new {idx ci : Nat} {r : vw_C} {fs : List Value} (hd : decode M.2.1 pc = .ok (.new idx, 3)) (hr : zCl[ci]? = some r) (hin : ∀ w ∈ u_ws r.1 r.2.1 r.2.2, w ∈ zTbl) (hw : Cond.classLink M.1.cls idx r.1 ∈ zTbl ∧ Cond.instantiable r.1 r.2.2 ∈ zTbl ∧ Cond.initialized r.1 ∈ zTbl) (ty : Nat → FieldType) (hty : ∀ k, k < r.2.2 → parseFieldDescriptor (r.2.1 k).2.2.1 = some (ty k)) (hfs : ∀ j, j < r.2.2 → defaultValue (ty j) = vp_V fs j) (hu : u.1 + 1 ≤ mc ∧ u.2 + r.2.2 ≤ ms) (K : zEx G M k mc ms (pc + 3) lv (.ref n :: st) (va_up h n (some (.inr (ci, fs)))) (n + 1) (u.1 + 1, u.2 + r.2.2) Q) : zEx G M k mc ms pc lv st h n u Q := by
  intro d p e R s m args below meth c Qz hkd hC hF H locs ls hH hl hL
  obtain ⟨hx, hb, hml, hown, hts, hK, hR, hR2, hnm⟩ := id hC
  obtain ⟨C, T, N⟩ := r
  have hKn := hK.1.1 ci _ hr
  refine W.newcK hx hb hown (hts _ hw.1) (hts _ hw.2.1) (hts _ hw.2.2) rfl hd (Nat.le_trans hu.1 hR2.1) (Nat.le_trans hu.2 hR2.2) hKn.2.1 hH.1 fun H1 kC hkC e1 z1 o1 => ?_
  exact K d p e R s m args below meth c Qz hkd hC hF H1 locs ls (hH.push z1 o1 ⟨_, hr, (u_born ty hts hin hKn hkC e1 hty).to hfs⟩) hl hL
theorem x_newa {at0 : ArrayType} {ty : FieldType} {i : Int32} {N : Nat} {a0 : vp_A} (hd : decode M.2.1 pc = .ok (.newarray at0, 2)) (hty : newarray.typeOf at0 = ty) (hw : Cond.arrayClass ty ∈ zTbl) (ha : ∀ cA : ClassId, vp_cell cA a0 = arrV cA N (fun _ => defaultValue ty)) (hn : ¬ i < 0) (hN : i.toNatClampNeg = N) (hbytes : N * componentBytes ty ≤ 536870912) (hu : u.1 + 1 ≤ mc ∧ u.2 + N ≤ ms) (K : zEx G M k mc ms (pc + 2) lv (.ref n :: st) (va_up h n (some (.inl (ty, a0)))) (n + 1) (u.1 + 1, u.2 + N) Q) : zEx G M k mc ms pc lv (.int i :: st) h n u Q := by
  intro d p e R s m args below meth c Qz hkd hC hF H locs ls hH hl hL
  obtain ⟨hx, hb, hml, hown, hts, hK, hR, hR2, hnm⟩ := id hC
  subst hty
  refine va_newaK hx hb (hts _ hw) rfl hd rfl hn hN hbytes (Nat.le_trans hu.1 hR2.1) (Nat.le_trans hu.2 hR2.2) hH.1 fun H1 cA e1 z1 o1 hAr hNm => ?_
  refine K d p e R s m args below meth c Qz hkd hC hF H1 locs ls (hH.push z1 o1 ⟨cA, ⟨hAr, by cases at0 <;> exact hNm⟩, ?_⟩) hl hL
  rw [e1]
  exact congrArg some (ha cA).symm
theorem x_newq {idx : Nat} {i : Int32} {N : Nat} (hd : decode M.2.1 pc = .ok (.anewarray idx, 3)) (hw : Cond.classLink M.1.cls idx "ShakenParcels$Scene" ∈ zTbl) (hn : ¬ i < 0) (hN : i.toNatClampNeg = N) (hbytes : N * 4 ≤ 536870912) (hu : u.1 + 1 ≤ mc ∧ u.2 + N ≤ ms) (K : zEx G M k mc ms (pc + 3) lv (.ref n :: st) (va_up h n (some (.inl (.object "ShakenParcels$Scene", N, .inr (.inr (.inr (.inr (fun _ => none)))))))) (n + 1) (u.1 + 1, u.2 + N) Q) : zEx G M k mc ms pc lv (.int i :: st) h n u Q := by
  intro d p e R s m args below meth c Qz hkd hC hF H locs ls hH hl hL
  obtain ⟨hx, hb, hml, hown, hts, hK, hR, hR2, hnm⟩ := id hC
  subst hN
  refine W.anew hx hb hown (hts _ hw) (va_AO.use hK.2.2.2.2.2.2.2.2) rfl hd rfl hn hbytes (Nat.le_trans hu.1 hR2.1) (Nat.le_trans hu.2 hR2.2) fun cA kA comp f1 f2 f3 f4 => ?_
  have hHs : H.size = n := hH.1
  generalize hH1 : H.push ({ cls := cA, slots := Array.replicate i.toNatClampNeg .null, vm := .none } : Cell) = H1
  have z1 : H1.size = n + 1 := by rw [← hH1, Array.size_push, hHs]
  have e1 : H1[n]? = some (arrV cA i.toNatClampNeg (fun _ => .null)) := by rw [← hH1, ← hHs, Array.getElem?_push_size, ← arrV_new]
  have o1 : ∀ q : Nat, q < n → H1[q]? = H[q]? := fun q hq => by rw [← hH1, Array.getElem?_push, if_neg (by omega)]
  have hAr : ArrOfT s cA (.object "ShakenParcels$Scene") := fun N z => ⟨(fun k h => by cases h), kA, f2, comp, f3⟩
  rw [hHs]
  refine K d p e R s m args below meth c Qz hkd hC hF H1 locs ls (hH.push z1 o1 ⟨cA, ⟨hAr, ⟨kA, comp, f2, f3, f4, f1⟩⟩, ?_⟩) hl hL
  rw [e1]
  rfl
-- the law's script
theorem zHp.S {s : State} {H : Heap} {locs : List Loc} (hH : zHp G s H h n) (hl : ∀ q ∈ locs, zA G q.base) : va_S (zA G) (zH0 G) H locs := ⟨by rw [hH.1]; exact hH.2.1, fun q hq _ => hH.2.2.1 q hq, hl⟩
theorem x_sld {i : Int32} (hd : decode M.2.1 pc = .ok (.iaload, 1)) (hi : vp_in i G.2.2.2.1.2.1) (K : zEx G M k mc ms (pc + 1) lv (.int (G.2.2.2.1.2.2 i.toNatClampNeg) :: st) h n u Q) : zEx G M k mc ms pc lv (.int i :: .ref G.2.2.2.1.1 :: st) h n u Q := by
  intro d p e R s m args below meth c Qz hkd hC hF H locs ls hH hl hL
  obtain ⟨hx, hb, hml, hown, hts, hK, hR, hR2, hnm⟩ := id hC
  exact va_sld hx hb hK.2.2.1 hK.2.2.2.1 (Nat.not_le.mpr hK.2.2.2.1) (zHp.S hH hl) hi hd (K d p e R s m args below meth c Qz hkd hC hF H locs ls hH hl hL)
theorem x_slen (hd : decode M.2.1 pc = .ok (.arraylength, 1)) (K : zEx G M k mc ms (pc + 1) lv (.int (Int32.ofNat G.2.2.2.1.2.1) :: st) h n u Q) : zEx G M k mc ms pc lv (.ref G.2.2.2.1.1 :: st) h n u Q := by
  intro d p e R s m args below meth c Qz hkd hC hF H locs ls hH hl hL
  obtain ⟨hx, hb, hml, hown, hts, hK, hR, hR2, hnm⟩ := id hC
  exact va_slen hx hb hK.2.2.1 hK.2.2.2.1 (Nat.not_le.mpr hK.2.2.2.1) (zHp.S hH hl) hd (K d p e R s m args below meth c Qz hkd hC hF H locs ls hH hl hL)
-- calls
/-- what is told of a method ahead of any call -/
def zMd (M' : zM) (na : Nat) : Prop := Cond.code M'.1 M'.2.1 M'.2.2.1 M'.2.2.2 ∈ zTbl ∧ Cond.initialized M'.1.cls ∈ zTbl ∧ (M'.1.cls ≠ "java/lang/invoke/MethodHandle" ∧ M'.1.cls ≠ "java/lang/invoke/VarHandle" ∧ (parseMethodDescriptor M'.1.desc).map (fun d => d.parameters.length) = some na) ∧ M'.2.2.1 ≤ 41
def zLk (own : String) (idx : Nat) (M' : zM) : Prop := Cond.methodLink own idx M'.1 ∈ zTbl ∨ ∃ host, Cond.methodLinkNest own idx M'.1 host ∈ zNest
theorem zGood {M M' : zM} (hc : Cond.code M'.1 M'.2.1 M'.2.2.1 M'.2.2.2 ∈ zTbl) : GoodIn zTbl (zWs M') := by
  intro w hw
  have : w ∈ zTbl := by
    rcases List.mem_cons.mp hw with h | h
    · rw [h]; exact hc
    · exact h
  exact ⟨this, good_of_word (List.mem_filter.mp this).2⟩
/-- behind a call -/
theorem x_run {M' : zM} {mc' ms' : Nat} {Q' : zQ} {rest : List Value} {a0 : Array Value} (K : ∀ (r : Option Value) (h' : zF) (n' : Nat), Q' r h' n' → zEx G M k mc ms (pc + 3) lv (r.toList ++ rest) h' n' (u.1 + mc', u.2 + ms') Q)
    (hr : ∀ (d : Nat) (p : Program) (e : Env) (R : Room) (s : State) (m : MethodId) (args : Array Value) (below : List Frame) (meth : Method) (c : Code), k ≤ d → zCx G M d mc ms p R s m args meth c → ∀ (H : Heap) (locs : List Loc) (ls : Array Slot), zHp G s H h n → zL ls M.2.2.1 lv → va_Run p G.1 e R s m args below meth c H locs u.1 u.2 mc' ms' (F0 m pc ls st) rest (fun _ oc t => ∃ (r : Option Value) (h' : zF) (n' : Nat), oc = .returned r ∧ Q' r h' n' ∧ zHp G t t.heap h' n') (zA G)) : zEx G M k mc ms pc lv st h n u Q := by
  intro d p e R s m args below meth c Qz hkd hC hF H locs ls hH hl hL
  intro T hT X
  obtain ⟨v, st₀, t, T', L, h0, X', hLL, e1, e2, ⟨r, h', n', hv, hp, hb⟩, hst⟩ := hr d p e R s m args below meth c hkd hC H locs ls hH hL T hT X
  cases hv
  have hH' : zHp G s T'.heap h' n' := by
    rw [e1]
    exact hb.moved (Vm.Alike.symm (by rw [← e2]; exact X'.warmed.alike))
  obtain ⟨t2, a1, b1⟩ := K _ h' n' hp d p e R s m args below meth c Qz hkd hC hF T'.heap (locs ++ L) ls hH' (fun q hq => by
      rcases List.mem_append.mp hq with h | h
      · exact hl q h
      · exact hLL q h) hL T' rfl X'
  exact ⟨t2, hst t2 a1, b1⟩
theorem zBlind {av : List Value} : FrameBlind (va_Pc av (fun U => zK G U ∧ zHp G U U.heap h n)) := by
  intro a U g mk q
  obtain ⟨q0, q1, q2⟩ := q
  exact ⟨q0, zK.same (s := U) (U := U.calling g mk a) rfl q1, zHp.moved (u := U) (U := U.calling g mk a) (Vm.Alike.refl U.vm) q2⟩
theorem zRoom {R : Room} {d k' k maxL : Nat} (hk : k' + 1 ≤ k) (hkd : k ≤ d) (hR : d ≤ R.frames ∧ 60 * d ≤ R.locals) (hm : maxL ≤ 41) : (d - 1) + 1 ≤ R.frames ∧ 8 + (maxL + 11) + 60 * (d - 1) ≤ R.locals := by
  constructor <;> omega
theorem x_callS {M' : zM} {k' mc' ms' idx na : Nat} {As rest : List Value} {Q' : zQ} (hd : decode M.2.1 pc = .ok (.invokestatic idx, 3)) (hlk : zLk M.1.cls idx M') (hmd : zMd M' na) (hst : Cond.static M'.1 ∈ zTbl) (hk : k' + 1 ≤ k) (hct : zCt G M' k' mc' ms' As h n Q') (hna : As.length = na) (hrest : (rest.map fun v => v.category).sum ≤ 8) (hstk : As.reverse ++ rest = st) (hu : u.1 + mc' ≤ mc ∧ u.2 + ms' ≤ ms)
    (K : ∀ (r : Option Value) (h' : zF) (n' : Nat), Q' r h' n' → zEx G M k mc ms (pc + 3) lv (r.toList ++ rest) h' n' (u.1 + mc', u.2 + ms') Q) : zEx G M k mc ms pc lv st h n u Q := by
  subst hstk
  refine x_run (M' := M') (a0 := #[]) K ?_
  intro d p e R s m args below meth c hkd hC H locs ls hH hL
  obtain ⟨hx, hb, hml, hown, hts, hK, hR, hR2, hnm⟩ := id hC
  have hcell : u.1 + mc' ≤ R.cells ∧ u.2 + ms' ≤ R.slots := ⟨Nat.le_trans hu.1 hR2.1, Nat.le_trans hu.2 hR2.2⟩
  have hpre : PreS s H (va_Pc As (fun U => zK G U ∧ zHp G U U.heap h n)) As := ⟨zBlind, fun U hU hW => ⟨rfl, hK.warm hW, by rw [hU]; exact hH.moved hW.alike⟩⟩
  have hrm := zRoom hk hkd hR hmd.2.2.2
  rcases hlk with hlk | ⟨host, hlk⟩
  · exact va_runS (As := As) (rest := rest) ⟨hx, hb, hml, hown, hts⟩ (hct (d - 1) (by omega)) ⟨callB_of na hts (zGood (M := M) hmd.1) rfl rfl rfl (hts _ hmd.2.1) (hts _ hlk) hmd.2.2.1 hrm, hts _ hst⟩ hpre rfl hna hL.1 rfl (lv_room hrest) hd hcell
  · exact va_runSN (As := As) (rest := rest) (host := host) ⟨hx, hb, hml, hown, hts⟩ (hct (d - 1) (by omega)) ⟨va_cnB na hts (zGood (M := M) hmd.1) rfl rfl rfl (hK.2.1 _ hlk) (hts _ hmd.2.1) hmd.2.2.1 hrm, hts _ hst, trivial⟩ hpre rfl hna hL.1 rfl (lv_room hrest) hd hcell
theorem x_callV {M' : zM} {k' mc' ms' idx na a ci : Nat} {fs As rest : List Value} {r : vw_C} {Q' : zQ} (hd : decode M.2.1 pc = .ok (.invokevirtual idx, 3)) (hlk : zLk M.1.cls idx M') (hmd : zMd M' na) (hinst : Cond.instanceMethod M'.1 ∈ zTbl ∧ Cond.selects M'.1.cls M'.1 M'.1 ∈ zTbl) (hr : zCl[ci]? = some r) (hrc : r.1 = M'.1.cls) (hc : h a = some (.inr (ci, fs))) (hk : k' + 1 ≤ k) (hct : zCt G M' k' mc' ms' (.ref a :: As) h n Q') (hna : As.length = na) (hrest : (rest.map fun v => v.category).sum ≤ 8) (hstk : As.reverse ++ .ref a :: rest = st) (hu : u.1 + mc' ≤ mc ∧ u.2 + ms' ≤ ms)
    (K : ∀ (r : Option Value) (h' : zF) (n' : Nat), Q' r h' n' → zEx G M k mc ms (pc + 3) lv (r.toList ++ rest) h' n' (u.1 + mc', u.2 + ms') Q) : zEx G M k mc ms pc lv st h n u Q := by
  subst hstk
  refine x_run (M' := M') (a0 := #[]) K ?_
  intro d p e R s m args below meth c hkd hC H locs ls hH hL
  obtain ⟨hx, hb, hml, hown, hts, hK, hR, hR2, hnm⟩ := id hC
  have hcell : u.1 + mc' ≤ R.cells ∧ u.2 + ms' ≤ R.slots := ⟨Nat.le_trans hu.1 hR2.1, Nat.le_trans hu.2 hR2.2⟩
  have hrecv := va_recv (q := r) (q0 := 0) hK.1 (zP1 (hH.2.2.2 a _ hc).2.2) hr rfl
  rw [hrc] at hrecv
  have hpre : PreV s H M'.1.cls a (va_Pc (.ref a :: As) (fun U => zK G U ∧ zHp G U U.heap h n)) As := ⟨zBlind, hrecv, fun U hU hW => ⟨rfl, hK.warm hW, by rw [hU]; exact hH.moved hW.alike⟩⟩
  have hrm := zRoom hk hkd hR hmd.2.2.2
  rcases hlk with hlk | ⟨host, hlk⟩
  · exact va_runV (C := M'.1.cls) (As := As) (rest := rest) ⟨hx, hb, hml, hown, hts⟩ (hct (d - 1) (by omega)) ⟨callB_of na hts (zGood (M := M) hmd.1) rfl rfl rfl (hts _ hmd.2.1) (hts _ hlk) hmd.2.2.1 hrm, hts _ hinst.1, hts _ hinst.2⟩ hpre rfl hna hL.1 rfl (lv_room hrest) hd hcell
  · exact va_runVN (C := M'.1.cls) (As := As) (rest := rest) (host := host) ⟨hx, hb, hml, hown, hts⟩ (hct (d - 1) (by omega)) ⟨va_cnB na hts (zGood (M := M) hmd.1) rfl rfl rfl (hK.2.1 _ hlk) (hts _ hmd.2.1) hmd.2.2.1 hrm, hts _ hinst.1, hts _ hinst.2⟩ hpre rfl hna hL.1 rfl (lv_room hrest) hd hcell
theorem x_callI {M' : zM} {k' mc' ms' idx na a : Nat} {As rest : List Value} {Q' : zQ} (hd : decode M.2.1 pc = .ok (.invokespecial idx, 3)) (hlk : zLk M.1.cls idx M') (hmd : zMd M' na) (hret : M'.2.2.2 = none) (hnm2 : M'.1.name = "<init>") (hinst : Cond.instanceMethod M'.1 ∈ zTbl) (hk : k' + 1 ≤ k) (hct : zCt G M' k' mc' ms' (.ref a :: As) h n Q') (hna : As.length = na) (hrest : (rest.map fun v => v.category).sum ≤ 8) (hstk : As.reverse ++ .ref a :: rest = st) (hu : u.1 + mc' ≤ mc ∧ u.2 + ms' ≤ ms)
    (K : ∀ (r : Option Value) (h' : zF) (n' : Nat), Q' r h' n' → zEx G M k mc ms (pc + 3) lv (r.toList ++ rest) h' n' (u.1 + mc', u.2 + ms') Q) : zEx G M k mc ms pc lv st h n u Q := by
  subst hstk
  refine x_run (M' := M') (a0 := #[]) K ?_
  intro d p e R s m args below meth c hkd hC H locs ls hH hL
  obtain ⟨hx, hb, hml, hown, hts, hK, hR, hR2, hnm⟩ := id hC
  have hcell : u.1 + mc' ≤ R.cells ∧ u.2 + ms' ≤ R.slots := ⟨Nat.le_trans hu.1 hR2.1, Nat.le_trans hu.2 hR2.2⟩
  have hpre : PreS s H (va_Pc (.ref a :: As) (fun U => zK G U ∧ zHp G U U.heap h n)) (.ref a :: As) := ⟨zBlind, fun U hU hW => ⟨rfl, hK.warm hW, by rw [hU]; exact hH.moved hW.alike⟩⟩
  have hrm := zRoom hk hkd hR hmd.2.2.2
  rcases hlk with hlk | ⟨host, hlk⟩
  · exact va_runI (bytes := M'.2.1) (maxL := M'.2.2.1) (As := As) (rest := rest) ⟨hx, hb, hml, hown, hts⟩ (hct (d - 1) (by omega)) ⟨hret ▸ callB_of na hts (zGood (M := M) hmd.1) rfl rfl rfl (hts _ hmd.2.1) (hts _ hlk) hmd.2.2.1 hrm, hnm2, hts _ hinst⟩ hpre rfl hna hL.1 rfl (lv_room hrest) hd hcell
  · exact va_runIN (bytes := M'.2.1) (maxL := M'.2.2.1) (As := As) (rest := rest) (host := host) ⟨hx, hb, hml, hown, hts⟩ (hct (d - 1) (by omega)) ⟨hret ▸ va_cnB na hts (zGood (M := M) hmd.1) rfl rfl rfl (hK.2.1 _ hlk) (hts _ hmd.2.1) hmd.2.2.1 hrm, hnm2, hts _ hinst⟩ hpre rfl hna hL.1 rfl (lv_room hrest) hd hcell
theorem x_objInit {idx a : Nat} (hd : decode M.2.1 pc = .ok (.invokespecial idx, 3)) (hw : Cond.methodLink M.1.cls idx Lib.objectInit ∈ zTbl ∧ Cond.instanceMethod Lib.objectInit ∈ zTbl ∧ Cond.code Lib.objectInit ⟨#[0xb1]⟩ 1 none ∈ zTbl) (hk : 1 ≤ k) (hrest : (st.map fun v => v.category).sum ≤ 8) (K : zEx G M k mc ms (pc + 3) lv st h n u Q) : zEx G M k mc ms pc lv (.ref a :: st) h n u Q := by
  intro d p e R s m args below meth c Qz hkd hC hF H locs ls hH hl hL
  obtain ⟨hx, hb, hml, hown, hts, hK, hR, hR2, hnm⟩ := id hC
  have h8 := lv_room (m := m) (pc := pc) (ls := ls) (rest := Value.ref a :: st) hrest
  exact W.objInit hx hb hown (hts _ hw.1) (hts _ hw.2.1) (hts _ hw.2.2) rfl (by rw [hml]; exact hL.1) rfl hd (by omega) (by show 2 * (F0 m pc ls (Value.ref a :: st)).monitorRoom + _ + 12 ≤ _; omega) (K d p e R s m args below meth c Qz hkd hC hF H locs ls hH hl hL)
end ZN
