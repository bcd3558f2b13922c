section ZS19
variable {G : zG} {n : Nat} {h0 : zF} {t q : Nat} {J : Nat → Nat} {X : Nat → Nat → Nat} {T : zT} {N : Nat → Nat}
theorem sw_takes : ∀ c, c < 128 → cntT c = 0 → zsw 228 100 116 #[172, 228, 228, 149, 228, 121, 228, 228, 228, 228, 195, 228, 102, 228, 228, 228, 83] (c : Int) = some 228 := by decide +kernel
/-- what taking an item comes to -/
def tkP (h0 : zF) (t : Nat) (J : Nat → Nat) (X : Nat → Nat → Nat) (T : zT) (c am : Nat) (l : List Nat) (v : Int32) (h' : zF) : Prop := (v = nI 1 ∧ am = cntT c ∧ ∃ T' J' X', takeT c l T = some T' ∧ tJ J' X' T' ∧ h' = tH h0 t J' X') ∨ (v = nI 0 ∧ (am = cntT c → takeT c l T = none) ∧ h' = tH h0 t J X)
set_option maxRecDepth 100000 in
theorem c_takes {c : Nat} {l : List Nat} (hN : h0 q = some (iA 4 N)) (ho : q < t ∨ t + 14 ≤ q) (hb : ∀ j, j < 4 → N j < 2 ^ 31) (hJ : tJ J X T) (h2 : T 2 0 ≤ 8) (h7 : T 7 0 ≤ 4) (hc : c < 128) (ha4 : l.length ≤ 4) (ha1 : 1 ≤ l.length) (hl : ∀ i, i < l.length → l.getD i 0 = N i) : zPi G MX5_takes 3 [.ref t, .int (nI c), .ref q, .int (nI l.length)] (tH h0 t J X) n (tkP h0 t J X T c l.length l) := by
  refine zCt.of rfl (Nat.le_of_ble_eq_true rfl) rfl ?_
  have hq : ∀ J X, tH h0 t J X q = some (iA 4 N) := fun _ _ => (tH_out ho).trans hN
  have b0 := hb 0 (by decide)
  have b1 := hb 1 (by decide)
  have b2 := hb 2 (by decide)
  have b3 := hb 3 (by decide)
  have e24 : J 24 = T 2 0 := hJ.1.1.1
  have e4 : J 4 = T 7 0 := hJ.1.1.2.1
  refine x_iload_n dX5_takes_0 rfl ?_
  by_cases kt : c = 116
  · subst kt
    refine n_tsw (off := 83) (tgt := 84) dX5_takes_1 (by decide) (by decide +kernel) (by decide) ?_
    have hno : tkP h0 t J X T 116 l.length l (nI 0) (tH h0 t J X) → zEx G MX5_takes 3 0 0 101 [some (.ref t), some (.int (nI 116)), some (.ref q), some (.int (nI l.length))] [] (tH h0 t J X) n (0, 0) (fun r h' n' => ∃ v, r = some (.int v) ∧ tkP h0 t J X T 116 l.length l v h' ∧ n' = n) := by
      intro hp
      refine x_iconst (v := nI 0) dX5_takes_101 (by decide) ?_
      refine x_iret dX5_takes_102 rfl (nar_b false) ⟨Nat.le_refl _, Nat.le_refl _⟩ ?_
      exact ⟨_, rfl, hp, rfl⟩
    refine x_iload_n dX5_takes_84 rfl ?_
    refine x_iconst (v := nI 4) dX5_takes_85 (by decide) ?_
    refine n_icmp_ne (tgt := 101) dX5_takes_86 (by decide) (by omega) (by omega) (fun c1 => ?_) (fun c1 => ?_)
    · exact hno (Or.inr ⟨rfl, fun z => absurd z c1, rfl⟩)
    · refine x_aload_n dX5_takes_89 rfl ?_
      refine x_aload_n dX5_takes_90 rfl ?_
      refine x_cVI1 dX5_takes_91 lkX5_56 mdX5_takesThing isX5_takesThing rfl rfl tH_0 (by decide) (c_takesThing hN ho (by omega) hb) (Nat.le_of_ble_eq_true rfl) ⟨Nat.le_refl _, Nat.le_refl _⟩ ?_
      rintro v h' (⟨rfl, hcd, rfl⟩ | ⟨rfl, hcd, rfl⟩)
      · refine b_if_eq (b := true) (tgt := 101) dX5_takes_94 (by decide) (fun z => by cases z) (fun _ => ?_)
        refine x_iconst (v := nI 1) dX5_takes_97 (by decide) ?_
        refine x_goto (tgt := 102) dX5_takes_98 (by decide) ?_
        refine x_iret dX5_takes_102 rfl (nar_b true) ⟨Nat.le_refl _, Nat.le_refl _⟩ ?_
        refine ⟨_, rfl, Or.inl ⟨rfl, c1, _, _, _, ?_, tJ_thing hJ _ _ _ _, rfl⟩, rfl⟩
        unfold takeT
        rw [hl 0 (by omega), hl 1 (by omega), hl 2 (by omega), hl 3 (by omega)]
        rw [if_pos rfl, if_pos (by omega)]
      · refine b_if_eq (b := false) (tgt := 101) dX5_takes_94 (by decide) (fun _ => ?_) (fun z => by cases z)
        refine hno (Or.inr ⟨rfl, fun _ => ?_, rfl⟩)
        unfold takeT
        rw [hl 0 (by omega), hl 1 (by omega), hl 2 (by omega), hl 3 (by omega)]
        rw [if_pos rfl, if_neg (by omega)]
  by_cases kp : c = 112
  · subst kp
    refine n_tsw (off := 102) (tgt := 103) dX5_takes_1 (by decide) (by decide +kernel) (by decide) ?_
    have hno : tkP h0 t J X T 112 l.length l (nI 0) (tH h0 t J X) → zEx G MX5_takes 3 0 0 120 [some (.ref t), some (.int (nI 112)), some (.ref q), some (.int (nI l.length))] [] (tH h0 t J X) n (0, 0) (fun r h' n' => ∃ v, r = some (.int v) ∧ tkP h0 t J X T 112 l.length l v h' ∧ n' = n) := by
      intro hp
      refine x_iconst (v := nI 0) dX5_takes_120 (by decide) ?_
      refine x_iret dX5_takes_121 rfl (nar_b false) ⟨Nat.le_refl _, Nat.le_refl _⟩ ?_
      exact ⟨_, rfl, hp, rfl⟩
    refine x_iload_n dX5_takes_103 rfl ?_
    refine x_iconst (v := nI 3) dX5_takes_104 (by decide) ?_
    refine n_icmp_ne (tgt := 120) dX5_takes_105 (by decide) (by omega) (by omega) (fun c1 => ?_) (fun c1 => ?_)
    · exact hno (Or.inr ⟨rfl, fun z => absurd z c1, rfl⟩)
    · refine x_aload_n dX5_takes_108 rfl ?_
      refine x_aload_n dX5_takes_109 rfl ?_
      refine x_cVI1 dX5_takes_110 lkX5_60 mdX5_takesParcel isX5_takesParcel rfl rfl tH_0 (by decide) (c_takesParcel hN ho (by omega) hb) (Nat.le_of_ble_eq_true rfl) ⟨Nat.le_refl _, Nat.le_refl _⟩ ?_
      rintro v h' (⟨rfl, hcd, rfl⟩ | ⟨rfl, hcd, rfl⟩)
      · refine b_if_eq (b := true) (tgt := 120) dX5_takes_113 (by decide) (fun z => by cases z) (fun _ => ?_)
        refine x_iconst (v := nI 1) dX5_takes_116 (by decide) ?_
        refine x_goto (tgt := 121) dX5_takes_117 (by decide) ?_
        refine x_iret dX5_takes_121 rfl (nar_b true) ⟨Nat.le_refl _, Nat.le_refl _⟩ ?_
        refine ⟨_, rfl, Or.inl ⟨rfl, c1, _, _, _, ?_, tJ_parcel hJ _ _ _, rfl⟩, rfl⟩
        unfold takeT
        rw [hl 0 (by omega), hl 1 (by omega), hl 2 (by omega)]
        rw [if_neg (by decide), if_pos rfl, if_pos (by omega)]
      · refine b_if_eq (b := false) (tgt := 120) dX5_takes_113 (by decide) (fun _ => ?_) (fun z => by cases z)
        refine hno (Or.inr ⟨rfl, fun _ => ?_, rfl⟩)
        unfold takeT
        rw [hl 0 (by omega), hl 1 (by omega), hl 2 (by omega)]
        rw [if_neg (by decide), if_pos rfl, if_neg (by omega)]
  by_cases ki : c = 105
  · subst ki
    refine n_tsw (off := 121) (tgt := 122) dX5_takes_1 (by decide) (by decide +kernel) (by decide) ?_
    have hno : tkP h0 t J X T 105 l.length l (nI 0) (tH h0 t J X) → zEx G MX5_takes 3 0 0 148 [some (.ref t), some (.int (nI 105)), some (.ref q), some (.int (nI l.length))] [] (tH h0 t J X) n (0, 0) (fun r h' n' => ∃ v, r = some (.int v) ∧ tkP h0 t J X T 105 l.length l v h' ∧ n' = n) := by
      intro hp
      refine x_iconst (v := nI 0) dX5_takes_148 (by decide) ?_
      refine x_iret dX5_takes_149 rfl (nar_b false) ⟨Nat.le_refl _, Nat.le_refl _⟩ ?_
      exact ⟨_, rfl, hp, rfl⟩
    refine x_iload_n dX5_takes_122 rfl ?_
    refine x_iconst (v := nI 2) dX5_takes_123 (by decide) ?_
    refine n_icmp_ne (tgt := 148) dX5_takes_124 (by decide) (by omega) (by omega) (fun c1 => ?_) (fun c1 => ?_)
    · exact hno (Or.inr ⟨rfl, fun z => absurd z c1, rfl⟩)
    · refine x_aload_n dX5_takes_127 rfl ?_
      refine x_aload_n dX5_takes_128 rfl ?_
      refine x_iconst (v := nI 0) dX5_takes_129 (by decide) ?_
      refine x_cSi2 dX5_takes_130 lkX5_63 mdX7_at stX7_at (by decide) (c_atN (hq _ _) (by decide) (by decide)) (Nat.le_of_ble_eq_true rfl) ⟨Nat.le_refl _, Nat.le_refl _⟩ ?_
      refine x_aload_n dX5_takes_133 rfl ?_
      refine x_iconst (v := nI 1) dX5_takes_134 (by decide) ?_
      refine x_cSi2 dX5_takes_135 lkX5_63 mdX7_at stX7_at (by decide) (c_atN (hq _ _) (by decide) (by decide)) (Nat.le_of_ble_eq_true rfl) ⟨Nat.le_refl _, Nat.le_refl _⟩ ?_
      refine x_cVI2 dX5_takes_138 lkX5_67 mdX5_takesTruth isX5_takesTruth rfl rfl tH_0 (by decide) (c_takesTruth (by omega) (by omega) (by omega) (by omega)) (Nat.le_of_ble_eq_true rfl) ⟨Nat.le_refl _, Nat.le_refl _⟩ ?_
      rintro v h' (⟨rfl, hcd, rfl⟩ | ⟨rfl, hcd, rfl⟩)
      · refine b_if_eq (b := true) (tgt := 148) dX5_takes_141 (by decide) (fun z => by cases z) (fun _ => ?_)
        refine x_iconst (v := nI 1) dX5_takes_144 (by decide) ?_
        refine x_goto (tgt := 149) dX5_takes_145 (by decide) ?_
        refine x_iret dX5_takes_149 rfl (nar_b true) ⟨Nat.le_refl _, Nat.le_refl _⟩ ?_
        refine ⟨_, rfl, Or.inl ⟨rfl, c1, _, _, _, ?_, tJ_truth hJ (by omega) (by omega), rfl⟩, rfl⟩
        unfold takeT
        rw [hl 0 (by omega), hl 1 (by omega)]
        rw [if_neg (by decide), if_neg (by decide), if_pos rfl, if_pos (by omega)]
      · refine b_if_eq (b := false) (tgt := 148) dX5_takes_141 (by decide) (fun _ => ?_) (fun z => by cases z)
        refine hno (Or.inr ⟨rfl, fun _ => ?_, rfl⟩)
        unfold takeT
        rw [hl 0 (by omega), hl 1 (by omega)]
        rw [if_neg (by decide), if_neg (by decide), if_pos rfl, if_neg (by omega)]
  by_cases kg : c = 103
  · subst kg
    refine n_tsw (off := 149) (tgt := 150) dX5_takes_1 (by decide) (by decide +kernel) (by decide) ?_
    have hno : tkP h0 t J X T 103 l.length l (nI 0) (tH h0 t J X) → zEx G MX5_takes 3 0 0 171 [some (.ref t), some (.int (nI 103)), some (.ref q), some (.int (nI l.length))] [] (tH h0 t J X) n (0, 0) (fun r h' n' => ∃ v, r = some (.int v) ∧ tkP h0 t J X T 103 l.length l v h' ∧ n' = n) := by
      intro hp
      refine x_iconst (v := nI 0) dX5_takes_171 (by decide) ?_
      refine x_iret dX5_takes_172 rfl (nar_b false) ⟨Nat.le_refl _, Nat.le_refl _⟩ ?_
      exact ⟨_, rfl, hp, rfl⟩
    refine x_iload_n dX5_takes_150 rfl ?_
    refine x_iconst (v := nI 1) dX5_takes_151 (by decide) ?_
    refine n_icmp_ne (tgt := 171) dX5_takes_152 (by decide) (by omega) (by omega) (fun c1 => ?_) (fun c1 => ?_)
    · exact hno (Or.inr ⟨rfl, fun z => absurd z c1, rfl⟩)
    · refine x_aload_n dX5_takes_155 rfl ?_
      refine x_aload_n dX5_takes_156 rfl ?_
      refine x_iconst (v := nI 0) dX5_takes_157 (by decide) ?_
      refine x_cSi2 dX5_takes_158 lkX5_63 mdX7_at stX7_at (by decide) (c_atN (hq _ _) (by decide) (by decide)) (Nat.le_of_ble_eq_true rfl) ⟨Nat.le_refl _, Nat.le_refl _⟩ ?_
      refine x_cVI1 dX5_takes_161 lkX5_71 mdX5_takesScale isX5_takesScale rfl rfl tH_0 (by decide) (c_takesScale (by omega)) (Nat.le_of_ble_eq_true rfl) ⟨Nat.le_refl _, Nat.le_refl _⟩ ?_
      rintro v h' (⟨rfl, hcd, rfl⟩ | ⟨rfl, hcd, rfl⟩)
      · refine b_if_eq (b := true) (tgt := 171) dX5_takes_164 (by decide) (fun z => by cases z) (fun _ => ?_)
        refine x_iconst (v := nI 1) dX5_takes_167 (by decide) ?_
        refine x_goto (tgt := 172) dX5_takes_168 (by decide) ?_
        refine x_iret dX5_takes_172 rfl (nar_b true) ⟨Nat.le_refl _, Nat.le_refl _⟩ ?_
        refine ⟨_, rfl, Or.inl ⟨rfl, c1, _, _, _, ?_, tJ_scale hJ _, rfl⟩, rfl⟩
        unfold takeT
        rw [hl 0 (by omega)]
        rw [if_neg (by decide), if_neg (by decide), if_neg (by decide), if_pos rfl, if_pos (by omega)]
      · refine b_if_eq (b := false) (tgt := 171) dX5_takes_164 (by decide) (fun _ => ?_) (fun z => by cases z)
        refine hno (Or.inr ⟨rfl, fun _ => ?_, rfl⟩)
        unfold takeT
        rw [hl 0 (by omega)]
        rw [if_neg (by decide), if_neg (by decide), if_neg (by decide), if_pos rfl, if_neg (by omega)]
  by_cases kd : c = 100
  · subst kd
    refine n_tsw (off := 172) (tgt := 173) dX5_takes_1 (by decide) (by decide +kernel) (by decide) ?_
    have hno : tkP h0 t J X T 100 l.length l (nI 0) (tH h0 t J X) → zEx G MX5_takes 3 0 0 194 [some (.ref t), some (.int (nI 100)), some (.ref q), some (.int (nI l.length))] [] (tH h0 t J X) n (0, 0) (fun r h' n' => ∃ v, r = some (.int v) ∧ tkP h0 t J X T 100 l.length l v h' ∧ n' = n) := by
      intro hp
      refine x_iconst (v := nI 0) dX5_takes_194 (by decide) ?_
      refine x_iret dX5_takes_195 rfl (nar_b false) ⟨Nat.le_refl _, Nat.le_refl _⟩ ?_
      exact ⟨_, rfl, hp, rfl⟩
    refine x_iload_n dX5_takes_173 rfl ?_
    refine x_iconst (v := nI 1) dX5_takes_174 (by decide) ?_
    refine n_icmp_ne (tgt := 194) dX5_takes_175 (by decide) (by omega) (by omega) (fun c1 => ?_) (fun c1 => ?_)
    · exact hno (Or.inr ⟨rfl, fun z => absurd z c1, rfl⟩)
    · refine x_aload_n dX5_takes_178 rfl ?_
      refine x_aload_n dX5_takes_179 rfl ?_
      refine x_iconst (v := nI 0) dX5_takes_180 (by decide) ?_
      refine x_cSi2 dX5_takes_181 lkX5_63 mdX7_at stX7_at (by decide) (c_atN (hq _ _) (by decide) (by decide)) (Nat.le_of_ble_eq_true rfl) ⟨Nat.le_refl _, Nat.le_refl _⟩ ?_
      refine x_cVI1 dX5_takes_184 lkX5_75 mdX5_takesApart isX5_takesApart rfl rfl tH_0 (by decide) (c_takesApart (by omega)) (Nat.le_of_ble_eq_true rfl) ⟨Nat.le_refl _, Nat.le_refl _⟩ ?_
      rintro v h' (⟨rfl, hcd, rfl⟩ | ⟨rfl, hcd, rfl⟩)
      · refine b_if_eq (b := true) (tgt := 194) dX5_takes_187 (by decide) (fun z => by cases z) (fun _ => ?_)
        refine x_iconst (v := nI 1) dX5_takes_190 (by decide) ?_
        refine x_goto (tgt := 195) dX5_takes_191 (by decide) ?_
        refine x_iret dX5_takes_195 rfl (nar_b true) ⟨Nat.le_refl _, Nat.le_refl _⟩ ?_
        refine ⟨_, rfl, Or.inl ⟨rfl, c1, _, _, _, ?_, tJ_apart hJ _, rfl⟩, rfl⟩
        unfold takeT
        rw [hl 0 (by omega)]
        rw [if_neg (by decide), if_neg (by decide), if_neg (by decide), if_neg (by decide), if_pos rfl, if_pos (by omega)]
      · refine b_if_eq (b := false) (tgt := 194) dX5_takes_187 (by decide) (fun _ => ?_) (fun z => by cases z)
        refine hno (Or.inr ⟨rfl, fun _ => ?_, rfl⟩)
        unfold takeT
        rw [hl 0 (by omega)]
        rw [if_neg (by decide), if_neg (by decide), if_neg (by decide), if_neg (by decide), if_pos rfl, if_neg (by omega)]
  by_cases kn : c = 110
  · subst kn
    refine n_tsw (off := 195) (tgt := 196) dX5_takes_1 (by decide) (by decide +kernel) (by decide) ?_
    have hno : tkP h0 t J X T 110 l.length l (nI 0) (tH h0 t J X) → zEx G MX5_takes 3 0 0 227 [some (.ref t), some (.int (nI 110)), some (.ref q), some (.int (nI l.length))] [] (tH h0 t J X) n (0, 0) (fun r h' n' => ∃ v, r = some (.int v) ∧ tkP h0 t J X T 110 l.length l v h' ∧ n' = n) := by
      intro hp
      refine x_iconst (v := nI 0) dX5_takes_227 (by decide) ?_
      refine x_iret dX5_takes_228 rfl (nar_b false) ⟨Nat.le_refl _, Nat.le_refl _⟩ ?_
      exact ⟨_, rfl, hp, rfl⟩
    refine x_iload_n dX5_takes_196 rfl ?_
    refine x_iconst (v := nI 3) dX5_takes_197 (by decide) ?_
    refine n_icmp_ne (tgt := 227) dX5_takes_198 (by decide) (by omega) (by omega) (fun c1 => ?_) (fun c1 => ?_)
    · exact hno (Or.inr ⟨rfl, fun z => absurd z c1, rfl⟩)
    · refine x_aload_n dX5_takes_201 rfl ?_
      refine x_aload_n dX5_takes_202 rfl ?_
      refine x_iconst (v := nI 0) dX5_takes_203 (by decide) ?_
      refine x_cSi2 dX5_takes_204 lkX5_63 mdX7_at stX7_at (by decide) (c_atN (hq _ _) (by decide) (by decide)) (Nat.le_of_ble_eq_true rfl) ⟨Nat.le_refl _, Nat.le_refl _⟩ ?_
      refine x_aload_n dX5_takes_207 rfl ?_
      refine x_iconst (v := nI 1) dX5_takes_208 (by decide) ?_
      refine x_cSi2 dX5_takes_209 lkX5_63 mdX7_at stX7_at (by decide) (c_atN (hq _ _) (by decide) (by decide)) (Nat.le_of_ble_eq_true rfl) ⟨Nat.le_refl _, Nat.le_refl _⟩ ?_
      refine x_aload_n dX5_takes_212 rfl ?_
      refine x_iconst (v := nI 2) dX5_takes_213 (by decide) ?_
      refine x_cSi2 dX5_takes_214 lkX5_63 mdX7_at stX7_at (by decide) (c_atN (hq _ _) (by decide) (by decide)) (Nat.le_of_ble_eq_true rfl) ⟨Nat.le_refl _, Nat.le_refl _⟩ ?_
      refine x_cVI3 dX5_takes_217 lkX5_78 mdX5_takesSort isX5_takesSort rfl rfl tH_0 (by decide) (c_takesSort (by omega) (by omega) (by omega)) (Nat.le_of_ble_eq_true rfl) ⟨Nat.le_refl _, Nat.le_refl _⟩ ?_
      rintro v h' (⟨rfl, hcd, rfl⟩ | ⟨rfl, hcd, rfl⟩)
      · refine b_if_eq (b := true) (tgt := 227) dX5_takes_220 (by decide) (fun z => by cases z) (fun _ => ?_)
        refine x_iconst (v := nI 1) dX5_takes_223 (by decide) ?_
        refine x_goto (tgt := 228) dX5_takes_224 (by decide) ?_
        refine x_iret dX5_takes_228 rfl (nar_b true) ⟨Nat.le_refl _, Nat.le_refl _⟩ ?_
        refine ⟨_, rfl, Or.inl ⟨rfl, c1, _, _, _, ?_, tJ_sort hJ _ _ _, rfl⟩, rfl⟩
        unfold takeT
        rw [hl 0 (by omega), hl 1 (by omega), hl 2 (by omega)]
        rw [if_neg (by decide), if_neg (by decide), if_neg (by decide), if_neg (by decide), if_neg (by decide), if_pos rfl, if_pos (by omega)]
      · refine b_if_eq (b := false) (tgt := 227) dX5_takes_220 (by decide) (fun _ => ?_) (fun z => by cases z)
        refine hno (Or.inr ⟨rfl, fun _ => ?_, rfl⟩)
        unfold takeT
        rw [hl 0 (by omega), hl 1 (by omega), hl 2 (by omega)]
        rw [if_neg (by decide), if_neg (by decide), if_neg (by decide), if_neg (by decide), if_neg (by decide), if_pos rfl, if_neg (by omega)]
  have hz : cntT c = 0 := by unfold cntT; rw [if_neg kt, if_neg kp, if_neg ki, if_neg kg, if_neg kd, if_neg kn]
  refine n_tsw (off := 228) (tgt := 229) dX5_takes_1 (by omega) (sw_takes c hc hz) (by decide) ?_
  refine x_iconst (v := nI 0) dX5_takes_229 (by decide) ?_
  refine x_iret dX5_takes_230 rfl (nar_b false) ⟨Nat.le_refl _, Nat.le_refl _⟩ ?_
  exact ⟨_, rfl, Or.inr ⟨rfl, fun z => by omega, rfl⟩, rfl⟩
end ZS19
