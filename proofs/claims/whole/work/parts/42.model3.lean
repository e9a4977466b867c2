theorem tI_m133 : (-133 : Int32).toInt = -133 := by decide
theorem tI_m226 : (-226 : Int32).toInt = -226 := by decide
def isB (c : Int32) : Bool := decide (c = 37 ∨ c = 38 ∨ c = 42 ∨ c = 43 ∨ c = 45 ∨ c = 47 ∨ c = 60 ∨ c = 61 ∨ c = 62 ∨ c = 124)
/-- one code worked out on a pile -/
def st1 (c : Int32) (nm : Nat → Int32) (s : List Int32) : Option (List Int32) :=
  if c < -6 then
    (if c = -33 then (match s with
      | [] => none
      | x :: r => some ((if x = 0 then 1 else 0) :: r))
    else if c = -126 then (match s with
      | [] => none
      | x :: r => some (-x :: r))
    else if isB (-c) = true then (match s with
      | [] => none
      | x :: r => (match r with
        | [] => none
        | v :: q => some (joinF (-c) v x :: q)))
    else none)
  else some ((if c < 0 then nm (nn (-1 - c)) else c) :: s)
def exC (cs nm : Nat → Int32) : Nat → Nat → List Int32 → Option (List Int32)
  | 0, _, s => some s
  | k + 1, i, s => (st1 (cs i) nm s).bind (exC cs nm k (i + 1))
/-- k codes from i on are an expression of the value v -/
def EX (cs : Nat → Int32) (i k : Nat) (v : (Nat → Int32) → Int32) : Prop := ∀ nm s, exC cs nm k i s = some (v nm :: s)
theorem st1_c {c : Int32} {nm : Nat → Int32} {s t : List Int32} (h : st1 c nm s = some t) : (¬ c < -6 ∧ t = (if c < 0 then nm (nn (-1 - c)) else c) :: s) ∨ (c = -33 ∧ ∃ x r, s = x :: r ∧ t = (if x = 0 then 1 else 0) :: r) ∨ (c = -126 ∧ ∃ x r, s = x :: r ∧ t = -x :: r) ∨ (isB (-c) = true ∧ ∃ x v q, s = x :: v :: q ∧ t = joinF (-c) v x :: q) := by
  unfold st1 at h
  by_cases h1 : c < -6
  · rw [if_pos h1] at h
    by_cases h2 : c = -33
    · rw [if_pos h2] at h
      cases s with
      | nil => cases h
      | cons x r => cases h; exact Or.inr (Or.inl ⟨h2, x, r, rfl, rfl⟩)
    · rw [if_neg h2] at h
      by_cases h3 : c = -126
      · rw [if_pos h3] at h
        cases s with
        | nil => cases h
        | cons x r => cases h; exact Or.inr (Or.inr (Or.inl ⟨h3, x, r, rfl, rfl⟩))
      · rw [if_neg h3] at h
        by_cases h4 : isB (-c) = true
        · rw [if_pos h4] at h
          cases s with
          | nil => cases h
          | cons x r =>
            cases r with
            | nil => cases h
            | cons v q => cases h; exact Or.inr (Or.inr (Or.inr ⟨h4, x, v, q, rfl, rfl⟩))
        · rw [if_neg h4] at h; cases h
  · rw [if_neg h1] at h
    cases h
    exact Or.inl ⟨h1, rfl⟩
def phi (c : Int32) : Int32 := if c < -6 then c - 100 else c
theorem isB_i {c : Int32} (h : isB (-c) = true) : (c.toInt = -37 ∨ c.toInt = -38 ∨ c.toInt = -42 ∨ c.toInt = -43 ∨ c.toInt = -45 ∨ c.toInt = -47 ∨ c.toInt = -60 ∨ c.toInt = -61 ∨ c.toInt = -62 ∨ c.toInt = -124) ∧ (phi c).toInt = c.toInt - 100 ∧ -100 - phi c = -c := by
  have h9 : -c = 37 ∨ -c = 38 ∨ -c = 42 ∨ -c = 43 ∨ -c = 45 ∨ -c = 47 ∨ -c = 60 ∨ -c = 61 ∨ -c = 62 ∨ -c = 124 := of_decide_eq_true h
  have e : c = - -c := (Int32.neg_neg).symm
  rcases h9 with h | h | h | h | h | h | h | h | h | h <;> rw [h] at e <;> subst e <;> decide
theorem phi_n {c : Int32} (h : ¬ c < -6) : phi c = c := if_neg h
abbrev Lw : Type := List (Option ((Nat → Int32) → Int32) × ((Nat → Int32) → Int32))
def evL : List (Option ((Nat → Int32) → Int32) × ((Nat → Int32) → Int32)) → (Nat → Int32) → Int32
  | [], _ => 0
  | (none, v) :: _, nm => v nm
  | (some c, v) :: r, nm => if c nm = 0 then evL r nm else v nm
/-- the lines of a law in the model's rows -/
def MLs (cs as es : Nat → Int32) (T : Nat) : Nat → Nat → List (Option ((Nat → Int32) → Int32) × ((Nat → Int32) → Int32)) → Prop
  | _, _, [] => True
  | j, f, (none, v) :: r => as j = nI f ∧ ∃ k, 1 ≤ k ∧ f + k ≤ T ∧ EX cs f k v ∧ es j = nI (f + k) ∧ MLs cs as es T (j + 1) (f + k) r
  | j, f, (some c, v) :: r => ∃ k1 k2, 1 ≤ k1 ∧ 1 ≤ k2 ∧ f + k1 + k2 ≤ T ∧ EX cs f k1 c ∧ as j = nI (f + k1) ∧ EX cs (f + k1) k2 v ∧ es j = nI (f + k1 + k2) ∧ MLs cs as es T (j + 1) (f + k1 + k2) r
theorem tIx_44 : (44 : Int32).toInt = 44 := by decide
theorem tIx_46 : (46 : Int32).toInt = 46 := by decide
theorem tIx_52 : (52 : Int32).toInt = 52 := by decide
theorem tIx_53 : (53 : Int32).toInt = 53 := by decide
theorem tIx_54 : (54 : Int32).toInt = 54 := by decide
theorem tIx_55 : (55 : Int32).toInt = 55 := by decide
theorem tIx_56 : (56 : Int32).toInt = 56 := by decide
set_option maxHeartbeats 1000000 in
theorem c_X11_joined (V : Vt) (d : Nat) (σ : Sg) (c l r : Int32) (hB : isB c = true) : CT layM V mX11_joined (d) [.int c, .int l, .int r] σ (Ro (joinF c l r) σ) := by
  refine CT.of (own := RX11) rfl (by decide) (Nat.le_of_ble_eq_true rfl) (fun X (hx : Ok V RX11 cX11_joined 3 (d) X) (he : En layM V (some .int) (Ro (joinF c l r) σ) X) => ?_)
  change WS layM V 3 X σ 0 [(0, .int c), (1, .int l), (2, .int r)] []
  refine WS.iload_n hx dX11_joined_0 rfl 0 rfl ?_
  have h8 : c = 37 ∨ c = 38 ∨ c = 42 ∨ c = 43 ∨ c = 45 ∨ c = 47 ∨ c = 60 ∨ c = 61 ∨ c = 62 ∨ c = 124 := of_decide_eq_true hB
  clear hB
  rcases h8 with h | h | h | h | h | h | h | h | h | h
  · subst h
    refine WS.tableIn (off := 143) (tgt := 144) hx dX11_joined_1 (by decide) (by decide) (by decide) (by decide) ?_
    refine WS.iload_n hx dX11_joined_144 rfl 2 rfl ?_
    refine WS.if_ne (tgt := 152) hx dX11_joined_145 (by decide) (fun c145 => ?_) (fun c145 => ?_)
    · skip
      show WS layM V 3 X σ 152 [(0, .int 37), (1, .int l), (2, .int r)] []
      refine WS.iload_n hx dX11_joined_152 rfl 1 rfl ?_
      refine WS.iload_n hx dX11_joined_153 rfl 2 rfl ?_
      refine WS.irem hx dX11_joined_154 (by assumption) ?_
      exact WS.iret hx he dX11_joined_155 (Ro.i (by simp [joinF, *]))
    · skip
      show WS layM V 3 X σ 148 [(0, .int 37), (1, .int l), (2, .int r)] []
      refine WS.iconst (v := 0) hx dX11_joined_148 (by decide) ?_
      refine WS.goto (tgt := 155) hx dX11_joined_149 (by decide) ?_
      exact WS.iret hx he dX11_joined_155 (Ro.i (by simp [joinF, *]))
  · subst h
    refine WS.tableIn (off := 188) (tgt := 189) hx dX11_joined_1 (by decide) (by decide) (by decide) (by decide) ?_
    refine WS.iload_n hx dX11_joined_189 rfl 1 rfl ?_
    refine WS.if_eq (tgt := 201) hx dX11_joined_190 (by decide) (fun c190 => ?_) (fun c190 => ?_)
    · skip
      show WS layM V 3 X σ 201 [(0, .int 38), (1, .int l), (2, .int r)] []
      refine WS.iconst (v := 0) hx dX11_joined_201 (by decide) ?_
      exact WS.iret hx he dX11_joined_202 (Ro.i (by simp [joinF, *]))
    · skip
      show WS layM V 3 X σ 193 [(0, .int 38), (1, .int l), (2, .int r)] []
      refine WS.iload_n hx dX11_joined_193 rfl 2 rfl ?_
      refine WS.if_eq (tgt := 201) hx dX11_joined_194 (by decide) (fun c194 => ?_) (fun c194 => ?_)
      · skip
        show WS layM V 3 X σ 201 [(0, .int 38), (1, .int l), (2, .int r)] []
        refine WS.iconst (v := 0) hx dX11_joined_201 (by decide) ?_
        exact WS.iret hx he dX11_joined_202 (Ro.i (by simp [joinF, *]))
      · skip
        show WS layM V 3 X σ 197 [(0, .int 38), (1, .int l), (2, .int r)] []
        refine WS.iconst (v := 1) hx dX11_joined_197 (by decide) ?_
        refine WS.goto (tgt := 202) hx dX11_joined_198 (by decide) ?_
        exact WS.iret hx he dX11_joined_202 (Ro.i (by simp [joinF, *]))
  · subst h
    refine WS.tableIn (off := 127) (tgt := 128) hx dX11_joined_1 (by decide) (by decide) (by decide) (by decide) ?_
    refine WS.iload_n hx dX11_joined_128 rfl 1 rfl ?_
    refine WS.iload_n hx dX11_joined_129 rfl 2 rfl ?_
    refine WS.imul hx dX11_joined_130 ?_
    exact WS.iret hx he dX11_joined_131 (Ro.i (by simp [joinF, *]))
  · subst h
    refine WS.tableIn (off := 119) (tgt := 120) hx dX11_joined_1 (by decide) (by decide) (by decide) (by decide) ?_
    refine WS.iload_n hx dX11_joined_120 rfl 1 rfl ?_
    refine WS.iload_n hx dX11_joined_121 rfl 2 rfl ?_
    refine WS.iadd hx dX11_joined_122 ?_
    exact WS.iret hx he dX11_joined_123 (Ro.i (by simp [joinF, *]))
  · subst h
    refine WS.tableIn (off := 123) (tgt := 124) hx dX11_joined_1 (by decide) (by decide) (by decide) (by decide) ?_
    refine WS.iload_n hx dX11_joined_124 rfl 1 rfl ?_
    refine WS.iload_n hx dX11_joined_125 rfl 2 rfl ?_
    refine WS.isub hx dX11_joined_126 ?_
    exact WS.iret hx he dX11_joined_127 (Ro.i (by simp [joinF, *]))
  · subst h
    refine WS.tableIn (off := 131) (tgt := 132) hx dX11_joined_1 (by decide) (by decide) (by decide) (by decide) ?_
    refine WS.iload_n hx dX11_joined_132 rfl 2 rfl ?_
    refine WS.if_ne (tgt := 140) hx dX11_joined_133 (by decide) (fun c133 => ?_) (fun c133 => ?_)
    · skip
      show WS layM V 3 X σ 140 [(0, .int 47), (1, .int l), (2, .int r)] []
      refine WS.iload_n hx dX11_joined_140 rfl 1 rfl ?_
      refine WS.iload_n hx dX11_joined_141 rfl 2 rfl ?_
      refine WS.idiv hx dX11_joined_142 (by assumption) ?_
      exact WS.iret hx he dX11_joined_143 (Ro.i (by simp [joinF, *]))
    · skip
      show WS layM V 3 X σ 136 [(0, .int 47), (1, .int l), (2, .int r)] []
      refine WS.iconst (v := 0) hx dX11_joined_136 (by decide) ?_
      refine WS.goto (tgt := 143) hx dX11_joined_137 (by decide) ?_
      exact WS.iret hx he dX11_joined_143 (Ro.i (by simp [joinF, *]))
  · subst h
    refine WS.tableIn (off := 155) (tgt := 156) hx dX11_joined_1 (by decide) (by decide) (by decide) (by decide) ?_
    refine WS.iload_n hx dX11_joined_156 rfl 1 rfl ?_
    refine WS.iload_n hx dX11_joined_157 rfl 2 rfl ?_
    refine WS.icmp_ge (tgt := 165) hx dX11_joined_158 (by decide) (fun c158 => ?_) (fun c158 => ?_)
    · skip
      show WS layM V 3 X σ 165 [(0, .int 60), (1, .int l), (2, .int r)] []
      refine WS.iconst (v := 0) hx dX11_joined_165 (by decide) ?_
      exact WS.iret hx he dX11_joined_166 (Ro.i (by simp [joinF, *]))
    · skip
      show WS layM V 3 X σ 161 [(0, .int 60), (1, .int l), (2, .int r)] []
      refine WS.iconst (v := 1) hx dX11_joined_161 (by decide) ?_
      refine WS.goto (tgt := 166) hx dX11_joined_162 (by decide) ?_
      exact WS.iret hx he dX11_joined_166 (Ro.i (by simp [joinF, *]))
  · subst h
    refine WS.tableIn (off := 166) (tgt := 167) hx dX11_joined_1 (by decide) (by decide) (by decide) (by decide) ?_
    refine WS.iload_n hx dX11_joined_167 rfl 1 rfl ?_
    refine WS.iload_n hx dX11_joined_168 rfl 2 rfl ?_
    refine WS.icmp_ne (tgt := 176) hx dX11_joined_169 (by decide) (fun c169 => ?_) (fun c169 => ?_)
    · skip
      show WS layM V 3 X σ 176 [(0, .int 61), (1, .int l), (2, .int r)] []
      refine WS.iconst (v := 0) hx dX11_joined_176 (by decide) ?_
      exact WS.iret hx he dX11_joined_177 (Ro.i (by simp [joinF, *]))
    · skip
      show WS layM V 3 X σ 172 [(0, .int 61), (1, .int l), (2, .int r)] []
      refine WS.iconst (v := 1) hx dX11_joined_172 (by decide) ?_
      refine WS.goto (tgt := 177) hx dX11_joined_173 (by decide) ?_
      exact WS.iret hx he dX11_joined_177 (Ro.i (by simp [joinF, *]))
  · subst h
    refine WS.tableIn (off := 177) (tgt := 178) hx dX11_joined_1 (by decide) (by decide) (by decide) (by decide) ?_
    refine WS.iload_n hx dX11_joined_178 rfl 1 rfl ?_
    refine WS.iload_n hx dX11_joined_179 rfl 2 rfl ?_
    refine WS.icmp_le (tgt := 187) hx dX11_joined_180 (by decide) (fun c180 => ?_) (fun c180 => ?_)
    · skip
      show WS layM V 3 X σ 187 [(0, .int 62), (1, .int l), (2, .int r)] []
      refine WS.iconst (v := 0) hx dX11_joined_187 (by decide) ?_
      exact WS.iret hx he dX11_joined_188 (Ro.i (by simp [joinF, *]))
    · skip
      show WS layM V 3 X σ 183 [(0, .int 62), (1, .int l), (2, .int r)] []
      refine WS.iconst (v := 1) hx dX11_joined_183 (by decide) ?_
      refine WS.goto (tgt := 188) hx dX11_joined_184 (by decide) ?_
      exact WS.iret hx he dX11_joined_188 (Ro.i (by simp [joinF, *]))
  · subst h
    refine WS.tableOut (tgt := 203) hx dX11_joined_1 (by decide) (by decide) ?_
    refine WS.iload_n hx dX11_joined_203 rfl 1 rfl ?_
    refine WS.if_ne (tgt := 211) hx dX11_joined_204 (by decide) (fun c204 => ?_) (fun c204 => ?_)
    · skip
      show WS layM V 3 X σ 211 [(0, .int 124), (1, .int l), (2, .int r)] []
      refine WS.iconst (v := 1) hx dX11_joined_211 (by decide) ?_
      refine WS.goto (tgt := 216) hx dX11_joined_212 (by decide) ?_
      exact WS.iret hx he dX11_joined_216 (Ro.i (by simp [joinF, *]))
    · skip
      show WS layM V 3 X σ 207 [(0, .int 124), (1, .int l), (2, .int r)] []
      refine WS.iload_n hx dX11_joined_207 rfl 2 rfl ?_
      refine WS.if_eq (tgt := 215) hx dX11_joined_208 (by decide) (fun c208 => ?_) (fun c208 => ?_)
      · skip
        show WS layM V 3 X σ 215 [(0, .int 124), (1, .int l), (2, .int r)] []
        refine WS.iconst (v := 0) hx dX11_joined_215 (by decide) ?_
        exact WS.iret hx he dX11_joined_216 (Ro.i (by simp [joinF, *]))
      · skip
        show WS layM V 3 X σ 211 [(0, .int 124), (1, .int l), (2, .int r)] []
        refine WS.iconst (v := 1) hx dX11_joined_211 (by decide) ?_
        refine WS.goto (tgt := 216) hx dX11_joined_212 (by decide) ?_
        exact WS.iret hx he dX11_joined_216 (Ro.i (by simp [joinF, *]))
set_option maxHeartbeats 1000000 in
theorem lp_X11_workedOut (V : Vt) (d : Nat) (σ : Sg) (cs : Nat → Int32) (f e : Nat) (he9 : e ≤ 120) (hcs : ∀ j, j < e → σ.1 7 j = phi (cs j)) (v0 : Int32) (X : Xt) (hx : Ok V RX11 cX11_workedOut 6 (d + 1) X) (he : En layM V (some .int) (Ri fun v σ' => v0 = v ∧ ∃ P, σ' = stR σ 12 P) X) : ∀ (u k : Nat) (s : List Int32) (t : Nat) (P : Nat → Int32), k + u = e → s.length = t → t + u ≤ 120 → PR P s → exC cs (σ.1 13) u k s = some [v0] → WS layM V 6 X (stR σ 12 P) 5 [(4, .int (nI k)), (3, .int (nI t)), (0, rf V 0), (1, .int (nI f)), (2, .int (nI e))] [] := by
  intro u
  induction u with
  | zero =>
    intro k s t P hku hst ht hP hx9
    have hkI : (nI k).toInt = (k : Int) := nI_c (by omega)
    have heI : (nI e).toInt = (e : Int) := nI_c (by omega)
    have hs : s = [v0] := by have h9 : some s = some [v0] := hx9; exact Option.some.inj h9
    subst hs
    refine WS.iload hx dX11_workedOut_5 0 rfl ?_
    refine WS.iload_n hx dX11_workedOut_7 rfl 4 rfl ?_
    refine WS.icmp_ge (tgt := 165) hx dX11_workedOut_8 (by decide) (fun c8 => ?_) (fun c8 => by exfalso; (try simp only [l_int, tL_0, tL_1, tL_2, tL_4, tL_5, tL_6, tL_7, tL_9, tL_10, tL_12, tL_15, tL_30, tL_40, tL_60, tL_99, tL_255, tL_1023, tL_m1, lc_lt, lc_gt, lc_ge, lc_le, lc_eq, l6_le, l6_lt, l6_eq, tI_m133, tI_m226, i_le, i_lt, i_eq, tI_m100, tI_m1, tI_0, tI_1] at c8); (try simp only [l_int, tL_0, tL_1, tL_2, tL_4, tL_5, tL_6, tL_7, tL_9, tL_10, tL_12, tL_15, tL_30, tL_40, tL_60, tL_99, tL_255, tL_1023, tL_m1, lc_lt, lc_gt, lc_ge, lc_le, lc_eq, l6_le, l6_lt, l6_eq, tI_m133, tI_m226, i_le, i_lt, i_eq, tI_m100, tI_m1, tI_0, tI_1]); omega)
    refine WS.aload_n hx dX11_workedOut_165 rfl 2 rfl ?_
    refine WS.getR hx okX11 lf11_43 rfl rfl dX11_workedOut_166 ?_
    refine WS.iconst (v := 0) hx dX11_workedOut_169 (by decide) ?_
    refine WS.iald hx rfl (vp_dec (by decide)) dX11_workedOut_170 ?_
    exact WS.iret hx he dX11_workedOut_171 ⟨_, rfl, (PR_top hP).symm, P, rfl⟩
  | succ u ih =>
    intro k s t P hku hst ht hP hx9
    have hkI : (nI k).toInt = (k : Int) := nI_c (by omega)
    have heI : (nI e).toInt = (e : Int) := nI_c (by omega)
    have hcd := hcs k (by omega)
    unfold exC at hx9
    obtain ⟨s1, h1, h2⟩ := Option.bind_eq_some_iff.mp hx9
    rcases st1_c h1 with ⟨hc, hs1⟩ | ⟨hc, x, r, hs, hs1⟩ | ⟨hc, x, r, hs, hs1⟩ | ⟨hc, x, v, q, hs, hs1⟩
    · have hcI : -6 ≤ (cs k).toInt := by have h9 := hc; simp only [i_lt, tI_m6] at h9; omega
      refine WS.iload hx dX11_workedOut_5 0 rfl ?_
      refine WS.iload_n hx dX11_workedOut_7 rfl 4 rfl ?_
      refine WS.icmp_ge (tgt := 165) hx dX11_workedOut_8 (by decide) (fun c8 => by exfalso; (try simp only [l_int, tL_0, tL_1, tL_2, tL_4, tL_5, tL_6, tL_7, tL_9, tL_10, tL_12, tL_15, tL_30, tL_40, tL_60, tL_99, tL_255, tL_1023, tL_m1, lc_lt, lc_gt, lc_ge, lc_le, lc_eq, l6_le, l6_lt, l6_eq, tI_m133, tI_m226, i_le, i_lt, i_eq, tI_m100, tI_m1, tI_0, tI_1] at c8); (try simp only [l_int, tL_0, tL_1, tL_2, tL_4, tL_5, tL_6, tL_7, tL_9, tL_10, tL_12, tL_15, tL_30, tL_40, tL_60, tL_99, tL_255, tL_1023, tL_m1, lc_lt, lc_gt, lc_ge, lc_le, lc_eq, l6_le, l6_lt, l6_eq, tI_m133, tI_m226, i_le, i_lt, i_eq, tI_m100, tI_m1, tI_0, tI_1]); omega) (fun c8 => ?_)
      refine WS.aload_n hx dX11_workedOut_11 rfl 2 rfl ?_
      refine WS.getR hx okX11 lf11_28 rfl rfl dX11_workedOut_12 ?_
      refine WS.iload hx dX11_workedOut_15 0 rfl ?_
      refine WS.iald hx rfl (vp_in_nI (by omega) (by decide)) dX11_workedOut_17 ?_
      refine WS.as rfl rfl (congrArg (fun z => Value.int z :: _) (show (stR σ 12 P).1 7 (nn (nI k)) = cs k from by rw [nn_nI (by omega)]; rw [← phi_n hc]; exact hcd)) ?_
      skip
      refine WS.istore (lo' := [(5, .int (cs k)), (4, .int (nI k)), (3, .int (nI t)), (0, rf V 0), (1, .int (nI f)), (2, .int (nI e))]) hx dX11_workedOut_18 (by decide) rfl ?_
      refine WS.iload hx dX11_workedOut_20 0 rfl ?_
      refine WS.if_ge (tgt := 32) hx dX11_workedOut_22 (by decide) (fun c22 => ?_) (fun c22 => ?_)
      · skip
        show WS layM V 6 X (stR σ 12 P) 32 [(5, .int (cs k)), (4, .int (nI k)), (3, .int (nI t)), (0, rf V 0), (1, .int (nI f)), (2, .int (nI e))] []
        refine WS.aload_n hx dX11_workedOut_32 rfl 3 rfl ?_
        refine WS.getR hx okX11 lf11_43 rfl rfl dX11_workedOut_33 ?_
        refine WS.iload_n hx dX11_workedOut_36 rfl 2 rfl ?_
        refine WS.iload hx dX11_workedOut_37 0 rfl ?_
        refine WS.if_lt (tgt := 47) hx dX11_workedOut_39 (by decide) (fun c39 => ?_) (fun c39 => ?_)
        · skip
          show WS layM V 6 X (stR σ 12 P) 47 [(5, .int (cs k)), (4, .int (nI k)), (3, .int (nI t)), (0, rf V 0), (1, .int (nI f)), (2, .int (nI e))] [.int (nI t), rf V 12]
          have hm9 : (-1 - cs k).toInt = -1 - (cs k).toInt := by rw [i_sub (by rw [tI_m1]; (try simp only [l_int, tL_0, tL_1, tL_2, tL_4, tL_5, tL_6, tL_7, tL_9, tL_10, tL_12, tL_15, tL_30, tL_40, tL_60, tL_99, tL_255, tL_1023, tL_m1, lc_lt, lc_gt, lc_ge, lc_le, lc_eq, l6_le, l6_lt, l6_eq, tI_m133, tI_m226, i_le, i_lt, i_eq, tI_m100, tI_m1, tI_0, tI_1] at c8); (try simp only [l_int, tL_0, tL_1, tL_2, tL_4, tL_5, tL_6, tL_7, tL_9, tL_10, tL_12, tL_15, tL_30, tL_40, tL_60, tL_99, tL_255, tL_1023, tL_m1, lc_lt, lc_gt, lc_ge, lc_le, lc_eq, l6_le, l6_lt, l6_eq, tI_m133, tI_m226, i_le, i_lt, i_eq, tI_m100, tI_m1, tI_0, tI_1] at c22); (try simp only [l_int, tL_0, tL_1, tL_2, tL_4, tL_5, tL_6, tL_7, tL_9, tL_10, tL_12, tL_15, tL_30, tL_40, tL_60, tL_99, tL_255, tL_1023, tL_m1, lc_lt, lc_gt, lc_ge, lc_le, lc_eq, l6_le, l6_lt, l6_eq, tI_m133, tI_m226, i_le, i_lt, i_eq, tI_m100, tI_m1, tI_0, tI_1] at c39); (try simp only [l_int, tL_0, tL_1, tL_2, tL_4, tL_5, tL_6, tL_7, tL_9, tL_10, tL_12, tL_15, tL_30, tL_40, tL_60, tL_99, tL_255, tL_1023, tL_m1, lc_lt, lc_gt, lc_ge, lc_le, lc_eq, l6_le, l6_lt, l6_eq, tI_m133, tI_m226, i_le, i_lt, i_eq, tI_m100, tI_m1, tI_0, tI_1]); omega) (by rw [tI_m1]; (try simp only [l_int, tL_0, tL_1, tL_2, tL_4, tL_5, tL_6, tL_7, tL_9, tL_10, tL_12, tL_15, tL_30, tL_40, tL_60, tL_99, tL_255, tL_1023, tL_m1, lc_lt, lc_gt, lc_ge, lc_le, lc_eq, l6_le, l6_lt, l6_eq, tI_m133, tI_m226, i_le, i_lt, i_eq, tI_m100, tI_m1, tI_0, tI_1] at c8); (try simp only [l_int, tL_0, tL_1, tL_2, tL_4, tL_5, tL_6, tL_7, tL_9, tL_10, tL_12, tL_15, tL_30, tL_40, tL_60, tL_99, tL_255, tL_1023, tL_m1, lc_lt, lc_gt, lc_ge, lc_le, lc_eq, l6_le, l6_lt, l6_eq, tI_m133, tI_m226, i_le, i_lt, i_eq, tI_m100, tI_m1, tI_0, tI_1] at c22); (try simp only [l_int, tL_0, tL_1, tL_2, tL_4, tL_5, tL_6, tL_7, tL_9, tL_10, tL_12, tL_15, tL_30, tL_40, tL_60, tL_99, tL_255, tL_1023, tL_m1, lc_lt, lc_gt, lc_ge, lc_le, lc_eq, l6_le, l6_lt, l6_eq, tI_m133, tI_m226, i_le, i_lt, i_eq, tI_m100, tI_m1, tI_0, tI_1] at c39); (try simp only [l_int, tL_0, tL_1, tL_2, tL_4, tL_5, tL_6, tL_7, tL_9, tL_10, tL_12, tL_15, tL_30, tL_40, tL_60, tL_99, tL_255, tL_1023, tL_m1, lc_lt, lc_gt, lc_ge, lc_le, lc_eq, l6_le, l6_lt, l6_eq, tI_m133, tI_m226, i_le, i_lt, i_eq, tI_m100, tI_m1, tI_0, tI_1]); omega), tI_m1]
          refine WS.aload_n hx dX11_workedOut_47 rfl 3 rfl ?_
          refine WS.getR hx okX11 lf11_46 rfl rfl dX11_workedOut_48 ?_
          refine WS.iconst (v := (-1)) hx dX11_workedOut_51 (by decide) ?_
          refine WS.iload hx dX11_workedOut_52 0 rfl ?_
          refine WS.isub hx dX11_workedOut_54 ?_
          refine WS.iald hx rfl (vp_in_iff.mpr (by rw [hm9]; (try simp only [l_int, tL_0, tL_1, tL_2, tL_4, tL_5, tL_6, tL_7, tL_9, tL_10, tL_12, tL_15, tL_30, tL_40, tL_60, tL_99, tL_255, tL_1023, tL_m1, lc_lt, lc_gt, lc_ge, lc_le, lc_eq, l6_le, l6_lt, l6_eq, tI_m133, tI_m226, i_le, i_lt, i_eq, tI_m100, tI_m1, tI_0, tI_1] at c8); (try simp only [l_int, tL_0, tL_1, tL_2, tL_4, tL_5, tL_6, tL_7, tL_9, tL_10, tL_12, tL_15, tL_30, tL_40, tL_60, tL_99, tL_255, tL_1023, tL_m1, lc_lt, lc_gt, lc_ge, lc_le, lc_eq, l6_le, l6_lt, l6_eq, tI_m133, tI_m226, i_le, i_lt, i_eq, tI_m100, tI_m1, tI_0, tI_1] at c22); (try simp only [l_int, tL_0, tL_1, tL_2, tL_4, tL_5, tL_6, tL_7, tL_9, tL_10, tL_12, tL_15, tL_30, tL_40, tL_60, tL_99, tL_255, tL_1023, tL_m1, lc_lt, lc_gt, lc_ge, lc_le, lc_eq, l6_le, l6_lt, l6_eq, tI_m133, tI_m226, i_le, i_lt, i_eq, tI_m100, tI_m1, tI_0, tI_1] at c39); (try simp only [l_int, tL_0, tL_1, tL_2, tL_4, tL_5, tL_6, tL_7, tL_9, tL_10, tL_12, tL_15, tL_30, tL_40, tL_60, tL_99, tL_255, tL_1023, tL_m1, lc_lt, lc_gt, lc_ge, lc_le, lc_eq, l6_le, l6_lt, l6_eq, tI_m133, tI_m226, i_le, i_lt, i_eq, tI_m100, tI_m1, tI_0, tI_1]); omega)) dX11_workedOut_55 ?_
          refine WS.iast hx rfl (vp_in_nI (by omega) (by decide)) dX11_workedOut_56 ?_
          refine WS.iinc (v := nI (t + 1)) (lo' := [(3, .int (nI (t + 1))), (5, .int (cs k)), (4, .int (nI k)), (0, rf V 0), (1, .int (nI f)), (2, .int (nI e))]) hx dX11_workedOut_57 2 rfl (nI_1 t) (by decide) rfl ?_
          refine WS.goto (tgt := 159) hx dX11_workedOut_60 (by decide) ?_
          refine WS.iinc (v := nI (k + 1)) (lo' := [(4, .int (nI (k + 1))), (3, .int (nI (t + 1))), (5, .int (cs k)), (0, rf V 0), (1, .int (nI f)), (2, .int (nI e))]) hx dX11_workedOut_159 2 rfl (nI_1 k) (by decide) rfl ?_
          refine WS.goto (tgt := 5) hx dX11_workedOut_162 (by decide) ?_
          rw [if_pos (by (try simp only [l_int, tL_0, tL_1, tL_2, tL_4, tL_5, tL_6, tL_7, tL_9, tL_10, tL_12, tL_15, tL_30, tL_40, tL_60, tL_99, tL_255, tL_1023, tL_m1, lc_lt, lc_gt, lc_ge, lc_le, lc_eq, l6_le, l6_lt, l6_eq, tI_m133, tI_m226, i_le, i_lt, i_eq, tI_m100, tI_m1, tI_0, tI_1] at c8); (try simp only [l_int, tL_0, tL_1, tL_2, tL_4, tL_5, tL_6, tL_7, tL_9, tL_10, tL_12, tL_15, tL_30, tL_40, tL_60, tL_99, tL_255, tL_1023, tL_m1, lc_lt, lc_gt, lc_ge, lc_le, lc_eq, l6_le, l6_lt, l6_eq, tI_m133, tI_m226, i_le, i_lt, i_eq, tI_m100, tI_m1, tI_0, tI_1] at c22); (try simp only [l_int, tL_0, tL_1, tL_2, tL_4, tL_5, tL_6, tL_7, tL_9, tL_10, tL_12, tL_15, tL_30, tL_40, tL_60, tL_99, tL_255, tL_1023, tL_m1, lc_lt, lc_gt, lc_ge, lc_le, lc_eq, l6_le, l6_lt, l6_eq, tI_m133, tI_m226, i_le, i_lt, i_eq, tI_m100, tI_m1, tI_0, tI_1] at c39); (try simp only [l_int, tL_0, tL_1, tL_2, tL_4, tL_5, tL_6, tL_7, tL_9, tL_10, tL_12, tL_15, tL_30, tL_40, tL_60, tL_99, tL_255, tL_1023, tL_m1, lc_lt, lc_gt, lc_ge, lc_le, lc_eq, l6_le, l6_lt, l6_eq, tI_m133, tI_m226, i_le, i_lt, i_eq, tI_m100, tI_m1, tI_0, tI_1]); omega)] at hs1
          subst hs1
          refine WS.as (show (stI (stR σ 12 P) 12 (nn (nI t)) ((stR σ 12 P).1 13 (nn ((-1) - (cs k))))) = stR σ 12 (upd P s.length (σ.1 13 (nn (-1 - cs k)))) from by rw [stIR, nn_nI (show t < 2 ^ 31 by omega), hst]; try rfl) rfl rfl ?_
          exact WS.los [0, 1, 3, 4, 5] rfl (ih (k + 1) ((σ.1 13 (nn (-1 - cs k))) :: s) _ _ (by omega) (by first | rfl | (simp only [List.length_cons]; omega)) (by omega) (PR_push hP _) h2)
        · skip
          show WS layM V 6 X (stR σ 12 P) 42 [(5, .int (cs k)), (4, .int (nI k)), (3, .int (nI t)), (0, rf V 0), (1, .int (nI f)), (2, .int (nI e))] [.int (nI t), rf V 12]
          refine WS.iload hx dX11_workedOut_42 0 rfl ?_
          refine WS.goto (tgt := 56) hx dX11_workedOut_44 (by decide) ?_
          refine WS.iast hx rfl (vp_in_nI (by omega) (by decide)) dX11_workedOut_56 ?_
          refine WS.iinc (v := nI (t + 1)) (lo' := [(3, .int (nI (t + 1))), (5, .int (cs k)), (4, .int (nI k)), (0, rf V 0), (1, .int (nI f)), (2, .int (nI e))]) hx dX11_workedOut_57 2 rfl (nI_1 t) (by decide) rfl ?_
          refine WS.goto (tgt := 159) hx dX11_workedOut_60 (by decide) ?_
          refine WS.iinc (v := nI (k + 1)) (lo' := [(4, .int (nI (k + 1))), (3, .int (nI (t + 1))), (5, .int (cs k)), (0, rf V 0), (1, .int (nI f)), (2, .int (nI e))]) hx dX11_workedOut_159 2 rfl (nI_1 k) (by decide) rfl ?_
          refine WS.goto (tgt := 5) hx dX11_workedOut_162 (by decide) ?_
          rw [if_neg (by (try simp only [l_int, tL_0, tL_1, tL_2, tL_4, tL_5, tL_6, tL_7, tL_9, tL_10, tL_12, tL_15, tL_30, tL_40, tL_60, tL_99, tL_255, tL_1023, tL_m1, lc_lt, lc_gt, lc_ge, lc_le, lc_eq, l6_le, l6_lt, l6_eq, tI_m133, tI_m226, i_le, i_lt, i_eq, tI_m100, tI_m1, tI_0, tI_1] at c8); (try simp only [l_int, tL_0, tL_1, tL_2, tL_4, tL_5, tL_6, tL_7, tL_9, tL_10, tL_12, tL_15, tL_30, tL_40, tL_60, tL_99, tL_255, tL_1023, tL_m1, lc_lt, lc_gt, lc_ge, lc_le, lc_eq, l6_le, l6_lt, l6_eq, tI_m133, tI_m226, i_le, i_lt, i_eq, tI_m100, tI_m1, tI_0, tI_1] at c22); (try simp only [l_int, tL_0, tL_1, tL_2, tL_4, tL_5, tL_6, tL_7, tL_9, tL_10, tL_12, tL_15, tL_30, tL_40, tL_60, tL_99, tL_255, tL_1023, tL_m1, lc_lt, lc_gt, lc_ge, lc_le, lc_eq, l6_le, l6_lt, l6_eq, tI_m133, tI_m226, i_le, i_lt, i_eq, tI_m100, tI_m1, tI_0, tI_1] at c39); (try simp only [l_int, tL_0, tL_1, tL_2, tL_4, tL_5, tL_6, tL_7, tL_9, tL_10, tL_12, tL_15, tL_30, tL_40, tL_60, tL_99, tL_255, tL_1023, tL_m1, lc_lt, lc_gt, lc_ge, lc_le, lc_eq, l6_le, l6_lt, l6_eq, tI_m133, tI_m226, i_le, i_lt, i_eq, tI_m100, tI_m1, tI_0, tI_1]); omega)] at hs1
          subst hs1
          refine WS.as (show (stI (stR σ 12 P) 12 (nn (nI t)) (cs k)) = stR σ 12 (upd P s.length (cs k)) from by rw [stIR, nn_nI (show t < 2 ^ 31 by omega), hst]; try rfl) rfl rfl ?_
          exact WS.los [0, 1, 3, 4, 5] rfl (ih (k + 1) ((cs k) :: s) _ _ (by omega) (by first | rfl | (simp only [List.length_cons]; omega)) (by omega) (PR_push hP _) h2)
      · skip
        show WS layM V 6 X (stR σ 12 P) 25 [(5, .int (cs k)), (4, .int (nI k)), (3, .int (nI t)), (0, rf V 0), (1, .int (nI f)), (2, .int (nI e))] []
        refine WS.iload hx dX11_workedOut_25 0 rfl ?_
        refine WS.bipush (v := (-100)) hx dX11_workedOut_27 (by decide) ?_
        refine WS.icmp_le (tgt := 63) hx dX11_workedOut_29 (by decide) (fun c29 => by exfalso; (try simp only [l_int, tL_0, tL_1, tL_2, tL_4, tL_5, tL_6, tL_7, tL_9, tL_10, tL_12, tL_15, tL_30, tL_40, tL_60, tL_99, tL_255, tL_1023, tL_m1, lc_lt, lc_gt, lc_ge, lc_le, lc_eq, l6_le, l6_lt, l6_eq, tI_m133, tI_m226, i_le, i_lt, i_eq, tI_m100, tI_m1, tI_0, tI_1] at c8); (try simp only [l_int, tL_0, tL_1, tL_2, tL_4, tL_5, tL_6, tL_7, tL_9, tL_10, tL_12, tL_15, tL_30, tL_40, tL_60, tL_99, tL_255, tL_1023, tL_m1, lc_lt, lc_gt, lc_ge, lc_le, lc_eq, l6_le, l6_lt, l6_eq, tI_m133, tI_m226, i_le, i_lt, i_eq, tI_m100, tI_m1, tI_0, tI_1] at c22); (try simp only [l_int, tL_0, tL_1, tL_2, tL_4, tL_5, tL_6, tL_7, tL_9, tL_10, tL_12, tL_15, tL_30, tL_40, tL_60, tL_99, tL_255, tL_1023, tL_m1, lc_lt, lc_gt, lc_ge, lc_le, lc_eq, l6_le, l6_lt, l6_eq, tI_m133, tI_m226, i_le, i_lt, i_eq, tI_m100, tI_m1, tI_0, tI_1] at c29); (try simp only [l_int, tL_0, tL_1, tL_2, tL_4, tL_5, tL_6, tL_7, tL_9, tL_10, tL_12, tL_15, tL_30, tL_40, tL_60, tL_99, tL_255, tL_1023, tL_m1, lc_lt, lc_gt, lc_ge, lc_le, lc_eq, l6_le, l6_lt, l6_eq, tI_m133, tI_m226, i_le, i_lt, i_eq, tI_m100, tI_m1, tI_0, tI_1]); omega) (fun c29 => ?_)
        refine WS.aload_n hx dX11_workedOut_32 rfl 3 rfl ?_
        refine WS.getR hx okX11 lf11_43 rfl rfl dX11_workedOut_33 ?_
        refine WS.iload_n hx dX11_workedOut_36 rfl 2 rfl ?_
        refine WS.iload hx dX11_workedOut_37 0 rfl ?_
        refine WS.if_lt (tgt := 47) hx dX11_workedOut_39 (by decide) (fun c39 => ?_) (fun c39 => ?_)
        · skip
          show WS layM V 6 X (stR σ 12 P) 47 [(5, .int (cs k)), (4, .int (nI k)), (3, .int (nI t)), (0, rf V 0), (1, .int (nI f)), (2, .int (nI e))] [.int (nI t), rf V 12]
          have hm9 : (-1 - cs k).toInt = -1 - (cs k).toInt := by rw [i_sub (by rw [tI_m1]; (try simp only [l_int, tL_0, tL_1, tL_2, tL_4, tL_5, tL_6, tL_7, tL_9, tL_10, tL_12, tL_15, tL_30, tL_40, tL_60, tL_99, tL_255, tL_1023, tL_m1, lc_lt, lc_gt, lc_ge, lc_le, lc_eq, l6_le, l6_lt, l6_eq, tI_m133, tI_m226, i_le, i_lt, i_eq, tI_m100, tI_m1, tI_0, tI_1] at c8); (try simp only [l_int, tL_0, tL_1, tL_2, tL_4, tL_5, tL_6, tL_7, tL_9, tL_10, tL_12, tL_15, tL_30, tL_40, tL_60, tL_99, tL_255, tL_1023, tL_m1, lc_lt, lc_gt, lc_ge, lc_le, lc_eq, l6_le, l6_lt, l6_eq, tI_m133, tI_m226, i_le, i_lt, i_eq, tI_m100, tI_m1, tI_0, tI_1] at c22); (try simp only [l_int, tL_0, tL_1, tL_2, tL_4, tL_5, tL_6, tL_7, tL_9, tL_10, tL_12, tL_15, tL_30, tL_40, tL_60, tL_99, tL_255, tL_1023, tL_m1, lc_lt, lc_gt, lc_ge, lc_le, lc_eq, l6_le, l6_lt, l6_eq, tI_m133, tI_m226, i_le, i_lt, i_eq, tI_m100, tI_m1, tI_0, tI_1] at c29); (try simp only [l_int, tL_0, tL_1, tL_2, tL_4, tL_5, tL_6, tL_7, tL_9, tL_10, tL_12, tL_15, tL_30, tL_40, tL_60, tL_99, tL_255, tL_1023, tL_m1, lc_lt, lc_gt, lc_ge, lc_le, lc_eq, l6_le, l6_lt, l6_eq, tI_m133, tI_m226, i_le, i_lt, i_eq, tI_m100, tI_m1, tI_0, tI_1] at c39); (try simp only [l_int, tL_0, tL_1, tL_2, tL_4, tL_5, tL_6, tL_7, tL_9, tL_10, tL_12, tL_15, tL_30, tL_40, tL_60, tL_99, tL_255, tL_1023, tL_m1, lc_lt, lc_gt, lc_ge, lc_le, lc_eq, l6_le, l6_lt, l6_eq, tI_m133, tI_m226, i_le, i_lt, i_eq, tI_m100, tI_m1, tI_0, tI_1]); omega) (by rw [tI_m1]; (try simp only [l_int, tL_0, tL_1, tL_2, tL_4, tL_5, tL_6, tL_7, tL_9, tL_10, tL_12, tL_15, tL_30, tL_40, tL_60, tL_99, tL_255, tL_1023, tL_m1, lc_lt, lc_gt, lc_ge, lc_le, lc_eq, l6_le, l6_lt, l6_eq, tI_m133, tI_m226, i_le, i_lt, i_eq, tI_m100, tI_m1, tI_0, tI_1] at c8); (try simp only [l_int, tL_0, tL_1, tL_2, tL_4, tL_5, tL_6, tL_7, tL_9, tL_10, tL_12, tL_15, tL_30, tL_40, tL_60, tL_99, tL_255, tL_1023, tL_m1, lc_lt, lc_gt, lc_ge, lc_le, lc_eq, l6_le, l6_lt, l6_eq, tI_m133, tI_m226, i_le, i_lt, i_eq, tI_m100, tI_m1, tI_0, tI_1] at c22); (try simp only [l_int, tL_0, tL_1, tL_2, tL_4, tL_5, tL_6, tL_7, tL_9, tL_10, tL_12, tL_15, tL_30, tL_40, tL_60, tL_99, tL_255, tL_1023, tL_m1, lc_lt, lc_gt, lc_ge, lc_le, lc_eq, l6_le, l6_lt, l6_eq, tI_m133, tI_m226, i_le, i_lt, i_eq, tI_m100, tI_m1, tI_0, tI_1] at c29); (try simp only [l_int, tL_0, tL_1, tL_2, tL_4, tL_5, tL_6, tL_7, tL_9, tL_10, tL_12, tL_15, tL_30, tL_40, tL_60, tL_99, tL_255, tL_1023, tL_m1, lc_lt, lc_gt, lc_ge, lc_le, lc_eq, l6_le, l6_lt, l6_eq, tI_m133, tI_m226, i_le, i_lt, i_eq, tI_m100, tI_m1, tI_0, tI_1] at c39); (try simp only [l_int, tL_0, tL_1, tL_2, tL_4, tL_5, tL_6, tL_7, tL_9, tL_10, tL_12, tL_15, tL_30, tL_40, tL_60, tL_99, tL_255, tL_1023, tL_m1, lc_lt, lc_gt, lc_ge, lc_le, lc_eq, l6_le, l6_lt, l6_eq, tI_m133, tI_m226, i_le, i_lt, i_eq, tI_m100, tI_m1, tI_0, tI_1]); omega), tI_m1]
          refine WS.aload_n hx dX11_workedOut_47 rfl 3 rfl ?_
          refine WS.getR hx okX11 lf11_46 rfl rfl dX11_workedOut_48 ?_
          refine WS.iconst (v := (-1)) hx dX11_workedOut_51 (by decide) ?_
          refine WS.iload hx dX11_workedOut_52 0 rfl ?_
          refine WS.isub hx dX11_workedOut_54 ?_
          refine WS.iald hx rfl (vp_in_iff.mpr (by rw [hm9]; (try simp only [l_int, tL_0, tL_1, tL_2, tL_4, tL_5, tL_6, tL_7, tL_9, tL_10, tL_12, tL_15, tL_30, tL_40, tL_60, tL_99, tL_255, tL_1023, tL_m1, lc_lt, lc_gt, lc_ge, lc_le, lc_eq, l6_le, l6_lt, l6_eq, tI_m133, tI_m226, i_le, i_lt, i_eq, tI_m100, tI_m1, tI_0, tI_1] at c8); (try simp only [l_int, tL_0, tL_1, tL_2, tL_4, tL_5, tL_6, tL_7, tL_9, tL_10, tL_12, tL_15, tL_30, tL_40, tL_60, tL_99, tL_255, tL_1023, tL_m1, lc_lt, lc_gt, lc_ge, lc_le, lc_eq, l6_le, l6_lt, l6_eq, tI_m133, tI_m226, i_le, i_lt, i_eq, tI_m100, tI_m1, tI_0, tI_1] at c22); (try simp only [l_int, tL_0, tL_1, tL_2, tL_4, tL_5, tL_6, tL_7, tL_9, tL_10, tL_12, tL_15, tL_30, tL_40, tL_60, tL_99, tL_255, tL_1023, tL_m1, lc_lt, lc_gt, lc_ge, lc_le, lc_eq, l6_le, l6_lt, l6_eq, tI_m133, tI_m226, i_le, i_lt, i_eq, tI_m100, tI_m1, tI_0, tI_1] at c29); (try simp only [l_int, tL_0, tL_1, tL_2, tL_4, tL_5, tL_6, tL_7, tL_9, tL_10, tL_12, tL_15, tL_30, tL_40, tL_60, tL_99, tL_255, tL_1023, tL_m1, lc_lt, lc_gt, lc_ge, lc_le, lc_eq, l6_le, l6_lt, l6_eq, tI_m133, tI_m226, i_le, i_lt, i_eq, tI_m100, tI_m1, tI_0, tI_1] at c39); (try simp only [l_int, tL_0, tL_1, tL_2, tL_4, tL_5, tL_6, tL_7, tL_9, tL_10, tL_12, tL_15, tL_30, tL_40, tL_60, tL_99, tL_255, tL_1023, tL_m1, lc_lt, lc_gt, lc_ge, lc_le, lc_eq, l6_le, l6_lt, l6_eq, tI_m133, tI_m226, i_le, i_lt, i_eq, tI_m100, tI_m1, tI_0, tI_1]); omega)) dX11_workedOut_55 ?_
          refine WS.iast hx rfl (vp_in_nI (by omega) (by decide)) dX11_workedOut_56 ?_
          refine WS.iinc (v := nI (t + 1)) (lo' := [(3, .int (nI (t + 1))), (5, .int (cs k)), (4, .int (nI k)), (0, rf V 0), (1, .int (nI f)), (2, .int (nI e))]) hx dX11_workedOut_57 2 rfl (nI_1 t) (by decide) rfl ?_
          refine WS.goto (tgt := 159) hx dX11_workedOut_60 (by decide) ?_
          refine WS.iinc (v := nI (k + 1)) (lo' := [(4, .int (nI (k + 1))), (3, .int (nI (t + 1))), (5, .int (cs k)), (0, rf V 0), (1, .int (nI f)), (2, .int (nI e))]) hx dX11_workedOut_159 2 rfl (nI_1 k) (by decide) rfl ?_
          refine WS.goto (tgt := 5) hx dX11_workedOut_162 (by decide) ?_
          rw [if_pos (by (try simp only [l_int, tL_0, tL_1, tL_2, tL_4, tL_5, tL_6, tL_7, tL_9, tL_10, tL_12, tL_15, tL_30, tL_40, tL_60, tL_99, tL_255, tL_1023, tL_m1, lc_lt, lc_gt, lc_ge, lc_le, lc_eq, l6_le, l6_lt, l6_eq, tI_m133, tI_m226, i_le, i_lt, i_eq, tI_m100, tI_m1, tI_0, tI_1] at c8); (try simp only [l_int, tL_0, tL_1, tL_2, tL_4, tL_5, tL_6, tL_7, tL_9, tL_10, tL_12, tL_15, tL_30, tL_40, tL_60, tL_99, tL_255, tL_1023, tL_m1, lc_lt, lc_gt, lc_ge, lc_le, lc_eq, l6_le, l6_lt, l6_eq, tI_m133, tI_m226, i_le, i_lt, i_eq, tI_m100, tI_m1, tI_0, tI_1] at c22); (try simp only [l_int, tL_0, tL_1, tL_2, tL_4, tL_5, tL_6, tL_7, tL_9, tL_10, tL_12, tL_15, tL_30, tL_40, tL_60, tL_99, tL_255, tL_1023, tL_m1, lc_lt, lc_gt, lc_ge, lc_le, lc_eq, l6_le, l6_lt, l6_eq, tI_m133, tI_m226, i_le, i_lt, i_eq, tI_m100, tI_m1, tI_0, tI_1] at c29); (try simp only [l_int, tL_0, tL_1, tL_2, tL_4, tL_5, tL_6, tL_7, tL_9, tL_10, tL_12, tL_15, tL_30, tL_40, tL_60, tL_99, tL_255, tL_1023, tL_m1, lc_lt, lc_gt, lc_ge, lc_le, lc_eq, l6_le, l6_lt, l6_eq, tI_m133, tI_m226, i_le, i_lt, i_eq, tI_m100, tI_m1, tI_0, tI_1] at c39); (try simp only [l_int, tL_0, tL_1, tL_2, tL_4, tL_5, tL_6, tL_7, tL_9, tL_10, tL_12, tL_15, tL_30, tL_40, tL_60, tL_99, tL_255, tL_1023, tL_m1, lc_lt, lc_gt, lc_ge, lc_le, lc_eq, l6_le, l6_lt, l6_eq, tI_m133, tI_m226, i_le, i_lt, i_eq, tI_m100, tI_m1, tI_0, tI_1]); omega)] at hs1
          subst hs1
          refine WS.as (show (stI (stR σ 12 P) 12 (nn (nI t)) ((stR σ 12 P).1 13 (nn ((-1) - (cs k))))) = stR σ 12 (upd P s.length (σ.1 13 (nn (-1 - cs k)))) from by rw [stIR, nn_nI (show t < 2 ^ 31 by omega), hst]; try rfl) rfl rfl ?_
          exact WS.los [0, 1, 3, 4, 5] rfl (ih (k + 1) ((σ.1 13 (nn (-1 - cs k))) :: s) _ _ (by omega) (by first | rfl | (simp only [List.length_cons]; omega)) (by omega) (PR_push hP _) h2)
        · skip
          show WS layM V 6 X (stR σ 12 P) 42 [(5, .int (cs k)), (4, .int (nI k)), (3, .int (nI t)), (0, rf V 0), (1, .int (nI f)), (2, .int (nI e))] [.int (nI t), rf V 12]
          refine WS.iload hx dX11_workedOut_42 0 rfl ?_
          refine WS.goto (tgt := 56) hx dX11_workedOut_44 (by decide) ?_
          refine WS.iast hx rfl (vp_in_nI (by omega) (by decide)) dX11_workedOut_56 ?_
          refine WS.iinc (v := nI (t + 1)) (lo' := [(3, .int (nI (t + 1))), (5, .int (cs k)), (4, .int (nI k)), (0, rf V 0), (1, .int (nI f)), (2, .int (nI e))]) hx dX11_workedOut_57 2 rfl (nI_1 t) (by decide) rfl ?_
          refine WS.goto (tgt := 159) hx dX11_workedOut_60 (by decide) ?_
          refine WS.iinc (v := nI (k + 1)) (lo' := [(4, .int (nI (k + 1))), (3, .int (nI (t + 1))), (5, .int (cs k)), (0, rf V 0), (1, .int (nI f)), (2, .int (nI e))]) hx dX11_workedOut_159 2 rfl (nI_1 k) (by decide) rfl ?_
          refine WS.goto (tgt := 5) hx dX11_workedOut_162 (by decide) ?_
          rw [if_neg (by (try simp only [l_int, tL_0, tL_1, tL_2, tL_4, tL_5, tL_6, tL_7, tL_9, tL_10, tL_12, tL_15, tL_30, tL_40, tL_60, tL_99, tL_255, tL_1023, tL_m1, lc_lt, lc_gt, lc_ge, lc_le, lc_eq, l6_le, l6_lt, l6_eq, tI_m133, tI_m226, i_le, i_lt, i_eq, tI_m100, tI_m1, tI_0, tI_1] at c8); (try simp only [l_int, tL_0, tL_1, tL_2, tL_4, tL_5, tL_6, tL_7, tL_9, tL_10, tL_12, tL_15, tL_30, tL_40, tL_60, tL_99, tL_255, tL_1023, tL_m1, lc_lt, lc_gt, lc_ge, lc_le, lc_eq, l6_le, l6_lt, l6_eq, tI_m133, tI_m226, i_le, i_lt, i_eq, tI_m100, tI_m1, tI_0, tI_1] at c22); (try simp only [l_int, tL_0, tL_1, tL_2, tL_4, tL_5, tL_6, tL_7, tL_9, tL_10, tL_12, tL_15, tL_30, tL_40, tL_60, tL_99, tL_255, tL_1023, tL_m1, lc_lt, lc_gt, lc_ge, lc_le, lc_eq, l6_le, l6_lt, l6_eq, tI_m133, tI_m226, i_le, i_lt, i_eq, tI_m100, tI_m1, tI_0, tI_1] at c29); (try simp only [l_int, tL_0, tL_1, tL_2, tL_4, tL_5, tL_6, tL_7, tL_9, tL_10, tL_12, tL_15, tL_30, tL_40, tL_60, tL_99, tL_255, tL_1023, tL_m1, lc_lt, lc_gt, lc_ge, lc_le, lc_eq, l6_le, l6_lt, l6_eq, tI_m133, tI_m226, i_le, i_lt, i_eq, tI_m100, tI_m1, tI_0, tI_1] at c39); (try simp only [l_int, tL_0, tL_1, tL_2, tL_4, tL_5, tL_6, tL_7, tL_9, tL_10, tL_12, tL_15, tL_30, tL_40, tL_60, tL_99, tL_255, tL_1023, tL_m1, lc_lt, lc_gt, lc_ge, lc_le, lc_eq, l6_le, l6_lt, l6_eq, tI_m133, tI_m226, i_le, i_lt, i_eq, tI_m100, tI_m1, tI_0, tI_1]); omega)] at hs1
          subst hs1
          refine WS.as (show (stI (stR σ 12 P) 12 (nn (nI t)) (cs k)) = stR σ 12 (upd P s.length (cs k)) from by rw [stIR, nn_nI (show t < 2 ^ 31 by omega), hst]; try rfl) rfl rfl ?_
          exact WS.los [0, 1, 3, 4, 5] rfl (ih (k + 1) ((cs k) :: s) _ _ (by omega) (by first | rfl | (simp only [List.length_cons]; omega)) (by omega) (PR_push hP _) h2)
    · have hrw : phi (cs k) = (-133) := by rw [hc]; decide
      subst hs
      have hsl : t = r.length + 1 := by rw [← hst]; rfl
      have htp := PR_top hP
      have ht1 : nI t - 1 = nI r.length := by rw [hsl]; exact nI_pred _
      subst hs1
      refine WS.iload hx dX11_workedOut_5 0 rfl ?_
      refine WS.iload_n hx dX11_workedOut_7 rfl 4 rfl ?_
      refine WS.icmp_ge (tgt := 165) hx dX11_workedOut_8 (by decide) (fun c8 => by exfalso; (try simp only [l_int, tL_0, tL_1, tL_2, tL_4, tL_5, tL_6, tL_7, tL_9, tL_10, tL_12, tL_15, tL_30, tL_40, tL_60, tL_99, tL_255, tL_1023, tL_m1, lc_lt, lc_gt, lc_ge, lc_le, lc_eq, l6_le, l6_lt, l6_eq, tI_m133, tI_m226, i_le, i_lt, i_eq, tI_m100, tI_m1, tI_0, tI_1] at c8); (try simp only [l_int, tL_0, tL_1, tL_2, tL_4, tL_5, tL_6, tL_7, tL_9, tL_10, tL_12, tL_15, tL_30, tL_40, tL_60, tL_99, tL_255, tL_1023, tL_m1, lc_lt, lc_gt, lc_ge, lc_le, lc_eq, l6_le, l6_lt, l6_eq, tI_m133, tI_m226, i_le, i_lt, i_eq, tI_m100, tI_m1, tI_0, tI_1]); omega) (fun c8 => ?_)
      refine WS.aload_n hx dX11_workedOut_11 rfl 2 rfl ?_
      refine WS.getR hx okX11 lf11_28 rfl rfl dX11_workedOut_12 ?_
      refine WS.iload hx dX11_workedOut_15 0 rfl ?_
      refine WS.iald hx rfl (vp_in_nI (by omega) (by decide)) dX11_workedOut_17 ?_
      refine WS.as rfl rfl (congrArg (fun z => Value.int z :: _) (show (stR σ 12 P).1 7 (nn (nI k)) = (-133) from by rw [nn_nI (by omega), ← hrw]; exact hcd)) ?_
      skip
      refine WS.istore (lo' := [(5, .int (-133)), (4, .int (nI k)), (3, .int (nI t)), (0, rf V 0), (1, .int (nI f)), (2, .int (nI e))]) hx dX11_workedOut_18 (by decide) rfl ?_
      refine WS.iload hx dX11_workedOut_20 0 rfl ?_
      refine WS.if_ge (tgt := 32) hx dX11_workedOut_22 (by decide) (fun h => absurd h (by decide)) (fun _ => ?_)
      refine WS.iload hx dX11_workedOut_25 0 rfl ?_
      refine WS.bipush (v := (-100)) hx dX11_workedOut_27 (by decide) ?_
      refine WS.icmp_le (tgt := 63) hx dX11_workedOut_29 (by decide) (fun _ => ?_) (fun h => absurd (by decide) h)
      refine WS.iload hx dX11_workedOut_63 0 rfl ?_
      refine WS.sipush (v := (-226)) hx dX11_workedOut_65 (by decide) ?_
      refine WS.icmp_eq (tgt := 79) hx dX11_workedOut_68 (by decide) (fun h => absurd h (by decide)) (fun _ => ?_)
      refine WS.iload hx dX11_workedOut_71 0 rfl ?_
      refine WS.sipush (v := (-133)) hx dX11_workedOut_73 (by decide) ?_
      refine WS.icmp_ne (tgt := 126) hx dX11_workedOut_76 (by decide) (fun h => absurd (by decide) h) (fun _ => ?_)
      refine WS.aload_n hx dX11_workedOut_79 rfl 3 rfl ?_
      refine WS.getR hx okX11 lf11_43 rfl rfl dX11_workedOut_80 ?_
      refine WS.iload_n hx dX11_workedOut_83 rfl 2 rfl ?_
      refine WS.iconst (v := 1) hx dX11_workedOut_84 (by decide) ?_
      refine WS.isub hx dX11_workedOut_85 ?_
      refine WS.as rfl rfl (congrArg (fun z => Value.int z :: _) (show (nI t) - 1 = nI r.length from ht1)) ?_
      skip
      refine WS.iload hx dX11_workedOut_86 0 rfl ?_
      refine WS.sipush (v := (-226)) hx dX11_workedOut_88 (by decide) ?_
      refine WS.icmp_ne (tgt := 106) hx dX11_workedOut_91 (by decide) (fun _ => ?_) (fun h => absurd h (by decide))
      refine WS.aload_n hx dX11_workedOut_106 rfl 3 rfl ?_
      refine WS.getR hx okX11 lf11_43 rfl rfl dX11_workedOut_107 ?_
      refine WS.iload_n hx dX11_workedOut_110 rfl 2 rfl ?_
      refine WS.iconst (v := 1) hx dX11_workedOut_111 (by decide) ?_
      refine WS.isub hx dX11_workedOut_112 ?_
      refine WS.as rfl rfl (congrArg (fun z => Value.int z :: _) (show (nI t) - 1 = nI r.length from ht1)) ?_
      skip
      refine WS.iald hx rfl (vp_in_nI (by omega) (by decide)) dX11_workedOut_113 ?_
      refine WS.as rfl rfl (congrArg (fun z => Value.int z :: _) (show (stR σ 12 P).1 12 (nn (nI r.length)) = x from by rw [nn_nI (by omega)]; exact htp)) ?_
      skip
      refine WS.if_ne (tgt := 121) hx dX11_workedOut_114 (by decide) (fun c114 => ?_) (fun c114 => ?_)
      · skip
        show WS layM V 6 X (stR σ 12 P) 121 [(5, .int (-133)), (4, .int (nI k)), (3, .int (nI t)), (0, rf V 0), (1, .int (nI f)), (2, .int (nI e))] [.int (nI r.length), rf V 12]
        refine WS.iconst (v := 0) hx dX11_workedOut_121 (by decide) ?_
        refine WS.iast hx rfl (vp_in_nI (by omega) (by decide)) dX11_workedOut_122 ?_
        refine WS.goto (tgt := 159) hx dX11_workedOut_123 (by decide) ?_
        refine WS.iinc (v := nI (k + 1)) (lo' := [(4, .int (nI (k + 1))), (5, .int (-133)), (3, .int (nI t)), (0, rf V 0), (1, .int (nI f)), (2, .int (nI e))]) hx dX11_workedOut_159 1 rfl (nI_1 k) (by decide) rfl ?_
        refine WS.goto (tgt := 5) hx dX11_workedOut_162 (by decide) ?_
        rw [if_neg c114] at h2
        refine WS.as (show (stI (stR σ 12 P) 12 (nn (nI r.length)) 0) = stR σ 12 (upd P r.length (0)) from by rw [stIR, nn_nI (show r.length < 2 ^ 31 by omega)]; try rfl) rfl rfl ?_
        exact WS.los [0, 2, 3, 4, 5] rfl (ih (k + 1) ((0) :: r) _ _ (by omega) (by first | rfl | (simp only [List.length_cons]; omega)) (by omega) (PR_push (PR_pop hP) _) h2)
      · skip
        show WS layM V 6 X (stR σ 12 P) 117 [(5, .int (-133)), (4, .int (nI k)), (3, .int (nI t)), (0, rf V 0), (1, .int (nI f)), (2, .int (nI e))] [.int (nI r.length), rf V 12]
        refine WS.iconst (v := 1) hx dX11_workedOut_117 (by decide) ?_
        refine WS.goto (tgt := 122) hx dX11_workedOut_118 (by decide) ?_
        refine WS.iast hx rfl (vp_in_nI (by omega) (by decide)) dX11_workedOut_122 ?_
        refine WS.goto (tgt := 159) hx dX11_workedOut_123 (by decide) ?_
        refine WS.iinc (v := nI (k + 1)) (lo' := [(4, .int (nI (k + 1))), (5, .int (-133)), (3, .int (nI t)), (0, rf V 0), (1, .int (nI f)), (2, .int (nI e))]) hx dX11_workedOut_159 1 rfl (nI_1 k) (by decide) rfl ?_
        refine WS.goto (tgt := 5) hx dX11_workedOut_162 (by decide) ?_
        rw [if_pos c114] at h2
        refine WS.as (show (stI (stR σ 12 P) 12 (nn (nI r.length)) 1) = stR σ 12 (upd P r.length (1)) from by rw [stIR, nn_nI (show r.length < 2 ^ 31 by omega)]; try rfl) rfl rfl ?_
        exact WS.los [0, 2, 3, 4, 5] rfl (ih (k + 1) ((1) :: r) _ _ (by omega) (by first | rfl | (simp only [List.length_cons]; omega)) (by omega) (PR_push (PR_pop hP) _) h2)
    · have hrw : phi (cs k) = (-226) := by rw [hc]; decide
      subst hs
      have hsl : t = r.length + 1 := by rw [← hst]; rfl
      have htp := PR_top hP
      have ht1 : nI t - 1 = nI r.length := by rw [hsl]; exact nI_pred _
      subst hs1
      refine WS.iload hx dX11_workedOut_5 0 rfl ?_
      refine WS.iload_n hx dX11_workedOut_7 rfl 4 rfl ?_
      refine WS.icmp_ge (tgt := 165) hx dX11_workedOut_8 (by decide) (fun c8 => by exfalso; (try simp only [l_int, tL_0, tL_1, tL_2, tL_4, tL_5, tL_6, tL_7, tL_9, tL_10, tL_12, tL_15, tL_30, tL_40, tL_60, tL_99, tL_255, tL_1023, tL_m1, lc_lt, lc_gt, lc_ge, lc_le, lc_eq, l6_le, l6_lt, l6_eq, tI_m133, tI_m226, i_le, i_lt, i_eq, tI_m100, tI_m1, tI_0, tI_1] at c8); (try simp only [l_int, tL_0, tL_1, tL_2, tL_4, tL_5, tL_6, tL_7, tL_9, tL_10, tL_12, tL_15, tL_30, tL_40, tL_60, tL_99, tL_255, tL_1023, tL_m1, lc_lt, lc_gt, lc_ge, lc_le, lc_eq, l6_le, l6_lt, l6_eq, tI_m133, tI_m226, i_le, i_lt, i_eq, tI_m100, tI_m1, tI_0, tI_1]); omega) (fun c8 => ?_)
      refine WS.aload_n hx dX11_workedOut_11 rfl 2 rfl ?_
      refine WS.getR hx okX11 lf11_28 rfl rfl dX11_workedOut_12 ?_
      refine WS.iload hx dX11_workedOut_15 0 rfl ?_
      refine WS.iald hx rfl (vp_in_nI (by omega) (by decide)) dX11_workedOut_17 ?_
      refine WS.as rfl rfl (congrArg (fun z => Value.int z :: _) (show (stR σ 12 P).1 7 (nn (nI k)) = (-226) from by rw [nn_nI (by omega), ← hrw]; exact hcd)) ?_
      skip
      refine WS.istore (lo' := [(5, .int (-226)), (4, .int (nI k)), (3, .int (nI t)), (0, rf V 0), (1, .int (nI f)), (2, .int (nI e))]) hx dX11_workedOut_18 (by decide) rfl ?_
      refine WS.iload hx dX11_workedOut_20 0 rfl ?_
      refine WS.if_ge (tgt := 32) hx dX11_workedOut_22 (by decide) (fun h => absurd h (by decide)) (fun _ => ?_)
      refine WS.iload hx dX11_workedOut_25 0 rfl ?_
      refine WS.bipush (v := (-100)) hx dX11_workedOut_27 (by decide) ?_
      refine WS.icmp_le (tgt := 63) hx dX11_workedOut_29 (by decide) (fun _ => ?_) (fun h => absurd (by decide) h)
      refine WS.iload hx dX11_workedOut_63 0 rfl ?_
      refine WS.sipush (v := (-226)) hx dX11_workedOut_65 (by decide) ?_
      refine WS.icmp_eq (tgt := 79) hx dX11_workedOut_68 (by decide) (fun _ => ?_) (fun h => absurd (by decide) h)
      refine WS.aload_n hx dX11_workedOut_79 rfl 3 rfl ?_
      refine WS.getR hx okX11 lf11_43 rfl rfl dX11_workedOut_80 ?_
      refine WS.iload_n hx dX11_workedOut_83 rfl 2 rfl ?_
      refine WS.iconst (v := 1) hx dX11_workedOut_84 (by decide) ?_
      refine WS.isub hx dX11_workedOut_85 ?_
      refine WS.as rfl rfl (congrArg (fun z => Value.int z :: _) (show (nI t) - 1 = nI r.length from ht1)) ?_
      skip
      refine WS.iload hx dX11_workedOut_86 0 rfl ?_
      refine WS.sipush (v := (-226)) hx dX11_workedOut_88 (by decide) ?_
      refine WS.icmp_ne (tgt := 106) hx dX11_workedOut_91 (by decide) (fun h => absurd (by decide) h) (fun _ => ?_)
      refine WS.aload_n hx dX11_workedOut_94 rfl 3 rfl ?_
      refine WS.getR hx okX11 lf11_43 rfl rfl dX11_workedOut_95 ?_
      refine WS.iload_n hx dX11_workedOut_98 rfl 2 rfl ?_
      refine WS.iconst (v := 1) hx dX11_workedOut_99 (by decide) ?_
      refine WS.isub hx dX11_workedOut_100 ?_
      refine WS.as rfl rfl (congrArg (fun z => Value.int z :: _) (show (nI t) - 1 = nI r.length from ht1)) ?_
      skip
      refine WS.iald hx rfl (vp_in_nI (by omega) (by decide)) dX11_workedOut_101 ?_
      refine WS.as rfl rfl (congrArg (fun z => Value.int z :: _) (show (stR σ 12 P).1 12 (nn (nI r.length)) = x from by rw [nn_nI (by omega)]; exact htp)) ?_
      skip
      refine WS.ineg hx dX11_workedOut_102 ?_
      refine WS.goto (tgt := 122) hx dX11_workedOut_103 (by decide) ?_
      refine WS.iast hx rfl (vp_in_nI (by omega) (by decide)) dX11_workedOut_122 ?_
      refine WS.goto (tgt := 159) hx dX11_workedOut_123 (by decide) ?_
      refine WS.iinc (v := nI (k + 1)) (lo' := [(4, .int (nI (k + 1))), (5, .int (-226)), (3, .int (nI t)), (0, rf V 0), (1, .int (nI f)), (2, .int (nI e))]) hx dX11_workedOut_159 1 rfl (nI_1 k) (by decide) rfl ?_
      refine WS.goto (tgt := 5) hx dX11_workedOut_162 (by decide) ?_
      refine WS.as (show (stI (stR σ 12 P) 12 (nn (nI r.length)) (-x)) = stR σ 12 (upd P r.length (-x)) from by rw [stIR, nn_nI (show r.length < 2 ^ 31 by omega)]; try rfl) rfl rfl ?_
      exact WS.los [0, 2, 3, 4, 5] rfl (ih (k + 1) ((-x) :: r) _ _ (by omega) (by first | rfl | (simp only [List.length_cons]; omega)) (by omega) (PR_push (PR_pop hP) _) h2)
    · obtain ⟨hcv, hph, hng⟩ := isB_i hc
      subst hs
      have hsl : t = q.length + 1 + 1 := by rw [← hst]; rfl
      have htp := PR_top hP
      have htv := PR_top (PR_pop hP)
      have ht1 : nI (q.length + 1) - 1 = nI q.length := nI_pred _
      subst hs1
      rw [List.length_cons] at htp
      refine WS.iload hx dX11_workedOut_5 0 rfl ?_
      refine WS.iload_n hx dX11_workedOut_7 rfl 4 rfl ?_
      refine WS.icmp_ge (tgt := 165) hx dX11_workedOut_8 (by decide) (fun c8 => by exfalso; (try simp only [l_int, tL_0, tL_1, tL_2, tL_4, tL_5, tL_6, tL_7, tL_9, tL_10, tL_12, tL_15, tL_30, tL_40, tL_60, tL_99, tL_255, tL_1023, tL_m1, lc_lt, lc_gt, lc_ge, lc_le, lc_eq, l6_le, l6_lt, l6_eq, tI_m133, tI_m226, i_le, i_lt, i_eq, tI_m100, tI_m1, tI_0, tI_1] at c8); (try simp only [l_int, tL_0, tL_1, tL_2, tL_4, tL_5, tL_6, tL_7, tL_9, tL_10, tL_12, tL_15, tL_30, tL_40, tL_60, tL_99, tL_255, tL_1023, tL_m1, lc_lt, lc_gt, lc_ge, lc_le, lc_eq, l6_le, l6_lt, l6_eq, tI_m133, tI_m226, i_le, i_lt, i_eq, tI_m100, tI_m1, tI_0, tI_1]); omega) (fun c8 => ?_)
      refine WS.aload_n hx dX11_workedOut_11 rfl 2 rfl ?_
      refine WS.getR hx okX11 lf11_28 rfl rfl dX11_workedOut_12 ?_
      refine WS.iload hx dX11_workedOut_15 0 rfl ?_
      refine WS.iald hx rfl (vp_in_nI (by omega) (by decide)) dX11_workedOut_17 ?_
      refine WS.as rfl rfl (congrArg (fun z => Value.int z :: _) (show (stR σ 12 P).1 7 (nn (nI k)) = phi (cs k) from by rw [nn_nI (by omega)]; exact hcd)) ?_
      skip
      refine WS.istore (lo' := [(5, .int (phi (cs k))), (4, .int (nI k)), (3, .int (nI t)), (0, rf V 0), (1, .int (nI f)), (2, .int (nI e))]) hx dX11_workedOut_18 (by decide) rfl ?_
      refine WS.iload hx dX11_workedOut_20 0 rfl ?_
      refine WS.if_ge (tgt := 32) hx dX11_workedOut_22 (by decide) (fun c22 => by exfalso; (try simp only [l_int, tL_0, tL_1, tL_2, tL_4, tL_5, tL_6, tL_7, tL_9, tL_10, tL_12, tL_15, tL_30, tL_40, tL_60, tL_99, tL_255, tL_1023, tL_m1, lc_lt, lc_gt, lc_ge, lc_le, lc_eq, l6_le, l6_lt, l6_eq, tI_m133, tI_m226, i_le, i_lt, i_eq, tI_m100, tI_m1, tI_0, tI_1] at c8); (try simp only [l_int, tL_0, tL_1, tL_2, tL_4, tL_5, tL_6, tL_7, tL_9, tL_10, tL_12, tL_15, tL_30, tL_40, tL_60, tL_99, tL_255, tL_1023, tL_m1, lc_lt, lc_gt, lc_ge, lc_le, lc_eq, l6_le, l6_lt, l6_eq, tI_m133, tI_m226, i_le, i_lt, i_eq, tI_m100, tI_m1, tI_0, tI_1] at c22); (try simp only [l_int, tL_0, tL_1, tL_2, tL_4, tL_5, tL_6, tL_7, tL_9, tL_10, tL_12, tL_15, tL_30, tL_40, tL_60, tL_99, tL_255, tL_1023, tL_m1, lc_lt, lc_gt, lc_ge, lc_le, lc_eq, l6_le, l6_lt, l6_eq, tI_m133, tI_m226, i_le, i_lt, i_eq, tI_m100, tI_m1, tI_0, tI_1]); omega) (fun c22 => ?_)
      refine WS.iload hx dX11_workedOut_25 0 rfl ?_
      refine WS.bipush (v := (-100)) hx dX11_workedOut_27 (by decide) ?_
      refine WS.icmp_le (tgt := 63) hx dX11_workedOut_29 (by decide) (fun c29 => ?_) (fun c29 => by exfalso; (try simp only [l_int, tL_0, tL_1, tL_2, tL_4, tL_5, tL_6, tL_7, tL_9, tL_10, tL_12, tL_15, tL_30, tL_40, tL_60, tL_99, tL_255, tL_1023, tL_m1, lc_lt, lc_gt, lc_ge, lc_le, lc_eq, l6_le, l6_lt, l6_eq, tI_m133, tI_m226, i_le, i_lt, i_eq, tI_m100, tI_m1, tI_0, tI_1] at c8); (try simp only [l_int, tL_0, tL_1, tL_2, tL_4, tL_5, tL_6, tL_7, tL_9, tL_10, tL_12, tL_15, tL_30, tL_40, tL_60, tL_99, tL_255, tL_1023, tL_m1, lc_lt, lc_gt, lc_ge, lc_le, lc_eq, l6_le, l6_lt, l6_eq, tI_m133, tI_m226, i_le, i_lt, i_eq, tI_m100, tI_m1, tI_0, tI_1] at c22); (try simp only [l_int, tL_0, tL_1, tL_2, tL_4, tL_5, tL_6, tL_7, tL_9, tL_10, tL_12, tL_15, tL_30, tL_40, tL_60, tL_99, tL_255, tL_1023, tL_m1, lc_lt, lc_gt, lc_ge, lc_le, lc_eq, l6_le, l6_lt, l6_eq, tI_m133, tI_m226, i_le, i_lt, i_eq, tI_m100, tI_m1, tI_0, tI_1] at c29); (try simp only [l_int, tL_0, tL_1, tL_2, tL_4, tL_5, tL_6, tL_7, tL_9, tL_10, tL_12, tL_15, tL_30, tL_40, tL_60, tL_99, tL_255, tL_1023, tL_m1, lc_lt, lc_gt, lc_ge, lc_le, lc_eq, l6_le, l6_lt, l6_eq, tI_m133, tI_m226, i_le, i_lt, i_eq, tI_m100, tI_m1, tI_0, tI_1]); omega)
      refine WS.iload hx dX11_workedOut_63 0 rfl ?_
      refine WS.sipush (v := (-226)) hx dX11_workedOut_65 (by decide) ?_
      refine WS.icmp_eq (tgt := 79) hx dX11_workedOut_68 (by decide) (fun c68 => by exfalso; (try simp only [l_int, tL_0, tL_1, tL_2, tL_4, tL_5, tL_6, tL_7, tL_9, tL_10, tL_12, tL_15, tL_30, tL_40, tL_60, tL_99, tL_255, tL_1023, tL_m1, lc_lt, lc_gt, lc_ge, lc_le, lc_eq, l6_le, l6_lt, l6_eq, tI_m133, tI_m226, i_le, i_lt, i_eq, tI_m100, tI_m1, tI_0, tI_1] at c8); (try simp only [l_int, tL_0, tL_1, tL_2, tL_4, tL_5, tL_6, tL_7, tL_9, tL_10, tL_12, tL_15, tL_30, tL_40, tL_60, tL_99, tL_255, tL_1023, tL_m1, lc_lt, lc_gt, lc_ge, lc_le, lc_eq, l6_le, l6_lt, l6_eq, tI_m133, tI_m226, i_le, i_lt, i_eq, tI_m100, tI_m1, tI_0, tI_1] at c22); (try simp only [l_int, tL_0, tL_1, tL_2, tL_4, tL_5, tL_6, tL_7, tL_9, tL_10, tL_12, tL_15, tL_30, tL_40, tL_60, tL_99, tL_255, tL_1023, tL_m1, lc_lt, lc_gt, lc_ge, lc_le, lc_eq, l6_le, l6_lt, l6_eq, tI_m133, tI_m226, i_le, i_lt, i_eq, tI_m100, tI_m1, tI_0, tI_1] at c29); (try simp only [l_int, tL_0, tL_1, tL_2, tL_4, tL_5, tL_6, tL_7, tL_9, tL_10, tL_12, tL_15, tL_30, tL_40, tL_60, tL_99, tL_255, tL_1023, tL_m1, lc_lt, lc_gt, lc_ge, lc_le, lc_eq, l6_le, l6_lt, l6_eq, tI_m133, tI_m226, i_le, i_lt, i_eq, tI_m100, tI_m1, tI_0, tI_1] at c68); (try simp only [l_int, tL_0, tL_1, tL_2, tL_4, tL_5, tL_6, tL_7, tL_9, tL_10, tL_12, tL_15, tL_30, tL_40, tL_60, tL_99, tL_255, tL_1023, tL_m1, lc_lt, lc_gt, lc_ge, lc_le, lc_eq, l6_le, l6_lt, l6_eq, tI_m133, tI_m226, i_le, i_lt, i_eq, tI_m100, tI_m1, tI_0, tI_1]); omega) (fun c68 => ?_)
      refine WS.iload hx dX11_workedOut_71 0 rfl ?_
      refine WS.sipush (v := (-133)) hx dX11_workedOut_73 (by decide) ?_
      refine WS.icmp_ne (tgt := 126) hx dX11_workedOut_76 (by decide) (fun c76 => ?_) (fun c76 => by exfalso; (try simp only [l_int, tL_0, tL_1, tL_2, tL_4, tL_5, tL_6, tL_7, tL_9, tL_10, tL_12, tL_15, tL_30, tL_40, tL_60, tL_99, tL_255, tL_1023, tL_m1, lc_lt, lc_gt, lc_ge, lc_le, lc_eq, l6_le, l6_lt, l6_eq, tI_m133, tI_m226, i_le, i_lt, i_eq, tI_m100, tI_m1, tI_0, tI_1] at c8); (try simp only [l_int, tL_0, tL_1, tL_2, tL_4, tL_5, tL_6, tL_7, tL_9, tL_10, tL_12, tL_15, tL_30, tL_40, tL_60, tL_99, tL_255, tL_1023, tL_m1, lc_lt, lc_gt, lc_ge, lc_le, lc_eq, l6_le, l6_lt, l6_eq, tI_m133, tI_m226, i_le, i_lt, i_eq, tI_m100, tI_m1, tI_0, tI_1] at c22); (try simp only [l_int, tL_0, tL_1, tL_2, tL_4, tL_5, tL_6, tL_7, tL_9, tL_10, tL_12, tL_15, tL_30, tL_40, tL_60, tL_99, tL_255, tL_1023, tL_m1, lc_lt, lc_gt, lc_ge, lc_le, lc_eq, l6_le, l6_lt, l6_eq, tI_m133, tI_m226, i_le, i_lt, i_eq, tI_m100, tI_m1, tI_0, tI_1] at c29); (try simp only [l_int, tL_0, tL_1, tL_2, tL_4, tL_5, tL_6, tL_7, tL_9, tL_10, tL_12, tL_15, tL_30, tL_40, tL_60, tL_99, tL_255, tL_1023, tL_m1, lc_lt, lc_gt, lc_ge, lc_le, lc_eq, l6_le, l6_lt, l6_eq, tI_m133, tI_m226, i_le, i_lt, i_eq, tI_m100, tI_m1, tI_0, tI_1] at c68); (try simp only [l_int, tL_0, tL_1, tL_2, tL_4, tL_5, tL_6, tL_7, tL_9, tL_10, tL_12, tL_15, tL_30, tL_40, tL_60, tL_99, tL_255, tL_1023, tL_m1, lc_lt, lc_gt, lc_ge, lc_le, lc_eq, l6_le, l6_lt, l6_eq, tI_m133, tI_m226, i_le, i_lt, i_eq, tI_m100, tI_m1, tI_0, tI_1] at c76); (try simp only [l_int, tL_0, tL_1, tL_2, tL_4, tL_5, tL_6, tL_7, tL_9, tL_10, tL_12, tL_15, tL_30, tL_40, tL_60, tL_99, tL_255, tL_1023, tL_m1, lc_lt, lc_gt, lc_ge, lc_le, lc_eq, l6_le, l6_lt, l6_eq, tI_m133, tI_m226, i_le, i_lt, i_eq, tI_m100, tI_m1, tI_0, tI_1]); omega)
      refine WS.iinc (v := nI (q.length + 1)) (lo' := [(3, .int (nI (q.length + 1))), (5, .int (phi (cs k))), (4, .int (nI k)), (0, rf V 0), (1, .int (nI f)), (2, .int (nI e))]) hx dX11_workedOut_126 2 rfl (by rw [hsl]; exact pk_m1 _) (by decide) rfl ?_
      refine WS.aload_n hx dX11_workedOut_129 rfl 3 rfl ?_
      refine WS.getR hx okX11 lf11_43 rfl rfl dX11_workedOut_130 ?_
      refine WS.iload_n hx dX11_workedOut_133 rfl 0 rfl ?_
      refine WS.iconst (v := 1) hx dX11_workedOut_134 (by decide) ?_
      refine WS.isub hx dX11_workedOut_135 ?_
      refine WS.as rfl rfl (congrArg (fun z => Value.int z :: _) (show (nI (q.length + 1)) - 1 = nI q.length from ht1)) ?_
      skip
      refine WS.bipush (v := (-100)) hx dX11_workedOut_136 (by decide) ?_
      refine WS.iload hx dX11_workedOut_138 1 rfl ?_
      refine WS.isub hx dX11_workedOut_140 ?_
      refine WS.as rfl rfl (congrArg (fun z => Value.int z :: _) (show (-100) - (phi (cs k)) = -cs k from hng)) ?_
      skip
      refine WS.aload_n hx dX11_workedOut_141 rfl 3 rfl ?_
      refine WS.getR hx okX11 lf11_43 rfl rfl dX11_workedOut_142 ?_
      refine WS.iload_n hx dX11_workedOut_145 rfl 0 rfl ?_
      refine WS.iconst (v := 1) hx dX11_workedOut_146 (by decide) ?_
      refine WS.isub hx dX11_workedOut_147 ?_
      refine WS.as rfl rfl (congrArg (fun z => Value.int z :: _) (show (nI (q.length + 1)) - 1 = nI q.length from ht1)) ?_
      skip
      refine WS.iald hx rfl (vp_in_nI (by omega) (by decide)) dX11_workedOut_148 ?_
      refine WS.as rfl rfl (congrArg (fun z => Value.int z :: _) (show (stR σ 12 P).1 12 (nn (nI q.length)) = v from by rw [nn_nI (by omega)]; exact htv)) ?_
      skip
      refine WS.aload_n hx dX11_workedOut_149 rfl 3 rfl ?_
      refine WS.getR hx okX11 lf11_43 rfl rfl dX11_workedOut_150 ?_
      refine WS.iload_n hx dX11_workedOut_153 rfl 0 rfl ?_
      refine WS.iald hx rfl (vp_in_nI (by omega) (by decide)) dX11_workedOut_154 ?_
      refine WS.as rfl rfl (congrArg (fun z => Value.int z :: _) (show (stR σ 12 P).1 12 (nn (nI (q.length + 1))) = x from by rw [nn_nI (by omega)]; exact htp)) ?_
      skip
      refine WS.callSi (st := [.int (nI q.length), rf V 12]) [.int (-cs k), .int v, .int x] hx (c_X11_joined V d (stR σ 12 P) (-cs k) v x hc) okX11_joined lm11_206 rfl rfl (Nat.le_of_ble_eq_true rfl) dX11_workedOut_155 (fun v1 σ2 h3 => ?_)
      obtain ⟨rfl, rfl⟩ := h3
      show WS layM V 6 X (stR σ 12 P) 158 [(3, .int (nI (q.length + 1))), (5, .int (phi (cs k))), (4, .int (nI k)), (0, rf V 0), (1, .int (nI f)), (2, .int (nI e))] [.int (joinF (-cs k) v x), .int (nI q.length), rf V 12]
      refine WS.iast hx rfl (vp_in_nI (by omega) (by decide)) dX11_workedOut_158 ?_
      refine WS.iinc (v := nI (k + 1)) (lo' := [(4, .int (nI (k + 1))), (3, .int (nI (q.length + 1))), (5, .int (phi (cs k))), (0, rf V 0), (1, .int (nI f)), (2, .int (nI e))]) hx dX11_workedOut_159 2 rfl (nI_1 k) (by decide) rfl ?_
      refine WS.goto (tgt := 5) hx dX11_workedOut_162 (by decide) ?_
      refine WS.as (show (stI (stR σ 12 P) 12 (nn (nI q.length)) (joinF (-cs k) v x)) = stR σ 12 (upd P q.length (joinF (-cs k) v x)) from by rw [stIR, nn_nI (show q.length < 2 ^ 31 by omega)]; try rfl) rfl rfl ?_
      exact WS.los [0, 1, 3, 4, 5] rfl (ih (k + 1) (joinF (-cs k) v x :: q) _ _ (by omega) (by first | rfl | (simp only [List.length_cons]; omega)) (by omega) (PR_push (PR_pop (PR_pop hP)) _) h2)
theorem stR_self (σ : Sg) (a : Nat) : stR σ a (σ.1 a) = σ := by
  unfold stR
  refine Prod.ext ?_ rfl
  funext q
  by_cases h : q = a
  · subst h; simp [va_up]
  · simp [va_up, h]
set_option maxHeartbeats 1000000 in
theorem c_X11_workedOut (V : Vt) (d : Nat) (σ : Sg) (cs : Nat → Int32) (T : Nat) (hT : T ≤ 120) (hcs : ∀ j, j < T → σ.1 7 j = phi (cs j)) (f k : Nat) (v0 : (Nat → Int32) → Int32) (hX : EX cs f k v0) (hk : f + k ≤ T) : CT layM V mX11_workedOut (d + 1) [rf V 0, .int (nI f), .int (nI (f + k))] σ (Ri fun v σ' => v0 (σ.1 13) = v ∧ ∃ P, σ' = stR σ 12 P) := by
  refine CT.of (own := RX11) rfl (by decide) (Nat.le_of_ble_eq_true rfl) (fun X (hx : Ok V RX11 cX11_workedOut 6 (d + 1) X) (he : En layM V (some .int) (Ri fun v σ' => v0 (σ.1 13) = v ∧ ∃ P, σ' = stR σ 12 P) X) => ?_)
  change WS layM V 6 X σ 0 [(0, rf V 0), (1, .int (nI f)), (2, .int (nI (f + k)))] []
  refine WS.iconst (v := 0) hx dX11_workedOut_0 (by decide) ?_
  refine WS.istore_n (lo' := [(3, .int 0), (0, rf V 0), (1, .int (nI f)), (2, .int (nI (f + k)))]) hx dX11_workedOut_1 rfl (by decide) rfl ?_
  refine WS.iload_n hx dX11_workedOut_2 rfl 2 rfl ?_
  refine WS.istore (lo' := [(4, .int (nI f)), (3, .int 0), (0, rf V 0), (1, .int (nI f)), (2, .int (nI (f + k)))]) hx dX11_workedOut_3 (by decide) rfl ?_
  refine WS.as (show σ = stR σ 12 (σ.1 12) from (stR_self σ 12).symm) rfl rfl ?_
  exact WS.los [0, 1, 2, 3, 4] rfl (lp_X11_workedOut V d σ cs f (f + k) (by omega) (fun j hj => hcs j (by omega)) _ X hx he k f [] 0 _ rfl rfl (by omega) (PR_nil _) (hX _ _))
