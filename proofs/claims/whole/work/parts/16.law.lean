theorem sw_c {x k : Int32} {a o df : Int} {r : List (Int × Int)} (h : ¬ x = k) (ha : k.toInt = a) (hr : Op.lookupswitch.offset r df x.toInt = df) : Op.lookupswitch.offset ((a, o) :: r) df x.toInt = df := by
  rw [Op.lookupswitch.offset_cons, if_neg (fun e => h (i_eq.mpr (by omega)))]
  exact hr
/-- how two numbers are joined by a sign -/
def joinF (c l r : Int32) : Int32 :=
  if c = 38 then (if l = 0 then 0 else if r = 0 then 0 else 1)
  else if c = 42 then l * r else if c = 43 then l + r else if c = 45 then l - r
  else if c = 47 then (if r = 0 then 0 else l / r)
  else if c = 60 then (if r ≤ l then 0 else 1)
  else if c = 61 then (if l = r then 1 else 0)
  else if c = 62 then (if l ≤ r then 0 else 1)
  else if c = 124 then (if l = 0 then (if r = 0 then 0 else 1) else 1)
  else (if r = 0 then 0 else l - l / r * r)
set_option maxHeartbeats 1000000 in
theorem c_X5_joined (V : Vt) (d : Nat) (σ : Sg) (c l r : Int32) : CT layC V mX5_joined (d) [.int c, .int l, .int r] σ (Ro (joinF c l r) σ) := by
  refine CT.of (own := RX5) rfl (by decide) (Nat.le_of_ble_eq_true rfl) (fun X (hx : Ok V RX5 cX5_joined 3 (d) X) (he : En layC V (some .int) (Ro (joinF c l r) σ) X) => ?_)
  change WS layC V 3 X σ 0 [(0, .int c), (1, .int l), (2, .int r)] []
  refine WS.iload_n hx dX5_joined_0 rfl 0 rfl ?_
  by_cases s1_38 : c = 38
  · refine WS.lookup (off := 97) (tgt := 98) hx dX5_joined_1 (by decide) (by rw [s1_38]; decide) (by decide) ?_
    show WS layC V 3 X σ 98 [(0, .int c), (1, .int l), (2, .int r)] []
    refine WS.iload_n hx dX5_joined_98 rfl 1 rfl ?_
    refine WS.if_eq (tgt := 110) hx dX5_joined_99 (by decide) (fun c99 => ?_) (fun c99 => ?_)
    · skip
      show WS layC V 3 X σ 110 [(0, .int c), (1, .int l), (2, .int r)] []
      refine WS.iconst (v := 0) hx dX5_joined_110 (by decide) ?_
      exact WS.iret hx he dX5_joined_111 (Ro.i (by simp [joinF, *]))
    · skip
      show WS layC V 3 X σ 102 [(0, .int c), (1, .int l), (2, .int r)] []
      refine WS.iload_n hx dX5_joined_102 rfl 2 rfl ?_
      refine WS.if_eq (tgt := 110) hx dX5_joined_103 (by decide) (fun c103 => ?_) (fun c103 => ?_)
      · skip
        show WS layC V 3 X σ 110 [(0, .int c), (1, .int l), (2, .int r)] []
        refine WS.iconst (v := 0) hx dX5_joined_110 (by decide) ?_
        exact WS.iret hx he dX5_joined_111 (Ro.i (by simp [joinF, *]))
      · skip
        show WS layC V 3 X σ 106 [(0, .int c), (1, .int l), (2, .int r)] []
        refine WS.iconst (v := 1) hx dX5_joined_106 (by decide) ?_
        refine WS.goto (tgt := 111) hx dX5_joined_107 (by decide) ?_
        exact WS.iret hx he dX5_joined_111 (Ro.i (by simp [joinF, *]))
  by_cases s1_42 : c = 42
  · refine WS.lookup (off := 152) (tgt := 153) hx dX5_joined_1 (by decide) (by rw [s1_42]; decide) (by decide) ?_
    show WS layC V 3 X σ 153 [(0, .int c), (1, .int l), (2, .int r)] []
    refine WS.iload_n hx dX5_joined_153 rfl 1 rfl ?_
    refine WS.iload_n hx dX5_joined_154 rfl 2 rfl ?_
    refine WS.imul hx dX5_joined_155 ?_
    exact WS.iret hx he dX5_joined_156 (Ro.i (by simp [joinF, *]))
  by_cases s1_43 : c = 43
  · refine WS.lookup (off := 144) (tgt := 145) hx dX5_joined_1 (by decide) (by rw [s1_43]; decide) (by decide) ?_
    show WS layC V 3 X σ 145 [(0, .int c), (1, .int l), (2, .int r)] []
    refine WS.iload_n hx dX5_joined_145 rfl 1 rfl ?_
    refine WS.iload_n hx dX5_joined_146 rfl 2 rfl ?_
    refine WS.iadd hx dX5_joined_147 ?_
    exact WS.iret hx he dX5_joined_148 (Ro.i (by simp [joinF, *]))
  by_cases s1_45 : c = 45
  · refine WS.lookup (off := 148) (tgt := 149) hx dX5_joined_1 (by decide) (by rw [s1_45]; decide) (by decide) ?_
    show WS layC V 3 X σ 149 [(0, .int c), (1, .int l), (2, .int r)] []
    refine WS.iload_n hx dX5_joined_149 rfl 1 rfl ?_
    refine WS.iload_n hx dX5_joined_150 rfl 2 rfl ?_
    refine WS.isub hx dX5_joined_151 ?_
    exact WS.iret hx he dX5_joined_152 (Ro.i (by simp [joinF, *]))
  by_cases s1_47 : c = 47
  · refine WS.lookup (off := 156) (tgt := 157) hx dX5_joined_1 (by decide) (by rw [s1_47]; decide) (by decide) ?_
    show WS layC V 3 X σ 157 [(0, .int c), (1, .int l), (2, .int r)] []
    refine WS.iload_n hx dX5_joined_157 rfl 2 rfl ?_
    refine WS.if_ne (tgt := 165) hx dX5_joined_158 (by decide) (fun c158 => ?_) (fun c158 => ?_)
    · skip
      show WS layC V 3 X σ 165 [(0, .int c), (1, .int l), (2, .int r)] []
      refine WS.iload_n hx dX5_joined_165 rfl 1 rfl ?_
      refine WS.iload_n hx dX5_joined_166 rfl 2 rfl ?_
      refine WS.idiv hx dX5_joined_167 (by assumption) ?_
      exact WS.iret hx he dX5_joined_168 (Ro.i (by simp [joinF, *]))
    · skip
      show WS layC V 3 X σ 161 [(0, .int c), (1, .int l), (2, .int r)] []
      refine WS.iconst (v := 0) hx dX5_joined_161 (by decide) ?_
      refine WS.goto (tgt := 168) hx dX5_joined_162 (by decide) ?_
      exact WS.iret hx he dX5_joined_168 (Ro.i (by simp [joinF, *]))
  by_cases s1_60 : c = 60
  · refine WS.lookup (off := 111) (tgt := 112) hx dX5_joined_1 (by decide) (by rw [s1_60]; decide) (by decide) ?_
    show WS layC V 3 X σ 112 [(0, .int c), (1, .int l), (2, .int r)] []
    refine WS.iload_n hx dX5_joined_112 rfl 1 rfl ?_
    refine WS.iload_n hx dX5_joined_113 rfl 2 rfl ?_
    refine WS.icmp_ge (tgt := 121) hx dX5_joined_114 (by decide) (fun c114 => ?_) (fun c114 => ?_)
    · skip
      show WS layC V 3 X σ 121 [(0, .int c), (1, .int l), (2, .int r)] []
      refine WS.iconst (v := 0) hx dX5_joined_121 (by decide) ?_
      exact WS.iret hx he dX5_joined_122 (Ro.i (by simp [joinF, *]))
    · skip
      show WS layC V 3 X σ 117 [(0, .int c), (1, .int l), (2, .int r)] []
      refine WS.iconst (v := 1) hx dX5_joined_117 (by decide) ?_
      refine WS.goto (tgt := 122) hx dX5_joined_118 (by decide) ?_
      exact WS.iret hx he dX5_joined_122 (Ro.i (by simp [joinF, *]))
  by_cases s1_61 : c = 61
  · refine WS.lookup (off := 122) (tgt := 123) hx dX5_joined_1 (by decide) (by rw [s1_61]; decide) (by decide) ?_
    show WS layC V 3 X σ 123 [(0, .int c), (1, .int l), (2, .int r)] []
    refine WS.iload_n hx dX5_joined_123 rfl 1 rfl ?_
    refine WS.iload_n hx dX5_joined_124 rfl 2 rfl ?_
    refine WS.icmp_ne (tgt := 132) hx dX5_joined_125 (by decide) (fun c125 => ?_) (fun c125 => ?_)
    · skip
      show WS layC V 3 X σ 132 [(0, .int c), (1, .int l), (2, .int r)] []
      refine WS.iconst (v := 0) hx dX5_joined_132 (by decide) ?_
      exact WS.iret hx he dX5_joined_133 (Ro.i (by simp [joinF, *]))
    · skip
      show WS layC V 3 X σ 128 [(0, .int c), (1, .int l), (2, .int r)] []
      refine WS.iconst (v := 1) hx dX5_joined_128 (by decide) ?_
      refine WS.goto (tgt := 133) hx dX5_joined_129 (by decide) ?_
      exact WS.iret hx he dX5_joined_133 (Ro.i (by simp [joinF, *]))
  by_cases s1_62 : c = 62
  · refine WS.lookup (off := 133) (tgt := 134) hx dX5_joined_1 (by decide) (by rw [s1_62]; decide) (by decide) ?_
    show WS layC V 3 X σ 134 [(0, .int c), (1, .int l), (2, .int r)] []
    refine WS.iload_n hx dX5_joined_134 rfl 1 rfl ?_
    refine WS.iload_n hx dX5_joined_135 rfl 2 rfl ?_
    refine WS.icmp_le (tgt := 143) hx dX5_joined_136 (by decide) (fun c136 => ?_) (fun c136 => ?_)
    · skip
      show WS layC V 3 X σ 143 [(0, .int c), (1, .int l), (2, .int r)] []
      refine WS.iconst (v := 0) hx dX5_joined_143 (by decide) ?_
      exact WS.iret hx he dX5_joined_144 (Ro.i (by simp [joinF, *]))
    · skip
      show WS layC V 3 X σ 139 [(0, .int c), (1, .int l), (2, .int r)] []
      refine WS.iconst (v := 1) hx dX5_joined_139 (by decide) ?_
      refine WS.goto (tgt := 144) hx dX5_joined_140 (by decide) ?_
      exact WS.iret hx he dX5_joined_144 (Ro.i (by simp [joinF, *]))
  by_cases s1_124 : c = 124
  · refine WS.lookup (off := 83) (tgt := 84) hx dX5_joined_1 (by decide) (by rw [s1_124]; decide) (by decide) ?_
    show WS layC V 3 X σ 84 [(0, .int c), (1, .int l), (2, .int r)] []
    refine WS.iload_n hx dX5_joined_84 rfl 1 rfl ?_
    refine WS.if_ne (tgt := 92) hx dX5_joined_85 (by decide) (fun c85 => ?_) (fun c85 => ?_)
    · skip
      show WS layC V 3 X σ 92 [(0, .int c), (1, .int l), (2, .int r)] []
      refine WS.iconst (v := 1) hx dX5_joined_92 (by decide) ?_
      refine WS.goto (tgt := 97) hx dX5_joined_93 (by decide) ?_
      exact WS.iret hx he dX5_joined_97 (Ro.i (by simp [joinF, *]))
    · skip
      show WS layC V 3 X σ 88 [(0, .int c), (1, .int l), (2, .int r)] []
      refine WS.iload_n hx dX5_joined_88 rfl 2 rfl ?_
      refine WS.if_eq (tgt := 96) hx dX5_joined_89 (by decide) (fun c89 => ?_) (fun c89 => ?_)
      · skip
        show WS layC V 3 X σ 96 [(0, .int c), (1, .int l), (2, .int r)] []
        refine WS.iconst (v := 0) hx dX5_joined_96 (by decide) ?_
        exact WS.iret hx he dX5_joined_97 (Ro.i (by simp [joinF, *]))
      · skip
        show WS layC V 3 X σ 92 [(0, .int c), (1, .int l), (2, .int r)] []
        refine WS.iconst (v := 1) hx dX5_joined_92 (by decide) ?_
        refine WS.goto (tgt := 97) hx dX5_joined_93 (by decide) ?_
        exact WS.iret hx he dX5_joined_97 (Ro.i (by simp [joinF, *]))
  refine WS.lookup (off := 168) (tgt := 169) hx dX5_joined_1 (by decide) (sw_c s1_38 rfl (sw_c s1_42 rfl (sw_c s1_43 rfl (sw_c s1_45 rfl (sw_c s1_47 rfl (sw_c s1_60 rfl (sw_c s1_61 rfl (sw_c s1_62 rfl (sw_c s1_124 rfl rfl))))))))) (by decide) ?_
  show WS layC V 3 X σ 169 [(0, .int c), (1, .int l), (2, .int r)] []
  refine WS.iload_n hx dX5_joined_169 rfl 2 rfl ?_
  refine WS.if_ne (tgt := 177) hx dX5_joined_170 (by decide) (fun c170 => ?_) (fun c170 => ?_)
  · skip
    show WS layC V 3 X σ 177 [(0, .int c), (1, .int l), (2, .int r)] []
    refine WS.iload_n hx dX5_joined_177 rfl 1 rfl ?_
    refine WS.iload_n hx dX5_joined_178 rfl 2 rfl ?_
    refine WS.irem hx dX5_joined_179 (by assumption) ?_
    exact WS.iret hx he dX5_joined_180 (Ro.i (by simp [joinF, *]))
  · skip
    show WS layC V 3 X σ 173 [(0, .int c), (1, .int l), (2, .int r)] []
    refine WS.iconst (v := 0) hx dX5_joined_173 (by decide) ?_
    refine WS.goto (tgt := 180) hx dX5_joined_174 (by decide) ?_
    exact WS.iret hx he dX5_joined_180 (Ro.i (by simp [joinF, *]))
/-- a pile of numbers in a row -/
def PR (P : Nat → Int32) (s : List Int32) : Prop := ∀ j, j < s.length → P j = s.getD (s.length - 1 - j) 0
theorem PR_nil (P : Nat → Int32) : PR P [] := fun j h => absurd h (Nat.not_lt_zero j)
theorem PR_push {P : Nat → Int32} {s : List Int32} (h : PR P s) (x : Int32) : PR (upd P s.length x) (x :: s) := by
  intro j hj
  rw [List.length_cons] at hj
  by_cases h1 : j = s.length
  · subst h1
    simp [upd]
  · have h2 := h j (by omega)
    simp only [upd, if_neg h1, h2, List.length_cons]
    rw [show s.length + 1 - 1 - j = (s.length - 1 - j) + 1 by omega, List.getD_cons_succ]
theorem PR_pop {P : Nat → Int32} {s : List Int32} {x : Int32} (h : PR P (x :: s)) : PR P s := by
  intro j hj
  have h2 := h j (by rw [List.length_cons]; omega)
  rw [List.length_cons, show s.length + 1 - 1 - j = (s.length - 1 - j) + 1 by omega, List.getD_cons_succ] at h2
  exact h2
theorem PR_top {P : Nat → Int32} {s : List Int32} {x : Int32} (h : PR P (x :: s)) : P s.length = x := by
  have h2 := h s.length (by rw [List.length_cons]; omega)
  rw [List.length_cons, show s.length + 1 - 1 - s.length = 0 by omega] at h2
  exact h2
/-- the law worked out from its codes, from place i on: what lies on the pile, whether this line counts -/
def rlC (cs nm : Nat → Int32) : Nat → Nat → List Int32 → Bool → Int32
  | 0, _, _, _ => 0
  | k + 1, i, s, ct =>
    if cs i < -6 then
      match s with
      | [] => 0
      | x :: r =>
        if cs i = -33 then rlC cs nm k (i + 1) ((if x = 0 then 1 else 0) :: r) ct
        else if cs i = -126 then rlC cs nm k (i + 1) (-x :: r) ct
        else if cs i = -63 then rlC cs nm k (i + 1) r (decide (¬ x = 0))
        else if cs i = -59 then (if ct = true then x else rlC cs nm k (i + 1) r true)
        else match r with
          | [] => 0
          | v :: q => rlC cs nm k (i + 1) (joinF (-cs i) v x :: q) ct
    else rlC cs nm k (i + 1) ((if cs i < 0 then nm (nn (-1 - cs i)) else cs i) :: s) ct
def wfC (cs : Nat → Int32) : Nat → Nat → Nat → Prop
  | 0, _, _ => True
  | k + 1, i, t =>
    if cs i < -6 then (1 ≤ t ∧ (if cs i = -33 ∨ cs i = -126 then wfC cs k (i + 1) t else if cs i = -63 ∨ cs i = -59 then wfC cs k (i + 1) (t - 1) else 2 ≤ t ∧ wfC cs k (i + 1) (t - 1)))
    else t < 127 ∧ wfC cs k (i + 1) (t + 1)
def bI (b : Bool) : Int32 := if b = true then 1 else 0
theorem stIR (σ : Sg) (a j : Nat) (f : Nat → Int32) (v : Int32) : stI (stR σ a f) a j v = stR σ a (upd f j v) := by
  unfold stI stR
  refine Prod.ext ?_ rfl
  funext q
  by_cases h : q = a
  · subst h; simp [va_up]
  · simp [va_up, h]
theorem stR_o (σ : Sg) (a : Nat) (f : Nat → Int32) {q : Nat} (h : q ≠ a) : (stR σ a f).1 q = σ.1 q := by simp [stR, va_up, h]
theorem stR_1 (σ : Sg) (a : Nat) (f : Nat → Int32) : (stR σ a f).1 a = f := by simp [stR, va_up]
theorem msk0 {t : Nat} (h : t < 128) : nn (nI t &&& 127) = t := by
  rw [show nI t &&& 127 = nI t by rw [pk_andN (by omega) 7 rfl, Nat.mod_eq_of_lt (by omega)]]
  exact nn_nI (by omega)
theorem mskm {t : Nat} (h : t < 128) : nn ((nI (t + 1) - 1) &&& 127) = t := by rw [nI_pred]; exact msk0 h
theorem msk_in (x : Int32) : vp_in (x &&& 127) 128 := pk_andIn x 7 rfl (by decide)
theorem wf_lt {cs : Nat → Int32} {k i t : Nat} (h : ¬ cs i < -6) (hw : wfC cs (k + 1) i t) : t < 127 ∧ wfC cs k (i + 1) (t + 1) := by
  unfold wfC at hw; rwa [if_neg h] at hw
theorem wf_ge {cs : Nat → Int32} {k i t : Nat} (h : cs i < -6) (hw : wfC cs (k + 1) i t) : 1 ≤ t ∧ (if cs i = -33 ∨ cs i = -126 then wfC cs k (i + 1) t else if cs i = -63 ∨ cs i = -59 then wfC cs k (i + 1) (t - 1) else 2 ≤ t ∧ wfC cs k (i + 1) (t - 1)) := by
  unfold wfC at hw; rwa [if_pos h] at hw
theorem len_pos {s : List Int32} (h : 1 ≤ s.length) : ∃ x r, s = x :: r := by
  cases s with
  | nil => simp at h
  | cons x r => exact ⟨x, r, rfl⟩
theorem rl_push {cs nm : Nat → Int32} {k i : Nat} {s : List Int32} {ct : Bool} (h : ¬ cs i < -6) : rlC cs nm (k + 1) i s ct = rlC cs nm k (i + 1) ((if cs i < 0 then nm (nn (-1 - cs i)) else cs i) :: s) ct := by
  exact if_neg h
theorem rl_op {cs nm : Nat → Int32} {k i : Nat} {x : Int32} {r : List Int32} {ct : Bool} (h : cs i < -6) : rlC cs nm (k + 1) i (x :: r) ct = (if cs i = -33 then rlC cs nm k (i + 1) ((if x = 0 then 1 else 0) :: r) ct
        else if cs i = -126 then rlC cs nm k (i + 1) (-x :: r) ct
        else if cs i = -63 then rlC cs nm k (i + 1) r (decide (¬ x = 0))
        else if cs i = -59 then (if ct = true then x else rlC cs nm k (i + 1) r true)
        else match r with
          | [] => 0
          | v :: q => rlC cs nm k (i + 1) (joinF (-cs i) v x :: q) ct) := by
  exact if_pos h
set_option maxHeartbeats 1000000 in
theorem lp_X5_workedOut (V : Vt) (d : Nat) (σ : Sg) (m c : Nat) (hm2 : m ≤ 128) (hm : σ.1 2 2 = nI m) (hc : σ.2.2 2 0 = rf V c) (hcl : layC[c]? = some (.inr (.inl (0, 128)))) (hc22 : c ≠ 22) (v0 : Int32) (X : Xt) (hx : Ok V RX5 cX5_workedOut 7 (d + 1) X) (he : En layC V (some .int) (Ri fun v σ' => v0 = v ∧ ∃ P, σ' = stR σ 22 P) X) : ∀ (k i : Nat) (s : List Int32) (t : Nat) (ct : Bool) (P : Nat → Int32), i + k = m → s.length = t → t ≤ 127 → PR P s → wfC (σ.1 c) k i t → rlC (σ.1 c) (σ.1 21) k i s ct = v0 → WS layC V 7 X (stR σ 22 P) 10 [(4, .int (nI i)), (3, .int (bI ct)), (2, .int (nI t)), (1, .int 127), (0, rf V 2)] [] := by
  intro k
  induction k with
  | zero =>
    intro i s t ct P hik hst ht9 hP hw hr
    have him : i = m := by omega
    refine WS.iload hx dX5_workedOut_10 0 rfl ?_
    refine WS.aload_n hx dX5_workedOut_12 rfl 4 rfl ?_
    refine WS.getI hx okX5 lf5_60 rfl rfl dX5_workedOut_13 ?_
    refine WS.as rfl rfl (congrArg (fun z => Value.int z :: _) (show (stR σ 22 P).1 2 2 = nI m from hm)) ?_
    refine WS.icmp_ge (tgt := 224) hx dX5_workedOut_16 (by decide) (fun _ => ?_) (fun h => absurd (by rw [him]; exact Int32.le_refl _) h)
    refine WS.iconst (v := 0) hx dX5_workedOut_224 (by decide) ?_
    exact WS.iret hx he dX5_workedOut_225 ⟨_, rfl, by rw [← hr]; rfl, P, rfl⟩
  | succ k ih =>
    intro i s t ct P hik hst ht9 hP hw hr
    have hiI : (nI i).toInt = (i : Int) := nI_c (by omega)
    have hmI : (nI m).toInt = (m : Int) := nI_c (by omega)
    refine WS.iload hx dX5_workedOut_10 0 rfl ?_
    refine WS.aload_n hx dX5_workedOut_12 rfl 4 rfl ?_
    refine WS.getI hx okX5 lf5_60 rfl rfl dX5_workedOut_13 ?_
    refine WS.as rfl rfl (congrArg (fun z => Value.int z :: _) (show (stR σ 22 P).1 2 2 = nI m from hm)) ?_
    skip
    refine WS.icmp_ge (tgt := 224) hx dX5_workedOut_16 (by decide) (fun c16 => by exfalso; (try simp only [i_le, i_lt, i_eq, tI_m126, tI_m63, tI_m59, tI_m33, tI_m6, tI_m1, tI_0, tI_1, tI_127, tI_128] at c16); (try simp only [i_le, i_lt, i_eq, tI_m126, tI_m63, tI_m59, tI_m33, tI_m6, tI_m1, tI_0, tI_1, tI_127, tI_128]); omega) (fun c16 => ?_)
    refine WS.iload hx dX5_workedOut_19 0 rfl ?_
    refine WS.sipush (v := 128) hx dX5_workedOut_21 (by decide) ?_
    refine WS.icmp_ge (tgt := 224) hx dX5_workedOut_24 (by decide) (fun c24 => by exfalso; (try simp only [i_le, i_lt, i_eq, tI_m126, tI_m63, tI_m59, tI_m33, tI_m6, tI_m1, tI_0, tI_1, tI_127, tI_128] at c16); (try simp only [i_le, i_lt, i_eq, tI_m126, tI_m63, tI_m59, tI_m33, tI_m6, tI_m1, tI_0, tI_1, tI_127, tI_128] at c24); (try simp only [i_le, i_lt, i_eq, tI_m126, tI_m63, tI_m59, tI_m33, tI_m6, tI_m1, tI_0, tI_1, tI_127, tI_128]); omega) (fun c24 => ?_)
    refine WS.aload_n hx dX5_workedOut_27 rfl 4 rfl ?_
    refine WS.getT hx okX5 lf5_11 rfl rfl dX5_workedOut_28 ?_
    refine WS.as rfl rfl (congrArg (· :: _) (show (stR σ 22 P).2.2 2 0 = rf V c from hc)) ?_
    refine WS.iload hx dX5_workedOut_31 0 rfl ?_
    refine WS.iald hx hcl (vp_in_nI (by omega) (by decide)) dX5_workedOut_33 ?_
    refine WS.as rfl rfl (congrArg (fun z => Value.int z :: _) (show (stR σ 22 P).1 c (nn (nI i)) = σ.1 c i from by rw [stR_o _ _ _ hc22, nn_nI (by omega)])) ?_
    skip
    refine WS.istore (lo' := [(5, .int (σ.1 c i)), (4, .int (nI i)), (3, .int (bI ct)), (2, .int (nI t)), (1, .int 127), (0, rf V 2)]) hx dX5_workedOut_34 (by decide) rfl ?_
    refine WS.aload_n hx dX5_workedOut_36 rfl 5 rfl ?_
    refine WS.getR hx okX5 lf5_21 rfl rfl dX5_workedOut_37 ?_
    refine WS.iload_n hx dX5_workedOut_40 rfl 3 rfl ?_
    refine WS.iconst (v := 1) hx dX5_workedOut_41 (by decide) ?_
    refine WS.isub hx dX5_workedOut_42 ?_
    refine WS.iload_n hx dX5_workedOut_43 rfl 4 rfl ?_
    refine WS.iand hx dX5_workedOut_44 ?_
    refine WS.iald hx rfl (msk_in _) dX5_workedOut_45 ?_
    refine WS.topi (fun last elast => ?_)
    refine WS.istore (lo' := [(6, .int last), (5, .int (σ.1 c i)), (4, .int (nI i)), (3, .int (bI ct)), (2, .int (nI t)), (1, .int 127), (0, rf V 2)]) hx dX5_workedOut_46 (by decide) rfl ?_
    refine WS.iload hx dX5_workedOut_48 1 rfl ?_
    refine WS.bipush (v := (-6)) hx dX5_workedOut_50 (by decide) ?_
    refine WS.icmp_lt (tgt := 88) hx dX5_workedOut_52 (by decide) (fun c52 => ?_) (fun c52 => ?_)
    · skip
      show WS layC V 7 X (stR σ 22 P) 88 [(6, .int last), (5, .int (σ.1 c i)), (4, .int (nI i)), (3, .int (bI ct)), (2, .int (nI t)), (1, .int 127), (0, rf V 2)] []
      have hw2 := (wf_ge c52 hw)
      obtain ⟨hw1, hw2⟩ := hw2
      obtain ⟨x, r, hs⟩ := len_pos (s := s) (by omega)
      have hsl : t = r.length + 1 := by rw [← hst, hs]; rfl
      rw [hs, rl_op c52] at hr
      rw [hs] at hP
      have hlx : last = x := by
        rw [elast]
        show P (nn ((nI t - 1) &&& 127)) = x
        rw [hsl, mskm (by omega)]
        exact PR_top hP
      refine WS.iload hx dX5_workedOut_88 1 rfl ?_
      refine WS.bipush (v := (-33)) hx dX5_workedOut_90 (by decide) ?_
      refine WS.icmp_ne (tgt := 118) hx dX5_workedOut_92 (by decide) (fun c92 => ?_) (fun c92 => ?_)
      · skip
        show WS layC V 7 X (stR σ 22 P) 118 [(6, .int last), (5, .int (σ.1 c i)), (4, .int (nI i)), (3, .int (bI ct)), (2, .int (nI t)), (1, .int 127), (0, rf V 2)] []
        refine WS.iload hx dX5_workedOut_118 1 rfl ?_
        refine WS.bipush (v := (-126)) hx dX5_workedOut_120 (by decide) ?_
        refine WS.icmp_ne (tgt := 141) hx dX5_workedOut_122 (by decide) (fun c122 => ?_) (fun c122 => ?_)
        · skip
          show WS layC V 7 X (stR σ 22 P) 141 [(6, .int last), (5, .int (σ.1 c i)), (4, .int (nI i)), (3, .int (bI ct)), (2, .int (nI t)), (1, .int 127), (0, rf V 2)] []
          refine WS.iload hx dX5_workedOut_141 1 rfl ?_
          refine WS.bipush (v := (-63)) hx dX5_workedOut_143 (by decide) ?_
          refine WS.icmp_ne (tgt := 165) hx dX5_workedOut_145 (by decide) (fun c145 => ?_) (fun c145 => ?_)
          · skip
            show WS layC V 7 X (stR σ 22 P) 165 [(6, .int last), (5, .int (σ.1 c i)), (4, .int (nI i)), (3, .int (bI ct)), (2, .int (nI t)), (1, .int 127), (0, rf V 2)] []
            refine WS.iload hx dX5_workedOut_165 1 rfl ?_
            refine WS.bipush (v := (-59)) hx dX5_workedOut_167 (by decide) ?_
            refine WS.icmp_ne (tgt := 187) hx dX5_workedOut_169 (by decide) (fun c169 => ?_) (fun c169 => ?_)
            · skip
              show WS layC V 7 X (stR σ 22 P) 187 [(6, .int last), (5, .int (σ.1 c i)), (4, .int (nI i)), (3, .int (bI ct)), (2, .int (nI t)), (1, .int 127), (0, rf V 2)] []
              rw [if_neg (fun h => h.elim c92 c122), if_neg (fun h => h.elim c145 c169)] at hw2
              obtain ⟨v, q, hrq⟩ := len_pos (s := r) (by omega)
              have hrl : r.length = q.length + 1 := by rw [hrq]; rfl
              have hP2 := PR_pop hP
              rw [hrq] at hP2
              have hv2 : P q.length = v := PR_top hP2
              refine WS.iinc (v := nI (q.length + 1)) (lo' := [(2, .int (nI (q.length + 1))), (6, .int last), (5, .int (σ.1 c i)), (4, .int (nI i)), (3, .int (bI ct)), (1, .int 127), (0, rf V 2)]) hx dX5_workedOut_187 4 rfl (by rw [hsl, hrl]; exact pk_m1 _) (by decide) rfl ?_
              refine WS.aload_n hx dX5_workedOut_190 rfl 6 rfl ?_
              refine WS.getR hx okX5 lf5_21 rfl rfl dX5_workedOut_191 ?_
              refine WS.iload_n hx dX5_workedOut_194 rfl 0 rfl ?_
              refine WS.iconst (v := 1) hx dX5_workedOut_195 (by decide) ?_
              refine WS.isub hx dX5_workedOut_196 ?_
              refine WS.iload_n hx dX5_workedOut_197 rfl 5 rfl ?_
              refine WS.iand hx dX5_workedOut_198 ?_
              refine WS.iload hx dX5_workedOut_199 2 rfl ?_
              refine WS.ineg hx dX5_workedOut_201 ?_
              refine WS.aload_n hx dX5_workedOut_202 rfl 6 rfl ?_
              refine WS.getR hx okX5 lf5_21 rfl rfl dX5_workedOut_203 ?_
              refine WS.iload_n hx dX5_workedOut_206 rfl 0 rfl ?_
              refine WS.iconst (v := 1) hx dX5_workedOut_207 (by decide) ?_
              refine WS.isub hx dX5_workedOut_208 ?_
              refine WS.iload_n hx dX5_workedOut_209 rfl 5 rfl ?_
              refine WS.iand hx dX5_workedOut_210 ?_
              refine WS.iald hx rfl (msk_in _) dX5_workedOut_211 ?_
              refine WS.iload hx dX5_workedOut_212 1 rfl ?_
              refine WS.callSi (st := [.int (((nI (q.length + 1)) - 1) &&& 127), rf V 22]) [.int (-(σ.1 c i)), .int ((stR σ 22 P).1 22 (nn (((nI (q.length + 1)) - 1) &&& 127))), .int last] hx (c_X5_joined V d (stR σ 22 P) (-(σ.1 c i)) ((stR σ 22 P).1 22 (nn (((nI (q.length + 1)) - 1) &&& 127))) last) okX5_joined lm5_125 rfl rfl (Nat.le_of_ble_eq_true rfl) dX5_workedOut_214 (fun v1 σ2 h3 => ?_)
              obtain ⟨rfl, rfl⟩ := h3
              show WS layC V 7 X (stR σ 22 P) 217 [(2, .int (nI (q.length + 1))), (6, .int last), (5, .int (σ.1 c i)), (4, .int (nI i)), (3, .int (bI ct)), (1, .int 127), (0, rf V 2)] [.int (joinF (-(σ.1 c i)) ((stR σ 22 P).1 22 (nn (((nI (q.length + 1)) - 1) &&& 127))) last), .int (((nI (q.length + 1)) - 1) &&& 127), rf V 22]
              refine WS.iast hx rfl (msk_in _) dX5_workedOut_217 ?_
              refine WS.iinc (v := nI (i + 1)) (lo' := [(4, .int (nI (i + 1))), (2, .int (nI (q.length + 1))), (6, .int last), (5, .int (σ.1 c i)), (3, .int (bI ct)), (1, .int 127), (0, rf V 2)]) hx dX5_workedOut_218 3 rfl (nI_1 i) (by decide) rfl ?_
              refine WS.goto (tgt := 10) hx dX5_workedOut_221 (by decide) ?_
              rw [if_neg c92, if_neg c122, if_neg c145, if_neg c169, hrq] at hr
              refine WS.as (show stI (stR σ 22 P) 22 (nn (((nI (q.length + 1)) - 1) &&& 127)) (joinF (-(σ.1 c i)) ((stR σ 22 P).1 22 (nn (((nI (q.length + 1)) - 1) &&& 127))) last) = stR σ 22 (upd P q.length (joinF (-σ.1 c i) v x)) from by rw [stIR, mskm (by omega), stR_1, hv2, hlx]) rfl rfl ?_
              exact WS.los [0, 4, 1, 5, 6] rfl (ih (i + 1) (joinF (-σ.1 c i) v x :: q) (q.length + 1) ct _ (by omega) (by first | omega | rfl | (simp only [List.length_cons]; omega)) (by omega) (PR_push (PR_pop hP2) _) (by rw [show t - 1 = q.length + 1 by omega] at hw2; exact hw2.2) hr)
            · skip
              show WS layC V 7 X (stR σ 22 P) 172 [(6, .int last), (5, .int (σ.1 c i)), (4, .int (nI i)), (3, .int (bI ct)), (2, .int (nI t)), (1, .int 127), (0, rf V 2)] []
              refine WS.iload_n hx dX5_workedOut_172 rfl 3 rfl ?_
              refine WS.if_eq (tgt := 179) hx dX5_workedOut_173 (by decide) (fun c173 => ?_) (fun c173 => ?_)
              · skip
                show WS layC V 7 X (stR σ 22 P) 179 [(6, .int last), (5, .int (σ.1 c i)), (4, .int (nI i)), (3, .int (bI ct)), (2, .int (nI t)), (1, .int 127), (0, rf V 2)] []
                refine WS.iconst (v := 1) hx dX5_workedOut_179 (by decide) ?_
                refine WS.istore_n (lo' := [(3, .int 1), (6, .int last), (5, .int (σ.1 c i)), (4, .int (nI i)), (2, .int (nI t)), (1, .int 127), (0, rf V 2)]) hx dX5_workedOut_180 rfl (by decide) rfl ?_
                refine WS.iinc (v := nI r.length) (lo' := [(2, .int (nI r.length)), (3, .int 1), (6, .int last), (5, .int (σ.1 c i)), (4, .int (nI i)), (1, .int 127), (0, rf V 2)]) hx dX5_workedOut_181 4 rfl (by rw [hsl]; exact pk_m1 _) (by decide) rfl ?_
                refine WS.goto (tgt := 218) hx dX5_workedOut_184 (by decide) ?_
                refine WS.iinc (v := nI (i + 1)) (lo' := [(4, .int (nI (i + 1))), (2, .int (nI r.length)), (3, .int 1), (6, .int last), (5, .int (σ.1 c i)), (1, .int 127), (0, rf V 2)]) hx dX5_workedOut_218 4 rfl (nI_1 i) (by decide) rfl ?_
                refine WS.goto (tgt := 10) hx dX5_workedOut_221 (by decide) ?_
                rw [if_neg (fun h => h.elim c92 c122), if_pos (Or.inr c169)] at hw2
                rw [if_neg c92, if_neg c122, if_neg c145, if_pos c169, if_neg (by intro h; rw [h] at c173; exact absurd c173 (by decide))] at hr
                exact WS.los [0, 2, 1, 5, 6] rfl (ih (i + 1) (r) r.length true _ (by omega) (by first | omega | rfl | (simp only [List.length_cons]; omega)) (by omega) (PR_pop hP) (by rw [hsl] at hw2; exact hw2) hr)
              · skip
                show WS layC V 7 X (stR σ 22 P) 176 [(6, .int last), (5, .int (σ.1 c i)), (4, .int (nI i)), (3, .int (bI ct)), (2, .int (nI t)), (1, .int 127), (0, rf V 2)] []
                refine WS.iload hx dX5_workedOut_176 0 rfl ?_
                exact WS.iret hx he dX5_workedOut_178 ⟨_, rfl, by rw [← hr, if_neg c92, if_neg c122, if_neg c145, if_pos c169, if_pos (by cases ct <;> simp_all [bI])]; exact hlx.symm, P, rfl⟩
          · skip
            show WS layC V 7 X (stR σ 22 P) 148 [(6, .int last), (5, .int (σ.1 c i)), (4, .int (nI i)), (3, .int (bI ct)), (2, .int (nI t)), (1, .int 127), (0, rf V 2)] []
            refine WS.iload hx dX5_workedOut_148 0 rfl ?_
            refine WS.if_eq (tgt := 157) hx dX5_workedOut_150 (by decide) (fun c150 => ?_) (fun c150 => ?_)
            · skip
              show WS layC V 7 X (stR σ 22 P) 157 [(6, .int last), (5, .int (σ.1 c i)), (4, .int (nI i)), (3, .int (bI ct)), (2, .int (nI t)), (1, .int 127), (0, rf V 2)] []
              refine WS.iconst (v := 0) hx dX5_workedOut_157 (by decide) ?_
              refine WS.istore_n (lo' := [(3, .int 0), (6, .int last), (5, .int (σ.1 c i)), (4, .int (nI i)), (2, .int (nI t)), (1, .int 127), (0, rf V 2)]) hx dX5_workedOut_158 rfl (by decide) rfl ?_
              refine WS.iinc (v := nI r.length) (lo' := [(2, .int (nI r.length)), (3, .int 0), (6, .int last), (5, .int (σ.1 c i)), (4, .int (nI i)), (1, .int 127), (0, rf V 2)]) hx dX5_workedOut_159 4 rfl (by rw [hsl]; exact pk_m1 _) (by decide) rfl ?_
              refine WS.goto (tgt := 218) hx dX5_workedOut_162 (by decide) ?_
              refine WS.iinc (v := nI (i + 1)) (lo' := [(4, .int (nI (i + 1))), (2, .int (nI r.length)), (3, .int 0), (6, .int last), (5, .int (σ.1 c i)), (1, .int 127), (0, rf V 2)]) hx dX5_workedOut_218 4 rfl (nI_1 i) (by decide) rfl ?_
              refine WS.goto (tgt := 10) hx dX5_workedOut_221 (by decide) ?_
              rw [if_neg (fun h => h.elim c92 c122), if_pos (Or.inl c145)] at hw2
              rw [if_neg c92, if_neg c122, if_pos c145, show decide (¬ x = 0) = false from by rw [← hlx]; simp [c150]] at hr
              exact WS.los [0, 2, 1, 5, 6] rfl (ih (i + 1) (r) r.length false _ (by omega) (by first | omega | rfl | (simp only [List.length_cons]; omega)) (by omega) (PR_pop hP) (by rw [hsl] at hw2; exact hw2) hr)
            · skip
              show WS layC V 7 X (stR σ 22 P) 153 [(6, .int last), (5, .int (σ.1 c i)), (4, .int (nI i)), (3, .int (bI ct)), (2, .int (nI t)), (1, .int 127), (0, rf V 2)] []
              refine WS.iconst (v := 1) hx dX5_workedOut_153 (by decide) ?_
              refine WS.goto (tgt := 158) hx dX5_workedOut_154 (by decide) ?_
              refine WS.istore_n (lo' := [(3, .int 1), (6, .int last), (5, .int (σ.1 c i)), (4, .int (nI i)), (2, .int (nI t)), (1, .int 127), (0, rf V 2)]) hx dX5_workedOut_158 rfl (by decide) rfl ?_
              refine WS.iinc (v := nI r.length) (lo' := [(2, .int (nI r.length)), (3, .int 1), (6, .int last), (5, .int (σ.1 c i)), (4, .int (nI i)), (1, .int 127), (0, rf V 2)]) hx dX5_workedOut_159 4 rfl (by rw [hsl]; exact pk_m1 _) (by decide) rfl ?_
              refine WS.goto (tgt := 218) hx dX5_workedOut_162 (by decide) ?_
              refine WS.iinc (v := nI (i + 1)) (lo' := [(4, .int (nI (i + 1))), (2, .int (nI r.length)), (3, .int 1), (6, .int last), (5, .int (σ.1 c i)), (1, .int 127), (0, rf V 2)]) hx dX5_workedOut_218 4 rfl (nI_1 i) (by decide) rfl ?_
              refine WS.goto (tgt := 10) hx dX5_workedOut_221 (by decide) ?_
              rw [if_neg (fun h => h.elim c92 c122), if_pos (Or.inl c145)] at hw2
              rw [if_neg c92, if_neg c122, if_pos c145, show decide (¬ x = 0) = true from by rw [← hlx]; simp [c150]] at hr
              exact WS.los [0, 2, 1, 5, 6] rfl (ih (i + 1) (r) r.length true _ (by omega) (by first | omega | rfl | (simp only [List.length_cons]; omega)) (by omega) (PR_pop hP) (by rw [hsl] at hw2; exact hw2) hr)
        · skip
          show WS layC V 7 X (stR σ 22 P) 125 [(6, .int last), (5, .int (σ.1 c i)), (4, .int (nI i)), (3, .int (bI ct)), (2, .int (nI t)), (1, .int 127), (0, rf V 2)] []
          refine WS.aload_n hx dX5_workedOut_125 rfl 6 rfl ?_
          refine WS.getR hx okX5 lf5_21 rfl rfl dX5_workedOut_126 ?_
          refine WS.iload_n hx dX5_workedOut_129 rfl 4 rfl ?_
          refine WS.iconst (v := 1) hx dX5_workedOut_130 (by decide) ?_
          refine WS.isub hx dX5_workedOut_131 ?_
          refine WS.iload_n hx dX5_workedOut_132 rfl 5 rfl ?_
          refine WS.iand hx dX5_workedOut_133 ?_
          refine WS.iload hx dX5_workedOut_134 0 rfl ?_
          refine WS.ineg hx dX5_workedOut_136 ?_
          refine WS.iast hx rfl (msk_in _) dX5_workedOut_137 ?_
          refine WS.goto (tgt := 218) hx dX5_workedOut_138 (by decide) ?_
          refine WS.iinc (v := nI (i + 1)) (lo' := [(4, .int (nI (i + 1))), (6, .int last), (5, .int (σ.1 c i)), (3, .int (bI ct)), (2, .int (nI t)), (1, .int 127), (0, rf V 2)]) hx dX5_workedOut_218 2 rfl (nI_1 i) (by decide) rfl ?_
          refine WS.goto (tgt := 10) hx dX5_workedOut_221 (by decide) ?_
          rw [if_pos (Or.inr c122)] at hw2
          rw [if_neg c92, if_pos c122] at hr
          refine WS.as (show stI (stR σ 22 P) 22 (nn (((nI t) - 1) &&& 127)) (-last) = stR σ 22 (upd P r.length (-x)) from by rw [stIR, hsl, mskm (by omega), hlx]) rfl rfl ?_
          exact WS.los [0, 3, 4, 5, 6] rfl (ih (i + 1) (-x :: r) t ct _ (by omega) (by first | omega | rfl | (simp only [List.length_cons]; omega)) (by omega) (PR_push (PR_pop hP) _) (hw2) hr)
      · skip
        show WS layC V 7 X (stR σ 22 P) 95 [(6, .int last), (5, .int (σ.1 c i)), (4, .int (nI i)), (3, .int (bI ct)), (2, .int (nI t)), (1, .int 127), (0, rf V 2)] []
        refine WS.aload_n hx dX5_workedOut_95 rfl 6 rfl ?_
        refine WS.getR hx okX5 lf5_21 rfl rfl dX5_workedOut_96 ?_
        refine WS.iload_n hx dX5_workedOut_99 rfl 4 rfl ?_
        refine WS.iconst (v := 1) hx dX5_workedOut_100 (by decide) ?_
        refine WS.isub hx dX5_workedOut_101 ?_
        refine WS.iload_n hx dX5_workedOut_102 rfl 5 rfl ?_
        refine WS.iand hx dX5_workedOut_103 ?_
        refine WS.iload hx dX5_workedOut_104 0 rfl ?_
        refine WS.if_ne (tgt := 113) hx dX5_workedOut_106 (by decide) (fun c106 => ?_) (fun c106 => ?_)
        · skip
          show WS layC V 7 X (stR σ 22 P) 113 [(6, .int last), (5, .int (σ.1 c i)), (4, .int (nI i)), (3, .int (bI ct)), (2, .int (nI t)), (1, .int 127), (0, rf V 2)] [.int (((nI t) - 1) &&& 127), rf V 22]
          refine WS.iconst (v := 0) hx dX5_workedOut_113 (by decide) ?_
          refine WS.iast hx rfl (msk_in _) dX5_workedOut_114 ?_
          refine WS.goto (tgt := 218) hx dX5_workedOut_115 (by decide) ?_
          refine WS.iinc (v := nI (i + 1)) (lo' := [(4, .int (nI (i + 1))), (6, .int last), (5, .int (σ.1 c i)), (3, .int (bI ct)), (2, .int (nI t)), (1, .int 127), (0, rf V 2)]) hx dX5_workedOut_218 2 rfl (nI_1 i) (by decide) rfl ?_
          refine WS.goto (tgt := 10) hx dX5_workedOut_221 (by decide) ?_
          rw [if_pos (Or.inl c92)] at hw2
          rw [if_pos c92, if_neg (by rw [← hlx]; exact c106)] at hr
          refine WS.as (show stI (stR σ 22 P) 22 (nn (((nI t) - 1) &&& 127)) 0 = stR σ 22 (upd P r.length 0) from by rw [stIR, hsl, mskm (by omega)]) rfl rfl ?_
          exact WS.los [0, 3, 4, 5, 6] rfl (ih (i + 1) (0 :: r) t ct _ (by omega) (by first | omega | rfl | (simp only [List.length_cons]; omega)) (by omega) (PR_push (PR_pop hP) _) (hw2) hr)
        · skip
          show WS layC V 7 X (stR σ 22 P) 109 [(6, .int last), (5, .int (σ.1 c i)), (4, .int (nI i)), (3, .int (bI ct)), (2, .int (nI t)), (1, .int 127), (0, rf V 2)] [.int (((nI t) - 1) &&& 127), rf V 22]
          refine WS.iconst (v := 1) hx dX5_workedOut_109 (by decide) ?_
          refine WS.goto (tgt := 114) hx dX5_workedOut_110 (by decide) ?_
          refine WS.iast hx rfl (msk_in _) dX5_workedOut_114 ?_
          refine WS.goto (tgt := 218) hx dX5_workedOut_115 (by decide) ?_
          refine WS.iinc (v := nI (i + 1)) (lo' := [(4, .int (nI (i + 1))), (6, .int last), (5, .int (σ.1 c i)), (3, .int (bI ct)), (2, .int (nI t)), (1, .int 127), (0, rf V 2)]) hx dX5_workedOut_218 2 rfl (nI_1 i) (by decide) rfl ?_
          refine WS.goto (tgt := 10) hx dX5_workedOut_221 (by decide) ?_
          rw [if_pos (Or.inl c92)] at hw2
          rw [if_pos c92, if_pos (by rw [← hlx]; exact c106)] at hr
          refine WS.as (show stI (stR σ 22 P) 22 (nn (((nI t) - 1) &&& 127)) 1 = stR σ 22 (upd P r.length 1) from by rw [stIR, hsl, mskm (by omega)]) rfl rfl ?_
          exact WS.los [0, 3, 4, 5, 6] rfl (ih (i + 1) (1 :: r) t ct _ (by omega) (by first | omega | rfl | (simp only [List.length_cons]; omega)) (by omega) (PR_push (PR_pop hP) _) (hw2) hr)
    · skip
      show WS layC V 7 X (stR σ 22 P) 55 [(6, .int last), (5, .int (σ.1 c i)), (4, .int (nI i)), (3, .int (bI ct)), (2, .int (nI t)), (1, .int 127), (0, rf V 2)] []
      refine WS.aload_n hx dX5_workedOut_55 rfl 6 rfl ?_
      refine WS.getR hx okX5 lf5_21 rfl rfl dX5_workedOut_56 ?_
      refine WS.iload_n hx dX5_workedOut_59 rfl 4 rfl ?_
      refine WS.iload_n hx dX5_workedOut_60 rfl 5 rfl ?_
      refine WS.iand hx dX5_workedOut_61 ?_
      refine WS.iload hx dX5_workedOut_62 1 rfl ?_
      refine WS.if_lt (tgt := 72) hx dX5_workedOut_64 (by decide) (fun c64 => ?_) (fun c64 => ?_)
      · skip
        show WS layC V 7 X (stR σ 22 P) 72 [(6, .int last), (5, .int (σ.1 c i)), (4, .int (nI i)), (3, .int (bI ct)), (2, .int (nI t)), (1, .int 127), (0, rf V 2)] [.int ((nI t) &&& 127), rf V 22]
        refine WS.aload_n hx dX5_workedOut_72 rfl 6 rfl ?_
        refine WS.getR hx okX5 lf5_18 rfl rfl dX5_workedOut_73 ?_
        refine WS.iconst (v := (-1)) hx dX5_workedOut_76 (by decide) ?_
        refine WS.iload hx dX5_workedOut_77 1 rfl ?_
        refine WS.isub hx dX5_workedOut_79 ?_
        refine WS.iald hx rfl (vp_in_iff.mpr (by (try simp only [i_le, i_lt, i_eq, tI_m126, tI_m63, tI_m59, tI_m33, tI_m6, tI_m1, tI_0, tI_1, tI_127, tI_128] at c16); (try simp only [i_le, i_lt, i_eq, tI_m126, tI_m63, tI_m59, tI_m33, tI_m6, tI_m1, tI_0, tI_1, tI_127, tI_128] at c24); (try simp only [i_le, i_lt, i_eq, tI_m126, tI_m63, tI_m59, tI_m33, tI_m6, tI_m1, tI_0, tI_1, tI_127, tI_128] at c52); (try simp only [i_le, i_lt, i_eq, tI_m126, tI_m63, tI_m59, tI_m33, tI_m6, tI_m1, tI_0, tI_1, tI_127, tI_128] at c64); rw [i_sub (by rw [tI_m1]; omega) (by rw [tI_m1]; omega), tI_m1]; omega)) dX5_workedOut_80 ?_
        refine WS.iast hx rfl (msk_in _) dX5_workedOut_81 ?_
        refine WS.iinc (v := nI (t + 1)) (lo' := [(2, .int (nI (t + 1))), (6, .int last), (5, .int (σ.1 c i)), (4, .int (nI i)), (3, .int (bI ct)), (1, .int 127), (0, rf V 2)]) hx dX5_workedOut_82 4 rfl (nI_1 t) (by decide) rfl ?_
        refine WS.goto (tgt := 218) hx dX5_workedOut_85 (by decide) ?_
        refine WS.iinc (v := nI (i + 1)) (lo' := [(4, .int (nI (i + 1))), (2, .int (nI (t + 1))), (6, .int last), (5, .int (σ.1 c i)), (3, .int (bI ct)), (1, .int 127), (0, rf V 2)]) hx dX5_workedOut_218 3 rfl (nI_1 i) (by decide) rfl ?_
        refine WS.goto (tgt := 10) hx dX5_workedOut_221 (by decide) ?_
        have hw2 := wf_lt c52 hw
        rw [rl_push c52, if_pos c64] at hr
        refine WS.as (show stI (stR σ 22 P) 22 (nn ((nI t) &&& 127)) ((stR σ 22 P).1 21 (nn ((-1) - (σ.1 c i)))) = stR σ 22 (upd P s.length (σ.1 21 (nn (-1 - σ.1 c i)))) from by rw [stIR, msk0 (by omega), hst]; try rfl) rfl rfl ?_
        exact WS.los [0, 4, 1, 5, 6] rfl (ih (i + 1) ((σ.1 21 (nn (-1 - σ.1 c i))) :: s) (t + 1) ct _ (by omega) (by first | omega | rfl | (simp only [List.length_cons]; omega)) (by omega) (PR_push hP _) (hw2.2) hr)
      · skip
        show WS layC V 7 X (stR σ 22 P) 67 [(6, .int last), (5, .int (σ.1 c i)), (4, .int (nI i)), (3, .int (bI ct)), (2, .int (nI t)), (1, .int 127), (0, rf V 2)] [.int ((nI t) &&& 127), rf V 22]
        refine WS.iload hx dX5_workedOut_67 1 rfl ?_
        refine WS.goto (tgt := 81) hx dX5_workedOut_69 (by decide) ?_
        refine WS.iast hx rfl (msk_in _) dX5_workedOut_81 ?_
        refine WS.iinc (v := nI (t + 1)) (lo' := [(2, .int (nI (t + 1))), (6, .int last), (5, .int (σ.1 c i)), (4, .int (nI i)), (3, .int (bI ct)), (1, .int 127), (0, rf V 2)]) hx dX5_workedOut_82 4 rfl (nI_1 t) (by decide) rfl ?_
        refine WS.goto (tgt := 218) hx dX5_workedOut_85 (by decide) ?_
        refine WS.iinc (v := nI (i + 1)) (lo' := [(4, .int (nI (i + 1))), (2, .int (nI (t + 1))), (6, .int last), (5, .int (σ.1 c i)), (3, .int (bI ct)), (1, .int 127), (0, rf V 2)]) hx dX5_workedOut_218 3 rfl (nI_1 i) (by decide) rfl ?_
        refine WS.goto (tgt := 10) hx dX5_workedOut_221 (by decide) ?_
        have hw2 := wf_lt c52 hw
        rw [rl_push c52, if_neg c64] at hr
        refine WS.as (show stI (stR σ 22 P) 22 (nn ((nI t) &&& 127)) (σ.1 c i) = stR σ 22 (upd P s.length (σ.1 c i)) from by rw [stIR, msk0 (by omega), hst]; try rfl) rfl rfl ?_
        exact WS.los [0, 4, 1, 5, 6] rfl (ih (i + 1) ((σ.1 c i) :: s) (t + 1) ct _ (by omega) (by first | omega | rfl | (simp only [List.length_cons]; omega)) (by omega) (PR_push hP _) (hw2.2) hr)
set_option maxHeartbeats 1000000 in
theorem c_X5_workedOut (V : Vt) (d : Nat) (σ : Sg) (m c : Nat) (hm2 : m ≤ 128) (hm : σ.1 2 2 = nI m) (hc : σ.2.2 2 0 = rf V c) (hcl : layC[c]? = some (.inr (.inl (0, 128)))) (hc22 : c ≠ 22) (hw : wfC (σ.1 c) m 0 0) : CT layC V mX5_workedOut (d + 1) [rf V 2] σ (Ri fun v σ' => rlC (σ.1 c) (σ.1 21) m 0 [] true = v ∧ ∃ P, σ' = stR σ 22 P) := by
  refine CT.of (own := RX5) rfl (by decide) (Nat.le_of_ble_eq_true rfl) (fun X (hx : Ok V RX5 cX5_workedOut 7 (d + 1) X) (he : En layC V (some .int) (Ri fun v σ' => rlC (σ.1 c) (σ.1 21) m 0 [] true = v ∧ ∃ P, σ' = stR σ 22 P) X) => ?_)
  change WS layC V 7 X σ 0 [(0, rf V 2)] []
  refine WS.bipush (v := 127) hx dX5_workedOut_0 (by decide) ?_
  refine WS.istore_n (lo' := [(1, .int 127), (0, rf V 2)]) hx dX5_workedOut_2 rfl (by decide) rfl ?_
  refine WS.iconst (v := 0) hx dX5_workedOut_3 (by decide) ?_
  refine WS.istore_n (lo' := [(2, .int 0), (1, .int 127), (0, rf V 2)]) hx dX5_workedOut_4 rfl (by decide) rfl ?_
  refine WS.iconst (v := 1) hx dX5_workedOut_5 (by decide) ?_
  refine WS.istore_n (lo' := [(3, .int 1), (2, .int 0), (1, .int 127), (0, rf V 2)]) hx dX5_workedOut_6 rfl (by decide) rfl ?_
  refine WS.iconst (v := 0) hx dX5_workedOut_7 (by decide) ?_
  refine WS.istore (lo' := [(4, .int 0), (3, .int 1), (2, .int 0), (1, .int 127), (0, rf V 2)]) hx dX5_workedOut_8 (by decide) rfl ?_
  have h9 := lp_X5_workedOut V d σ m c hm2 hm hc hcl hc22 _ X hx he m 0 [] 0 true (σ.1 22) (by omega) rfl (by omega) (PR_nil _) hw rfl
  rw [show stR σ 22 (σ.1 22) = σ from by have := stR_0 σ 22 0; rwa [fill_0] at this] at h9
  exact h9
