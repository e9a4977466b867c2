/-! LINES OF A LAW: in the class's codes, in the model's rows -/
def LIN (cs : Nat → Int32) (f : Nat) (l : Option ((Nat → Int32) → Int32) × ((Nat → Int32) → Int32)) (e : Nat) : Prop := match l with
  | (none, v) => ∃ k, 1 ≤ k ∧ EX cs f k v ∧ cs (f + k) = -59 ∧ e = f + k + 1
  | (some c, v) => ∃ k1 k2, 1 ≤ k1 ∧ 1 ≤ k2 ∧ EX cs f k1 c ∧ cs (f + k1) = -63 ∧ EX cs (f + k1 + 1) k2 v ∧ cs (f + k1 + 1 + k2) = -59 ∧ e = f + k1 + 1 + k2 + 1
def CLs (cs : Nat → Int32) : Nat → Lw → Nat → Prop
  | f, [], e => f = e
  | f, l :: r, e => ∃ g, LIN cs f l g ∧ CLs cs g r e
def LIM (cs as es : Nat → Int32) (j f : Nat) (l : Option ((Nat → Int32) → Int32) × ((Nat → Int32) → Int32)) (e : Nat) : Prop := match l with
  | (none, v) => as j = nI f ∧ ∃ k, 1 ≤ k ∧ EX cs f k v ∧ es j = nI (f + k) ∧ e = f + k
  | (some c, v) => ∃ k1 k2, 1 ≤ k1 ∧ 1 ≤ k2 ∧ EX cs f k1 c ∧ as j = nI (f + k1) ∧ EX cs (f + k1) k2 v ∧ es j = nI (f + k1 + k2) ∧ e = f + k1 + k2
def CMs (cs as es : Nat → Int32) : Nat → Nat → Lw → Nat → Prop
  | _, f, [], e => f = e
  | j, f, l :: r, e => ∃ g, LIM cs as es j f l g ∧ CMs cs as es (j + 1) g r e
theorem LIN.lt {cs : Nat → Int32} {f e : Nat} {l : Option ((Nat → Int32) → Int32) × ((Nat → Int32) → Int32)} (h : LIN cs f l e) : f < e := by
  obtain ⟨a, v⟩ := l
  cases a with
  | none => obtain ⟨k, h1, h2, h3, h4⟩ := h; omega
  | some c => obtain ⟨k1, k2, h1, h2, h3, h4, h5, h6, h7⟩ := h; omega
theorem LIM.le {cs as es : Nat → Int32} {j f e : Nat} {l : Option ((Nat → Int32) → Int32) × ((Nat → Int32) → Int32)} (h : LIM cs as es j f l e) : f ≤ e := by
  obtain ⟨a, v⟩ := l
  cases a with
  | none => obtain ⟨h0, k, h1, h2, h3, h4⟩ := h; omega
  | some c => obtain ⟨k1, k2, h1, h2, h3, h4, h5, h6, h7⟩ := h; omega
theorem CLs.le {cs : Nat → Int32} : ∀ {lw : Lw} {f e : Nat}, CLs cs f lw e → f ≤ e
  | [], f, e, h => Nat.le_of_eq h
  | l :: r, f, e, ⟨g, h1, h2⟩ => Nat.le_trans (Nat.le_of_lt h1.lt) (CLs.le h2)
theorem CMs.le {cs as es : Nat → Int32} : ∀ {lw : Lw} {j f e : Nat}, CMs cs as es j f lw e → f ≤ e
  | [], _, f, e, h => Nat.le_of_eq h
  | l :: r, _, f, e, ⟨g, h1, h2⟩ => Nat.le_trans h1.le (CMs.le h2)
theorem LIN.sh {cs cs' : Nat → Int32} {f e : Nat} {l : Option ((Nat → Int32) → Int32) × ((Nat → Int32) → Int32)} (h : LIN cs f l e) (g : ∀ j, j < e → cs' j = cs j) : LIN cs' f l e := by
  obtain ⟨a, v⟩ := l
  cases a with
  | none =>
    obtain ⟨k, h1, h2, h3, h4⟩ := h
    exact ⟨k, h1, h2.sh fun j hj => g _ (by omega), (g _ (by omega)).trans h3, h4⟩
  | some c =>
    obtain ⟨k1, k2, h1, h2, h3, h4, h5, h6, h7⟩ := h
    exact ⟨k1, k2, h1, h2, h3.sh fun j hj => g _ (by omega), (g _ (by omega)).trans h4, h5.sh fun j hj => g _ (by omega), (g _ (by omega)).trans h6, h7⟩
theorem CLs.sh {cs cs' : Nat → Int32} : ∀ {lw : Lw} {f e : Nat}, CLs cs f lw e → (∀ j, j < e → cs' j = cs j) → CLs cs' f lw e
  | [], f, e, h, _ => h
  | l :: r, f, e, ⟨g, h1, h2⟩, hg => ⟨g, h1.sh fun j hj => hg j (Nat.lt_of_lt_of_le hj (CLs.le h2)), CLs.sh h2 hg⟩
theorem LIM.sh {cs cs' as as' es es' : Nat → Int32} {j f e : Nat} {l : Option ((Nat → Int32) → Int32) × ((Nat → Int32) → Int32)} (h : LIM cs as es j f l e) (g : ∀ q, q < e → cs' q = cs q) (ha : as' j = as j) (he : es' j = es j) : LIM cs' as' es' j f l e := by
  obtain ⟨a, v⟩ := l
  cases a with
  | none =>
    obtain ⟨h0, k, h1, h2, h3, h4⟩ := h
    exact ⟨ha.trans h0, k, h1, h2.sh fun q hq => g _ (by omega), he.trans h3, h4⟩
  | some c =>
    obtain ⟨k1, k2, h1, h2, h3, h4, h5, h6, h7⟩ := h
    exact ⟨k1, k2, h1, h2, h3.sh fun q hq => g _ (by omega), ha.trans h4, h5.sh fun q hq => g _ (by omega), he.trans h6, h7⟩
theorem CMs.sh {cs cs' as as' es es' : Nat → Int32} : ∀ {lw : Lw} {j f e : Nat}, CMs cs as es j f lw e → (∀ q, q < e → cs' q = cs q) → (∀ q, q < j + lw.length → as' q = as q ∧ es' q = es q) → CMs cs' as' es' j f lw e
  | [], _, f, e, h, _, _ => h
  | l :: r, j, f, e, ⟨g, h1, h2⟩, hg, ha => ⟨g, h1.sh (fun q hq => hg q (Nat.lt_of_lt_of_le hq (CMs.le h2))) (ha j (by rw [List.length_cons]; omega)).1 (ha j (by rw [List.length_cons]; omega)).2, CMs.sh h2 hg (fun q hq => ha q (by rw [List.length_cons]; omega))⟩
theorem CLs.snoc {cs : Nat → Int32} {l : Option ((Nat → Int32) → Int32) × ((Nat → Int32) → Int32)} : ∀ {lw : Lw} {f e e' : Nat}, CLs cs f lw e → LIN cs e l e' → CLs cs f (lw ++ [l]) e'
  | [], f, e, e', h, g => by
    have h' : f = e := h
    subst h'
    exact ⟨e', g, rfl⟩
  | a :: r, f, e, e', ⟨m, h1, h2⟩, g => ⟨m, h1, CLs.snoc h2 g⟩
theorem CMs.snoc {cs as es : Nat → Int32} {l : Option ((Nat → Int32) → Int32) × ((Nat → Int32) → Int32)} : ∀ {lw : Lw} {j f e e' : Nat}, CMs cs as es j f lw e → LIM cs as es (j + lw.length) e l e' → CMs cs as es j f (lw ++ [l]) e'
  | [], j, f, e, e', h, g => by
    have h' : f = e := h
    subst h'
    exact ⟨e', g, rfl⟩
  | a :: r, j, f, e, e', ⟨m, h1, h2⟩, g => ⟨m, h1, CMs.snoc h2 (by rw [List.length_cons] at g; rw [show j + 1 + r.length = j + (r.length + 1) by omega]; exact g)⟩
theorem CMs.ml {cs as es : Nat → Int32} {T : Nat} : ∀ {lw : Lw} {j f e : Nat}, CMs cs as es j f lw e → e ≤ T → MLs cs as es T j f lw
  | [], _, _, _, _, _ => True.intro
  | (none, v) :: r, j, f, e, ⟨g, ⟨h0, k, h1, h2, h3, h4⟩, h5⟩, hT => by
    have := CMs.le h5
    subst h4
    exact ⟨h0, k, h1, by omega, h2, h3, CMs.ml h5 hT⟩
  | (some c, v) :: r, j, f, e, ⟨g, ⟨k1, k2, h1, h2, h3, h4, h5, h6, h7⟩, h8⟩, hT => by
    have := CMs.le h8
    subst h7
    exact ⟨k1, k2, h1, h2, by omega, h3, h4, h5, h6, CMs.ml h8 hT⟩
/-- an expression is worked out by the class -/
theorem ex_rl {cs nm : Nat → Int32} {ct : Bool} : ∀ (k m i : Nat) (s s' : List Int32), exC cs nm k i s = some s' → rlC cs nm (k + m) i s ct = rlC cs nm m (i + k) s' ct
  | 0, m, i, s, s', h => by
    have h' : s = s' := Option.some.inj h
    rw [h', Nat.zero_add]
    rfl
  | k + 1, m, i, s, s', h => by
    have h' : (st1 (cs i) nm s).bind (exC cs nm k (i + 1)) = some s' := h
    obtain ⟨t, h1, h2⟩ := Option.bind_eq_some_iff.mp h'
    have ih := ex_rl (ct := ct) k m (i + 1) t s' h2
    rw [show k + 1 + m = (k + m) + 1 by omega, show i + (k + 1) = i + 1 + k by omega, ← ih]
    rcases st1_c h1 with ⟨a, rfl⟩ | ⟨a, x, r, rfl, rfl⟩ | ⟨a, x, r, rfl, rfl⟩ | ⟨a, x, v, q, rfl, rfl⟩
    · rw [rl_push a]
    · rw [rl_op (by rw [a]; decide), if_pos a]
    · rw [rl_op (by rw [a]; decide), if_neg (by rw [a]; decide), if_pos a]
    · obtain ⟨b1, b2, b3, b4, b5, -⟩ := isB_n a
      rw [Int32.neg_neg] at b1 b2 b3 b4 b5
      rw [rl_op b1, if_neg b2, if_neg b3, if_neg b4, if_neg b5]
theorem ex_wf {cs nm : Nat → Int32} : ∀ (k m i : Nat) (s s' : List Int32), exC cs nm k i s = some s' → s.length + k ≤ 127 → wfC cs m (i + k) s'.length → wfC cs (k + m) i s.length
  | 0, m, i, s, s', h, _, hw => by
    have h' : s = s' := Option.some.inj h
    rw [h', Nat.zero_add]
    exact hw
  | k + 1, m, i, s, s', h, hl, hw => by
    have h' : (st1 (cs i) nm s).bind (exC cs nm k (i + 1)) = some s' := h
    obtain ⟨t, h1, h2⟩ := Option.bind_eq_some_iff.mp h'
    have ih := ex_wf k m (i + 1) t s' h2
    rw [show i + 1 + k = i + (k + 1) by omega] at ih
    rw [show k + 1 + m = (k + m) + 1 by omega]
    unfold wfC
    rcases st1_c h1 with ⟨a, rfl⟩ | ⟨a, x, r, rfl, rfl⟩ | ⟨a, x, r, rfl, rfl⟩ | ⟨a, x, v, q, rfl, rfl⟩
    · rw [if_neg a]
      refine ⟨by omega, ih (by rw [List.length_cons]; omega) hw⟩
    · rw [if_pos (by rw [a]; decide), if_pos (Or.inl a)]
      rw [List.length_cons] at hl ih ⊢
      exact ⟨by omega, ih (by omega) hw⟩
    · rw [if_pos (by rw [a]; decide), if_pos (Or.inr a)]
      rw [List.length_cons] at hl ih ⊢
      exact ⟨by omega, ih (by omega) hw⟩
    · obtain ⟨b1, b2, b3, b4, b5, -⟩ := isB_n a
      rw [Int32.neg_neg] at b1 b2 b3 b4 b5
      rw [if_pos b1, if_neg (fun h => h.elim b2 b3), if_neg (fun h => h.elim b4 b5)]
      rw [List.length_cons] at hl ih ⊢
      rw [List.length_cons] at hl ⊢
      exact ⟨by omega, by omega, ih (by omega) hw⟩
theorem wf_end {cs : Nat → Int32} {m i : Nat} (h : cs i = -63 ∨ cs i = -59) (hw : wfC cs m (i + 1) 0) : wfC cs (m + 1) i 1 := by
  unfold wfC
  rcases h with h | h
  · rw [if_pos (by rw [h]; decide), if_neg (by rw [h]; decide), if_pos (Or.inl h)]
    exact ⟨Nat.le_refl _, hw⟩
  · rw [if_pos (by rw [h]; decide), if_neg (by rw [h]; decide), if_pos (Or.inr h)]
    exact ⟨Nat.le_refl _, hw⟩
theorem CLs.wf {cs : Nat → Int32} : ∀ {lw : Lw} {f e : Nat}, CLs cs f lw e → e ≤ 126 → wfC cs (e - f) f 0
  | [], f, e, h, _ => by
    have h' : f = e := h
    subst h'
    rw [Nat.sub_self]
    exact True.intro
  | (none, v) :: r, f, e, ⟨g, ⟨k, h1, h2, h3, h4⟩, h5⟩, hT => by
    have hle := CLs.le h5
    have ih := CLs.wf h5 hT
    subst h4
    rw [show e - f = k + ((e - (f + k + 1)) + 1) by omega]
    exact ex_wf (nm := fun _ => 0) k _ f [] _ (h2 _ _) (by show 0 + k ≤ 127; omega) (wf_end (Or.inr h3) ih)
  | (some c, v) :: r, f, e, ⟨g, ⟨k1, k2, h1, h2, h3, h4, h5, h6, h7⟩, h8⟩, hT => by
    have hle := CLs.le h8
    have ih := CLs.wf h8 hT
    subst h7
    rw [show e - f = k1 + ((k2 + ((e - (f + k1 + 1 + k2 + 1)) + 1)) + 1) by omega]
    refine ex_wf (nm := fun _ => 0) k1 _ f [] _ (h3 _ _) (by show 0 + k1 ≤ 127; omega) (wf_end (Or.inl h4) ?_)
    exact ex_wf (nm := fun _ => 0) k2 _ _ [] _ (h5 _ _) (by show 0 + k2 ≤ 127; omega) (wf_end (Or.inr h6) ih)
theorem rl_asks {cs nm : Nat → Int32} {k i : Nat} {x : Int32} {r : List Int32} {ct : Bool} (h : cs i = -63) : rlC cs nm (k + 1) i (x :: r) ct = rlC cs nm k (i + 1) r (decide (¬ x = 0)) := by
  rw [rl_op (by rw [h]; decide), if_neg (by rw [h]; decide), if_neg (by rw [h]; decide), if_pos h]
theorem rl_ends {cs nm : Nat → Int32} {k i : Nat} {x : Int32} {r : List Int32} {ct : Bool} (h : cs i = -59) : rlC cs nm (k + 1) i (x :: r) ct = (if ct = true then x else rlC cs nm k (i + 1) r true) := by
  rw [rl_op (by rw [h]; decide), if_neg (by rw [h]; decide), if_neg (by rw [h]; decide), if_neg (by rw [h]; decide), if_pos h]
theorem CLs.rl {cs nm : Nat → Int32} : ∀ {lw : Lw} {f e : Nat}, CLs cs f lw e → rlC cs nm (e - f) f [] true = evL lw nm
  | [], f, e, h => by
    have h' : f = e := h
    subst h'
    rw [Nat.sub_self]
    rfl
  | (none, v) :: r, f, e, ⟨g, ⟨k, h1, h2, h3, h4⟩, h5⟩ => by
    have hle := CLs.le h5
    subst h4
    rw [show e - f = k + ((e - (f + k + 1)) + 1) by omega, ex_rl k _ f [] _ (h2 nm []), rl_ends h3, if_pos rfl]
    rfl
  | (some c, v) :: r, f, e, ⟨g, ⟨k1, k2, h1, h2, h3, h4, h5, h6, h7⟩, h8⟩ => by
    have hle := CLs.le h8
    have ih := CLs.rl (nm := nm) h8
    subst h7
    rw [show e - f = k1 + ((k2 + ((e - (f + k1 + 1 + k2 + 1)) + 1)) + 1) by omega, ex_rl k1 _ f [] _ (h3 nm []), rl_asks h4, ex_rl k2 _ _ [] _ (h5 nm []), rl_ends h6]
    by_cases hc : c nm = 0
    · rw [if_neg (by rw [decide_eq_true_eq]; exact fun h => h hc), ih]
      exact (if_pos hc).symm
    · rw [if_pos (by rw [decide_eq_true_eq]; exact hc)]
      exact (if_neg hc).symm
