/-! THE WORLD OF FIXED THINGS. A layout says what the cells are; Sg says what they hold. WS: the machine at an instruction, over such a world. CT: a method's contract over it. -/
abbrev Sg : Type := (Nat → Nat → Int32) × (Nat → Nat → Int64) × (Nat → Nat → Value)
abbrev FK : Type := Option (Option Nat)
abbrev LK : Type := (Nat × List FK) ⊕ ((Nat × Nat) ⊕ (Nat × Nat × Nat))
abbrev Vt : Type := va_G × (Nat → ClassId) × (Nat → Nat) × (Nat → Nat)
abbrev Xt : Type := Program × Launch × Env × Room × State × MethodId × Array Value × List Frame × Method × Code × (Nat → Prop) × (State → Prop)
abbrev rf (V : Vt) (k : Nat) : Value := .ref (V.2.2.1 k)
def fk_v (ad : Nat → Nat) (I : Nat → Int32) (T : Nat → Value) (k : Nat) : FK → Value
  | none => .int (I k)
  | some none => T k
  | some (some r) => .ref (ad r)
def fk_l (ad : Nat → Nat) (I : Nat → Int32) (T : Nat → Value) : Nat → List FK → List Value
  | _, [] => []
  | k, f :: fs => fk_v ad I T k f :: fk_l ad I T (k + 1) fs
theorem fk_get (ad : Nat → Nat) (I : Nat → Int32) (T : Nat → Value) : ∀ (fs : List FK) (b k : Nat), (fk_l ad I T b fs)[k]? = (fs[k]?).map (fk_v ad I T (b + k))
  | [], b, k => by simp [fk_l]
  | f :: fs, b, 0 => by simp [fk_l]
  | f :: fs, b, k + 1 => by
    have h := fk_get ad I T fs (b + 1) k
    rw [show b + 1 + k = b + (k + 1) by omega] at h
    simpa [fk_l] using h
theorem fk_len (ad : Nat → Nat) (I : Nat → Int32) (T : Nat → Value) : ∀ (fs : List FK) (b : Nat), (fk_l ad I T b fs).length = fs.length
  | [], b => rfl
  | f :: fs, b => by simp [fk_l, fk_len ad I T fs (b + 1)]
theorem fk_setI {ad : Nat → Nat} {I : Nat → Int32} {T : Nat → Value} {fs : List FK} {k : Nat} {v : Int32} (h : fs[k]? = some none) : (fk_l ad I T 0 fs).set k (.int v) = fk_l ad (upd I k v) T 0 fs := by
  have hk : k < fs.length := (List.getElem?_eq_some_iff.mp h).1
  apply List.ext_getElem?
  intro j
  rw [List.getElem?_set, fk_len, fk_get, fk_get]
  by_cases hj : k = j
  · subst hj
    rw [if_pos rfl, if_pos hk, h]
    simp [fk_v, upd]
  · rw [if_neg hj]
    cases hf : fs[j]? with
    | none => rfl
    | some f =>
      cases f with
      | none => simp [fk_v, upd, Ne.symm hj]
      | some g => cases g <;> rfl
theorem fk_setT {ad : Nat → Nat} {I : Nat → Int32} {T : Nat → Value} {fs : List FK} {k : Nat} {v : Value} (h : fs[k]? = some (some none)) : (fk_l ad I T 0 fs).set k v = fk_l ad I (updV T k v) 0 fs := by
  have hk : k < fs.length := (List.getElem?_eq_some_iff.mp h).1
  apply List.ext_getElem?
  intro j
  rw [List.getElem?_set, fk_len, fk_get, fk_get]
  by_cases hj : k = j
  · subst hj
    rw [if_pos rfl, if_pos hk, h]
    simp [fk_v, updV]
  · rw [if_neg hj]
    cases hf : fs[j]? with
    | none => rfl
    | some f =>
      cases f with
      | none => rfl
      | some g =>
        cases g with
        | none => simp [fk_v, updV, Ne.symm hj]
        | some r => rfl
def lk_e (ca : Nat → ClassId) (ad : Nat → Nat) (k : LK) (I : Nat → Int32) (L : Nat → Int64) (T : Nat → Value) : va_E := match k with
  | .inl (ci, fs) => .inr (ci, fk_l ad I T 0 fs)
  | .inr (.inl (ti, n)) => if ti = 1 then .inl (ca 1, n, .inr (.inl L)) else .inl (ca ti, n, .inl I)
  | .inr (.inr (ti, b, n)) => .inl (ca ti, n, .inr (.inr (.inr (.inr (fun j => if j < n then some (ad (b + j)) else none)))))
def wl (V : Vt) (lay : List LK) (σ : Sg) : va_W := (List.range lay.length).map fun i => (V.2.2.1 i, lk_e V.2.1 V.2.2.1 (lay.getD i (.inl (0, []))) (σ.1 i) (σ.2.1 i) (σ.2.2 i))
theorem wl_at {V : Vt} {lay : List LK} {σ : Sg} {i : Nat} {k : LK} (h : lay[i]? = some k) : (wl V lay σ)[i]? = some (V.2.2.1 i, lk_e V.2.1 V.2.2.1 k (σ.1 i) (σ.2.1 i) (σ.2.2 i)) := by
  have hk : i < lay.length := (List.getElem?_eq_some_iff.mp h).1
  simp [wl, List.getElem?_range hk, List.getD, h]
theorem wl_set {V : Vt} {lay : List LK} {σ σ' : Sg} {i : Nat} {k : LK} {e : va_E} (h : lay[i]? = some k) (he : e = lk_e V.2.1 V.2.2.1 k (σ'.1 i) (σ'.2.1 i) (σ'.2.2 i)) (ho : ∀ j, j ≠ i → σ'.1 j = σ.1 j ∧ σ'.2.1 j = σ.2.1 j ∧ σ'.2.2 j = σ.2.2 j) : (wl V lay σ).set i (V.2.2.1 i, e) = wl V lay σ' := by
  have hk : i < lay.length := (List.getElem?_eq_some_iff.mp h).1
  have hlen : (wl V lay σ).length = lay.length := by simp [wl]
  apply List.ext_getElem?
  intro j
  rw [List.getElem?_set, hlen]
  by_cases hj : i = j
  · subst hj
    rw [if_pos rfl, if_pos hk, wl_at h, he]
  · rw [if_neg hj]
    obtain ⟨h1, h2, h3⟩ := ho j (Ne.symm hj)
    simp only [wl, List.getElem?_map]
    cases hr : (List.range lay.length)[j]? with
    | none => rfl
    | some q =>
      have hq : q = j := by
        have := List.getElem?_eq_some_iff.mp hr
        obtain ⟨_, h5⟩ := this
        simpa using h5.symm
      subst hq
      simp [h1, h2, h3]
/-- the world with one int, one long, one reference otherwise -/
def stI (σ : Sg) (o k : Nat) (v : Int32) : Sg := (va_up σ.1 o (upd (σ.1 o) k v), σ.2)
def stL (σ : Sg) (o k : Nat) (v : Int64) : Sg := (σ.1, va_up σ.2.1 o (vp_updL (σ.2.1 o) k v), σ.2.2)
def stT (σ : Sg) (o k : Nat) (v : Value) : Sg := (σ.1, σ.2.1, va_up σ.2.2 o (updV (σ.2.2 o) k v))
def stR (σ : Sg) (o : Nat) (f : Nat → Int32) : Sg := (va_up σ.1 o f, σ.2)
def stRL (σ : Sg) (o : Nat) (f : Nat → Int64) : Sg := (σ.1, va_up σ.2.1 o f, σ.2.2)
def tysV (V : Vt) : List (ClassId × FieldType) := [(V.2.1 0, .int), (V.2.1 1, .long), (V.2.1 2, .boolean), (V.2.1 3, .object "ToadWall$Shelf"), (V.2.1 4, .object "ToadWall$Thinker")]
def rmD (d : Nat) : Room := { frames := d, cells := 0, slots := 0, locals := 64 * d }
def TBg : List Cond := lw_tbl.filter goodWord
theorem tb_in {w : Cond} (h : w ∈ lw_tbl) (hg : goodWord w = true) : w ∈ TBg := List.mem_filter.mpr ⟨h, hg⟩
theorem tb_at (i : Nat) {w : Cond} (h : tables_1[i]? = some w) (hg : goodWord w = true) : w ∈ TBg := tb_in (List.mem_append_right _ (List.mem_of_getElem? h)) hg
theorem tb_sel (i n : Nat) {y : MethodName} (h : lw_privs[i]? = some (y, n)) : Cond.selects y.cls y y ∈ TBg := tb_in (List.mem_append_left _ (List.mem_map.mpr ⟨(y, n), List.mem_of_getElem? h, rfl⟩)) rfl
theorem tb_good {w : Cond} (h : w ∈ TBg) : GoodIn TBg (w :: TBg) := by
  intro w' hw
  have h2 : w' ∈ TBg := by
    rcases List.mem_cons.mp hw with rfl | h3
    · exact h
    · exact h3
  exact ⟨h2, good_of_word (List.mem_filter.mp h2).2⟩
/-- the static rows: which, how long, what they hold -/
abbrev Zt : Type := String × String × Nat × (Nat → Int32)

def zt_list : List Zt := [("ToadWall$Quarry", "MOST_OF", 8, fun j => ([9, 15, 9, 1, 1, 15, 9, 99] : List Int32).getD j 0), ("ToadWall$Law", "KEY_BITS", 6, fun j => ([15, 240, 3840, 61440, 983040, 133169152] : List Int32).getD j 0), ("ToadWall$Bodies", "OWN", 32, fun j => ([1, 10, 11, 2, 20, 0, 0, 0, 0, 30, 0, 0, 0, 41, 40, 0, 0, 0, 50, 0, 0, 0, 0, 60, 70, 0, 0, 0, 0, 80, 0, 81] : List Int32).getD j 0), ("ToadWall$Bodies", "ABOVE", 8, fun j => ([-1, 0, 0, 2, 1, 3, 0, 4] : List Int32).getD j 0)]
def Zst (V : Vt) (A : Nat → Prop) (U : State) (H : Heap) : Prop := ∀ (k : Nat) (q : Zt), zt_list[k]? = some q → va_Z q.1 q.2.1 "[I" (.ref (V.2.2.2 k)) A U H ∧ va_T .int (V.2.2.2 k) q.2.2.1 (fun j => .int (q.2.2.2 j)) A U H
theorem Zst.moved {V : Vt} {A : Nat → Prop} {u U : State} {H : Heap} (hvm : u.vm.Alike U.vm) (h : Zst V A u H) : Zst V A U H := fun k q hq => ⟨(h k q hq).1.moved hvm, (h k q hq).2.moved hvm⟩
theorem Zst.kept {V : Vt} {A : Nat → Prop} {U : State} {H H1 : Heap} (h : Zst V A U H) (hq : ∀ a : Nat, a < H.size → ¬ A a → H1[a]? = H[a]?) : Zst V A U H1 := fun k q hk => ⟨(h k q hk).1.kept hq, (h k q hk).2.kept hq⟩
theorem Zst.narrow {V : Vt} {A B : Nat → Prop} {U : State} {H : Heap} (h : Zst V A U H) (hAB : ∀ q, B q → A q) : Zst V B U H := fun k q hk => ⟨(h k q hk).1.narrow hAB, (h k q hk).2.narrow hAB⟩
/-- the private method of the nest's host that its mates call -/
def nw_list : List (String × Nat) := [(RX8, 13), (RX7, 50), (RX0, 32), (RX3, 34), (RX1, 25)]
def Nst (U : State) : Prop := ∀ q ∈ nw_list, va_Nw (.methodLinkNest q.1 q.2 yX10_within "ToadWall") U
theorem Nst.warm {s U : State} (hW : s.WarmedH U.vm) (h : Nst s) : Nst U := fun q hq => va_Nw.warmM hW (h q hq)
theorem Nst.same {u U : State} (e : u.vm = U.vm) (h : Nst u) : Nst U := fun q hq => va_Nw.same rfl e (h q hq)
/-- a method: its name, bytes, locals, what it returns -/
abbrev Mi : Type := MethodName × ByteArray × Nat × Option FieldType
def Pre9 (lay : List LK) (V : Vt) (av : List Value) (σ : Sg) (sz : Nat) : Array Value → State → Prop := va_Pc av (fun U => U.heap.size = sz ∧ va_P V.1 vwCl (wl V lay σ) U.heap ∧ va_K V.1 vwCl (tysV V) U ∧ va_D (fun _ => True) (wl V lay σ) ∧ Zst V (va_A (wl V lay σ) sz) U U.heap ∧ Nst U)
def Post9 (lay : List LK) (V : Vt) (A : Nat → Prop) (post : Option Value → Sg → Prop) : Array Value → State → Outcome → State → Prop := fun _ st oc t => (∃ (r : Option Value) (σ' : Sg), oc = .returned r ∧ post r σ' ∧ va_P V.1 vwCl (wl V lay σ') t.heap ∧ va_D A (wl V lay σ')) ∧ va_F A st t
/-- THE CONTRACT of a method over a world: from σ with the arguments av it returns, and post holds of its answer and the world behind it; d: how deep it calls -/
def CT (lay : List LK) (V : Vt) (M : Mi) (d : Nat) (av : List Value) (σ : Sg) (post : Option Value → Sg → Prop) : Prop := ∀ (l : Launch) (sz : Nat), Met l M.1 (Cond.code M.1 M.2.1 M.2.2.1 M.2.2.2 :: TBg) (rmD d) (Pre9 lay V av σ sz) (Post9 lay V (va_A (wl V lay σ) sz) post) 0 0 (va_A (wl V lay σ) sz)
/-- the machine at an instruction, over a world -/
def WS (lay : List LK) (V : Vt) (nL : Nat) (X : Xt) (σ : Sg) (pc : Nat) (lo : List (Nat × Value)) (st : List Value) : Prop := match X with
  | (p, l, e, R, s, m, args, below, meth, c, A, Q) => ∀ (H : Heap) (locs : List Loc) (ls : Array Slot), va_P V.1 vwCl (wl V lay σ) H → va_D A (wl V lay σ) → va_S A s.heap H locs → lv_has ls nL lo → W p l e R s m args below meth c H locs 0 0 Q (F0 m pc ls st)
/-- what holds in a method's body all along -/
def Ok (V : Vt) (own : String) (cc : ByteArray) (nL d : Nat) (X : Xt) : Prop := match X with
  | (p, _, _, R, s, m, args, _, meth, c, A, _) => p.tables.exec = Jvm.exec ∧ c.code = cc ∧ c.maxLocals = nL ∧ s.vm.findClass own = some m.cls ∧ (∀ w ∈ TBg, w.before args s = true) ∧ va_K V.1 vwCl (tysV V) s ∧ (∀ q, s.heap.size ≤ q → A q) ∧ R = rmD d ∧ Zst V A s s.heap ∧ Nst s ∧ meth.locks = false
/-- the body's end is the contract's -/
def En (lay : List LK) (V : Vt) (ret : Option FieldType) (post : Option Value → Sg → Prop) (X : Xt) : Prop := match X with
  | (_, _, _, _, s, _, args, below, meth, _, A, Q) => meth.sig.returnType = ret ∧ Q = MQ below (Post9 lay V A post) args s 0 0 A
/-- answers by their kind -/
def Ri (P : Int32 → Sg → Prop) : Option Value → Sg → Prop := fun r σ => ∃ v, r = some (.int v) ∧ P v σ
def Rl (P : Int64 → Sg → Prop) : Option Value → Sg → Prop := fun r σ => ∃ v, r = some (.long v) ∧ P v σ
def Rr (V : Vt) (P : Nat → Sg → Prop) : Option Value → Sg → Prop := fun r σ => ∃ k, r = some (rf V k) ∧ P k σ
def Rv (P : Sg → Prop) : Option Value → Sg → Prop := fun r σ => r = none ∧ P σ
theorem CT.of {lay : List LK} {V : Vt} {M : Mi} {d : Nat} {av : List Value} {σ : Sg} {post : Option Value → Sg → Prop} {own : String} (ho : M.1.cls = own) (hy : plainName M.1.cls = true) (hn : (lg_sl av).length ≤ M.2.2.1) (h : ∀ X : Xt, Ok V own M.2.1 M.2.2.1 d X → En lay V M.2.2.2 post X → WS lay V M.2.2.1 X σ 0 (lv_args 0 av) []) : CT lay V M d av σ post := by
  intro l sz
  refine Met.ofW (cc := M.2.1) (maxL := M.2.2.1) (ret := M.2.2.2) hy rfl ?_
  intro p e s m args below meth c s₁ B hml hv
  obtain ⟨rfl, hsz, hP, hK, hD0, hZ, hN⟩ := hv
  subst hsz
  have hD := hD0.self (sz := s.heap.size)
  have hown : s.vm.findClass own = some m.cls := by rw [← ho]; exact findClass_of_methodNamed B.named
  have hts := atoms_spec (ws := Cond.code M.1 M.2.1 M.2.2.1 M.2.2.2 :: TBg) B.pre
  have hl := lv_entry av (n := M.2.2.1) hn
  rw [lg_entry_eq]
  exact h (p, l, e, rmD d, s, m, av.toArray, below, meth, c, va_A (wl V lay σ) s.heap.size, MQ below (Post9 lay V (va_A (wl V lay σ) s.heap.size) post) av.toArray s 0 0 (va_A (wl V lay σ) s.heap.size)) ⟨B.exec, B.bytes, hml, hown, fun w hw => hts w (List.mem_cons_of_mem _ hw), hK, fun q hq => Or.inr hq, rfl, hZ, hN, B.notSynchronized⟩ ⟨B.returns, rfl⟩ s.heap [] _ hP hD va_S.rf hl
theorem CT.weaken {lay : List LK} {V : Vt} {M : Mi} {d : Nat} {av : List Value} {σ : Sg} {post post' : Option Value → Sg → Prop} (h : CT lay V M d av σ post) (hp : ∀ r σ', post r σ' → post' r σ') : CT lay V M d av σ post' := by
  intro l sz p e ha hc hk s m args below h1 h2 h3 h4
  obtain ⟨t, o, a1, a2, a3, ⟨⟨⟨r, σ', b1, b2, b3⟩, b4⟩, b5⟩⟩ := h l sz p e ha hc hk s m args below h1 h2 h3 h4
  exact ⟨t, o, a1, a2, a3, ⟨⟨⟨r, σ', b1, hp r σ' b2, b3⟩, b4⟩, b5⟩⟩
section RULES
variable {lay : List LK} {V : Vt} {nL : Nat} {X : Xt} {σ : Sg} {pc d : Nat} {lo : List (Nat × Value)} {st : List Value} {own : String} {cc : ByteArray}
/-- ends -/
theorem WS.iret {post : Option Value → Sg → Prop} {v : Int32} (hx : Ok V own cc nL d X) (he : En lay V (some .int) post X) (hd : decode cc pc = .ok (.ireturn, 1)) (hp : post (some (.int v)) σ) : WS lay V nL X σ pc lo [.int v] := by
  obtain ⟨p, l, e, R, s, m, args, below, meth, c, A, Q⟩ := X
  intro H locs ls hP hD hS hl
  obtain ⟨hr, rfl⟩ := he
  have hlk : meth.locks = false := hx.2.2.2.2.2.2.2.2.2.2
  exact W.iret hx.1 hx.2.1 hr (fun t ht hW => ⟨⟨_, σ, rfl, hp, by rw [ht]; exact hP, hD⟩, hS.F ht⟩) hS.2.2 hd
theorem WS.zret {post : Option Value → Sg → Prop} {v : Int32} (hx : Ok V own cc nL d X) (he : En lay V (some .boolean) post X) (hd : decode cc pc = .ok (.ireturn, 1)) (hv : v = 0 ∨ v = 1) (hp : post (some (.int v)) σ) : WS lay V nL X σ pc lo [.int v] := by
  obtain ⟨p, l, e, R, s, m, args, below, meth, c, A, Q⟩ := X
  intro H locs ls hP hD hS hl
  obtain ⟨hr, rfl⟩ := he
  have hlk : meth.locks = false := hx.2.2.2.2.2.2.2.2.2.2
  exact W.zret hx.1 hx.2.1 hr (by rcases hv with rfl | rfl <;> rfl) (fun t ht hW => ⟨⟨_, σ, rfl, hp, by rw [ht]; exact hP, hD⟩, hS.F ht⟩) hS.2.2 hd
theorem WS.lret {post : Option Value → Sg → Prop} {v : Int64} (hx : Ok V own cc nL d X) (he : En lay V (some .long) post X) (hd : decode cc pc = .ok (.lreturn, 1)) (hp : post (some (.long v)) σ) : WS lay V nL X σ pc lo [.long v] := by
  obtain ⟨p, l, e, R, s, m, args, below, meth, c, A, Q⟩ := X
  intro H locs ls hP hD hS hl
  obtain ⟨hr, rfl⟩ := he
  have hlk : meth.locks = false := hx.2.2.2.2.2.2.2.2.2.2
  exact W.lret hx.1 hx.2.1 hr (fun t ht hW => ⟨⟨_, σ, rfl, hp, by rw [ht]; exact hP, hD⟩, hS.F ht⟩) hS.2.2 hd
theorem WS.vret {post : Option Value → Sg → Prop} (hx : Ok V own cc nL d X) (he : En lay V none post X) (hd : decode cc pc = .ok (.return_, 1)) (hp : post none σ) : WS lay V nL X σ pc lo [] := by
  obtain ⟨p, l, e, R, s, m, args, below, meth, c, A, Q⟩ := X
  intro H locs ls hP hD hS hl
  obtain ⟨hr, rfl⟩ := he
  have hlk : meth.locks = false := hx.2.2.2.2.2.2.2.2.2.2
  exact W.vret hx.1 hx.2.1 hr (fun t ht hW => ⟨⟨_, σ, rfl, hp, by rw [ht]; exact hP, hD⟩, hS.F ht⟩) hS.2.2 hd
theorem WS.aret {post : Option Value → Sg → Prop} {a : Nat} {ty : FieldType} (hx : Ok V own cc nL d X) (he : En lay V (some (.array ty)) post X) (hd : decode cc pc = .ok (.areturn, 1)) (hp : post (some (.ref a)) σ) : WS lay V nL X σ pc lo [.ref a] := by
  obtain ⟨p, l, e, R, s, m, args, below, meth, c, A, Q⟩ := X
  intro H locs ls hP hD hS hl
  obtain ⟨hr, rfl⟩ := he
  have hlk : meth.locks = false := hx.2.2.2.2.2.2.2.2.2.2
  exact W.aret hx.1 hx.2.1 hr (Or.inr ⟨_, rfl⟩) (Or.inr ⟨_, rfl⟩) (fun t ht hW => ⟨⟨_, σ, rfl, hp, by rw [ht]; exact hP, hD⟩, hS.F ht⟩) hS.2.2 hd
/-- behind the pc another word for the same -/
theorem WS.as {σ' : Sg} {lo' : List (Nat × Value)} {st' : List Value} (h1 : σ = σ') (h2 : lo = lo') (h3 : st = st') (k : WS lay V nL X σ' pc lo' st') : WS lay V nL X σ pc lo st := by
  subst h1; subst h2; subst h3; exact k
theorem WS.los {lo' : List (Nat × Value)} (ks : List Nat) (hl : lv_pick lo ks = lo') (k : WS lay V nL X σ pc lo' st) : WS lay V nL X σ pc lo st := by
  obtain ⟨p, l, e, R, s, m, args, below, meth, c, A, Q⟩ := X
  intro H locs ls hP hD hS h
  exact k H locs ls hP hD hS (lv_sub h ks hl)

theorem WS.iconst {n : Int} {v : Int32} (hx : Ok V own cc nL d X) (hd : decode cc pc = .ok (.iconst n, 1)) (hv : Int32.ofInt n = v) (k : WS lay V nL X σ (pc + 1) lo (.int v :: st)) : WS lay V nL X σ pc lo (st) := by
  obtain ⟨p, l, e, R, s, m, args, below, meth, c, A, Q⟩ := X
  intro H locs ls hP hD hS hl
  exact lv_iconst hx.1 hx.2.1 hd hv (k H locs ls hP hD hS hl)
theorem WS.bipush {n : Int} {v : Int32} (hx : Ok V own cc nL d X) (hd : decode cc pc = .ok (.bipush n, 2)) (hv : (Int8.ofInt n).toInt32 = v) (k : WS lay V nL X σ (pc + 2) lo (.int v :: st)) : WS lay V nL X σ pc lo (st) := by
  obtain ⟨p, l, e, R, s, m, args, below, meth, c, A, Q⟩ := X
  intro H locs ls hP hD hS hl
  exact lv_bipush hx.1 hx.2.1 hd hv (k H locs ls hP hD hS hl)
theorem WS.sipush {n : Int} {v : Int32} (hx : Ok V own cc nL d X) (hd : decode cc pc = .ok (.sipush n, 3)) (hv : (Int16.ofInt n).toInt32 = v) (k : WS lay V nL X σ (pc + 3) lo (.int v :: st)) : WS lay V nL X σ pc lo (st) := by
  obtain ⟨p, l, e, R, s, m, args, below, meth, c, A, Q⟩ := X
  intro H locs ls hP hD hS hl
  exact lv_sipush hx.1 hx.2.1 hd hv (k H locs ls hP hD hS hl)
theorem WS.lconst {n : Fin 2} {v : Int64} (hx : Ok V own cc nL d X) (hd : decode cc pc = .ok (.lconst n, 1)) (hv : Int64.ofNat (n : Nat) = v) (k : WS lay V nL X σ (pc + 1) lo (.long v :: st)) : WS lay V nL X σ pc lo (st) := by
  obtain ⟨p, l, e, R, s, m, args, below, meth, c, A, Q⟩ := X
  intro H locs ls hP hD hS hl
  exact lv_lconst hx.1 hx.2.1 hd hv (k H locs ls hP hD hS hl)
theorem WS.iadd {x y : Int32} (hx : Ok V own cc nL d X) (hd : decode cc pc = .ok (.iadd, 1)) (k : WS lay V nL X σ (pc + 1) lo (.int (x + y) :: st)) : WS lay V nL X σ pc lo (.int y :: .int x :: st) := by
  obtain ⟨p, l, e, R, s, m, args, below, meth, c, A, Q⟩ := X
  intro H locs ls hP hD hS hl
  exact lv_iadd hx.1 hx.2.1 hd (k H locs ls hP hD hS hl)
theorem WS.isub {x y : Int32} (hx : Ok V own cc nL d X) (hd : decode cc pc = .ok (.isub, 1)) (k : WS lay V nL X σ (pc + 1) lo (.int (x - y) :: st)) : WS lay V nL X σ pc lo (.int y :: .int x :: st) := by
  obtain ⟨p, l, e, R, s, m, args, below, meth, c, A, Q⟩ := X
  intro H locs ls hP hD hS hl
  exact lv_isub hx.1 hx.2.1 hd (k H locs ls hP hD hS hl)
theorem WS.imul {x y : Int32} (hx : Ok V own cc nL d X) (hd : decode cc pc = .ok (.imul, 1)) (k : WS lay V nL X σ (pc + 1) lo (.int (x * y) :: st)) : WS lay V nL X σ pc lo (.int y :: .int x :: st) := by
  obtain ⟨p, l, e, R, s, m, args, below, meth, c, A, Q⟩ := X
  intro H locs ls hP hD hS hl
  exact lv_imul hx.1 hx.2.1 hd (k H locs ls hP hD hS hl)
theorem WS.iand {x y : Int32} (hx : Ok V own cc nL d X) (hd : decode cc pc = .ok (.iand, 1)) (k : WS lay V nL X σ (pc + 1) lo (.int (x &&& y) :: st)) : WS lay V nL X σ pc lo (.int y :: .int x :: st) := by
  obtain ⟨p, l, e, R, s, m, args, below, meth, c, A, Q⟩ := X
  intro H locs ls hP hD hS hl
  exact lv_iand hx.1 hx.2.1 hd (k H locs ls hP hD hS hl)
theorem WS.ior {x y : Int32} (hx : Ok V own cc nL d X) (hd : decode cc pc = .ok (.ior, 1)) (k : WS lay V nL X σ (pc + 1) lo (.int (x ||| y) :: st)) : WS lay V nL X σ pc lo (.int y :: .int x :: st) := by
  obtain ⟨p, l, e, R, s, m, args, below, meth, c, A, Q⟩ := X
  intro H locs ls hP hD hS hl
  exact lv_ior hx.1 hx.2.1 hd (k H locs ls hP hD hS hl)
theorem WS.ixor {x y : Int32} (hx : Ok V own cc nL d X) (hd : decode cc pc = .ok (.ixor, 1)) (k : WS lay V nL X σ (pc + 1) lo (.int (x ^^^ y) :: st)) : WS lay V nL X σ pc lo (.int y :: .int x :: st) := by
  obtain ⟨p, l, e, R, s, m, args, below, meth, c, A, Q⟩ := X
  intro H locs ls hP hD hS hl
  exact lv_ixor hx.1 hx.2.1 hd (k H locs ls hP hD hS hl)
theorem WS.ishl {x y : Int32} (hx : Ok V own cc nL d X) (hd : decode cc pc = .ok (.ishl, 1)) (k : WS lay V nL X σ (pc + 1) lo (.int (x <<< (y &&& 31)) :: st)) : WS lay V nL X σ pc lo (.int y :: .int x :: st) := by
  obtain ⟨p, l, e, R, s, m, args, below, meth, c, A, Q⟩ := X
  intro H locs ls hP hD hS hl
  exact lv_ishl hx.1 hx.2.1 hd (k H locs ls hP hD hS hl)
theorem WS.ishr {x y : Int32} (hx : Ok V own cc nL d X) (hd : decode cc pc = .ok (.ishr, 1)) (k : WS lay V nL X σ (pc + 1) lo (.int (x >>> (y &&& 31)) :: st)) : WS lay V nL X σ pc lo (.int y :: .int x :: st) := by
  obtain ⟨p, l, e, R, s, m, args, below, meth, c, A, Q⟩ := X
  intro H locs ls hP hD hS hl
  exact lv_ishr hx.1 hx.2.1 hd (k H locs ls hP hD hS hl)
theorem WS.idiv {x y : Int32} (hx : Ok V own cc nL d X) (hd : decode cc pc = .ok (.idiv, 1)) (hne : ¬ y = 0) (k : WS lay V nL X σ (pc + 1) lo (.int (x / y) :: st)) : WS lay V nL X σ pc lo (.int y :: .int x :: st) := by
  obtain ⟨p, l, e, R, s, m, args, below, meth, c, A, Q⟩ := X
  intro H locs ls hP hD hS hl
  exact lv_idiv hx.1 hx.2.1 hd hne (k H locs ls hP hD hS hl)
theorem WS.irem {x y : Int32} (hx : Ok V own cc nL d X) (hd : decode cc pc = .ok (.irem, 1)) (hne : ¬ y = 0) (k : WS lay V nL X σ (pc + 1) lo (.int (x - x / y * y) :: st)) : WS lay V nL X σ pc lo (.int y :: .int x :: st) := by
  obtain ⟨p, l, e, R, s, m, args, below, meth, c, A, Q⟩ := X
  intro H locs ls hP hD hS hl
  exact lv_irem hx.1 hx.2.1 hd hne (k H locs ls hP hD hS hl)
theorem WS.ineg {x : Int32} (hx : Ok V own cc nL d X) (hd : decode cc pc = .ok (.ineg, 1)) (k : WS lay V nL X σ (pc + 1) lo (.int (-x) :: st)) : WS lay V nL X σ pc lo (.int x :: st) := by
  obtain ⟨p, l, e, R, s, m, args, below, meth, c, A, Q⟩ := X
  intro H locs ls hP hD hS hl
  exact lv_ineg hx.1 hx.2.1 hd (k H locs ls hP hD hS hl)
theorem WS.iushr {x y : Int32} (hx : Ok V own cc nL d X) (hd : decode cc pc = .ok (.iushr, 1)) (k : WS lay V nL X σ (pc + 1) lo (.int (x.toUInt32 >>> (y.toUInt32 &&& Int32.toUInt32 31)).toInt32 :: st)) : WS lay V nL X σ pc lo (.int y :: .int x :: st) := by
  obtain ⟨p, l, e, R, s, m, args, below, meth, c, A, Q⟩ := X
  intro H locs ls hP hD hS hl
  exact lv_iushr hx.1 hx.2.1 hd rfl (k H locs ls hP hD hS hl)
theorem WS.ladd {x y : Int64} (hx : Ok V own cc nL d X) (hd : decode cc pc = .ok (.ladd, 1)) (k : WS lay V nL X σ (pc + 1) lo (.long (x + y) :: st)) : WS lay V nL X σ pc lo (.long y :: .long x :: st) := by
  obtain ⟨p, l, e, R, s, m, args, below, meth, c, A, Q⟩ := X
  intro H locs ls hP hD hS hl
  exact lv_ladd hx.1 hx.2.1 hd (k H locs ls hP hD hS hl)
theorem WS.lsub {x y : Int64} (hx : Ok V own cc nL d X) (hd : decode cc pc = .ok (.lsub, 1)) (k : WS lay V nL X σ (pc + 1) lo (.long (x - y) :: st)) : WS lay V nL X σ pc lo (.long y :: .long x :: st) := by
  obtain ⟨p, l, e, R, s, m, args, below, meth, c, A, Q⟩ := X
  intro H locs ls hP hD hS hl
  exact lv_lsub hx.1 hx.2.1 hd (k H locs ls hP hD hS hl)
theorem WS.lmul {x y : Int64} (hx : Ok V own cc nL d X) (hd : decode cc pc = .ok (.lmul, 1)) (k : WS lay V nL X σ (pc + 1) lo (.long (x * y) :: st)) : WS lay V nL X σ pc lo (.long y :: .long x :: st) := by
  obtain ⟨p, l, e, R, s, m, args, below, meth, c, A, Q⟩ := X
  intro H locs ls hP hD hS hl
  exact lv_lmul hx.1 hx.2.1 hd (k H locs ls hP hD hS hl)
theorem WS.land {x y : Int64} (hx : Ok V own cc nL d X) (hd : decode cc pc = .ok (.land, 1)) (k : WS lay V nL X σ (pc + 1) lo (.long (x &&& y) :: st)) : WS lay V nL X σ pc lo (.long y :: .long x :: st) := by
  obtain ⟨p, l, e, R, s, m, args, below, meth, c, A, Q⟩ := X
  intro H locs ls hP hD hS hl
  exact lv_land hx.1 hx.2.1 hd (k H locs ls hP hD hS hl)
theorem WS.lor {x y : Int64} (hx : Ok V own cc nL d X) (hd : decode cc pc = .ok (.lor, 1)) (k : WS lay V nL X σ (pc + 1) lo (.long (x ||| y) :: st)) : WS lay V nL X σ pc lo (.long y :: .long x :: st) := by
  obtain ⟨p, l, e, R, s, m, args, below, meth, c, A, Q⟩ := X
  intro H locs ls hP hD hS hl
  exact lv_lor hx.1 hx.2.1 hd (k H locs ls hP hD hS hl)
theorem WS.ldiv {x y : Int64} (hx : Ok V own cc nL d X) (hd : decode cc pc = .ok (.ldiv, 1)) (hne : ¬ y = 0) (k : WS lay V nL X σ (pc + 1) lo (.long (x / y) :: st)) : WS lay V nL X σ pc lo (.long y :: .long x :: st) := by
  obtain ⟨p, l, e, R, s, m, args, below, meth, c, A, Q⟩ := X
  intro H locs ls hP hD hS hl
  exact lv_ldiv hx.1 hx.2.1 hd hne (k H locs ls hP hD hS hl)
theorem WS.lrem {x y : Int64} (hx : Ok V own cc nL d X) (hd : decode cc pc = .ok (.lrem, 1)) (hne : ¬ y = 0) (k : WS lay V nL X σ (pc + 1) lo (.long (x - x / y * y) :: st)) : WS lay V nL X σ pc lo (.long y :: .long x :: st) := by
  obtain ⟨p, l, e, R, s, m, args, below, meth, c, A, Q⟩ := X
  intro H locs ls hP hD hS hl
  exact lv_lrem hx.1 hx.2.1 hd hne (k H locs ls hP hD hS hl)
theorem WS.lshl {x : Int64} {y : Int32} (hx : Ok V own cc nL d X) (hd : decode cc pc = .ok (.lshl, 1)) (k : WS lay V nL X σ (pc + 1) lo (.long (x <<< (y.toInt64 &&& 63)) :: st)) : WS lay V nL X σ pc lo (.int y :: .long x :: st) := by
  obtain ⟨p, l, e, R, s, m, args, below, meth, c, A, Q⟩ := X
  intro H locs ls hP hD hS hl
  exact lv_lshl hx.1 hx.2.1 hd rfl (k H locs ls hP hD hS hl)
theorem WS.i2l {x : Int32} (hx : Ok V own cc nL d X) (hd : decode cc pc = .ok (.i2l, 1)) (k : WS lay V nL X σ (pc + 1) lo (.long x.toInt64 :: st)) : WS lay V nL X σ pc lo (.int x :: st) := by
  obtain ⟨p, l, e, R, s, m, args, below, meth, c, A, Q⟩ := X
  intro H locs ls hP hD hS hl
  exact lv_i2l hx.1 hx.2.1 hd rfl (k H locs ls hP hD hS hl)
theorem WS.l2i {x : Int64} (hx : Ok V own cc nL d X) (hd : decode cc pc = .ok (.l2i, 1)) (k : WS lay V nL X σ (pc + 1) lo (.int x.toInt32 :: st)) : WS lay V nL X σ pc lo (.long x :: st) := by
  obtain ⟨p, l, e, R, s, m, args, below, meth, c, A, Q⟩ := X
  intro H locs ls hP hD hS hl
  exact lv_l2i hx.1 hx.2.1 hd rfl (k H locs ls hP hD hS hl)
theorem WS.i2b {x : Int32} (hx : Ok V own cc nL d X) (hd : decode cc pc = .ok (.i2b, 1)) (k : WS lay V nL X σ (pc + 1) lo (.int x.toInt8.toInt32 :: st)) : WS lay V nL X σ pc lo (.int x :: st) := by
  obtain ⟨p, l, e, R, s, m, args, below, meth, c, A, Q⟩ := X
  intro H locs ls hP hD hS hl
  exact lv_i2b hx.1 hx.2.1 hd rfl (k H locs ls hP hD hS hl)
theorem WS.i2s {x : Int32} (hx : Ok V own cc nL d X) (hd : decode cc pc = .ok (.i2s, 1)) (k : WS lay V nL X σ (pc + 1) lo (.int x.toInt16.toInt32 :: st)) : WS lay V nL X σ pc lo (.int x :: st) := by
  obtain ⟨p, l, e, R, s, m, args, below, meth, c, A, Q⟩ := X
  intro H locs ls hP hD hS hl
  exact lv_i2s hx.1 hx.2.1 hd rfl (k H locs ls hP hD hS hl)
theorem WS.lcmp {x y : Int64} (hx : Ok V own cc nL d X) (hd : decode cc pc = .ok (.lcmp, 1)) (k : WS lay V nL X σ (pc + 1) lo (.int (lg_cmp x y) :: st)) : WS lay V nL X σ pc lo (.long y :: .long x :: st) := by
  obtain ⟨p, l, e, R, s, m, args, below, meth, c, A, Q⟩ := X
  intro H locs ls hP hD hS hl
  exact W.lcmp hx.1 hx.2.1 hd (k H locs ls hP hD hS hl)
theorem WS.pop {x : Value} (hx : Ok V own cc nL d X) (hd : decode cc pc = .ok (.pop, 1)) (hc : x.category = 1) (k : WS lay V nL X σ (pc + 1) lo (st)) : WS lay V nL X σ pc lo (x :: st) := by
  obtain ⟨p, l, e, R, s, m, args, below, meth, c, A, Q⟩ := X
  intro H locs ls hP hD hS hl
  exact lv_pop hx.1 hx.2.1 hd hc (k H locs ls hP hD hS hl)
theorem WS.dup {x : Value} (hx : Ok V own cc nL d X) (hd : decode cc pc = .ok (.dup, 1)) (hc : x.category = 1) (k : WS lay V nL X σ (pc + 1) lo (x :: x :: st)) : WS lay V nL X σ pc lo (x :: st) := by
  obtain ⟨p, l, e, R, s, m, args, below, meth, c, A, Q⟩ := X
  intro H locs ls hP hD hS hl
  exact lv_dup hx.1 hx.2.1 hd hc (k H locs ls hP hD hS hl)
theorem WS.dup2 {x y : Value} (hx : Ok V own cc nL d X) (hd : decode cc pc = .ok (.dup2, 1)) (hc : x.category = 1) (hc2 : y.category = 1) (k : WS lay V nL X σ (pc + 1) lo (x :: y :: x :: y :: st)) : WS lay V nL X σ pc lo (x :: y :: st) := by
  obtain ⟨p, l, e, R, s, m, args, below, meth, c, A, Q⟩ := X
  intro H locs ls hP hD hS hl
  exact lv_dup2_11 hx.1 hx.2.1 hd hc hc2 (k H locs ls hP hD hS hl)
theorem WS.iload {i : Nat} {x : Int32} (hx : Ok V own cc nL d X) (hd : decode cc pc = .ok (.iload i, 2)) (j : Nat) (hj : lo[j]? = some (i, .int x)) (k : WS lay V nL X σ (pc + 2) lo (.int x :: st)) : WS lay V nL X σ pc lo (st) := by
  obtain ⟨p, l, e, R, s, m, args, below, meth, c, A, Q⟩ := X
  intro H locs ls hP hD hS hl
  exact lv_iload hx.1 hx.2.1 hd (lv_at hl j hj) (k H locs ls hP hD hS hl)
theorem WS.iload_n {k : Fin 4} {i : Nat} {x : Int32} (hx : Ok V own cc nL d X) (hd : decode cc pc = .ok (.iload_n k, 1)) (hi : (k : Nat) = i) (j : Nat) (hj : lo[j]? = some (i, .int x)) (k : WS lay V nL X σ (pc + 1) lo (.int x :: st)) : WS lay V nL X σ pc lo (st) := by
  obtain ⟨p, l, e, R, s, m, args, below, meth, c, A, Q⟩ := X
  intro H locs ls hP hD hS hl
  exact lv_iload_n hx.1 hx.2.1 hd hi (lv_at hl j hj) (k H locs ls hP hD hS hl)
theorem WS.lload {i : Nat} {x : Int64} (hx : Ok V own cc nL d X) (hd : decode cc pc = .ok (.lload i, 2)) (j : Nat) (hj : lo[j]? = some (i, .long x)) (k : WS lay V nL X σ (pc + 2) lo (.long x :: st)) : WS lay V nL X σ pc lo (st) := by
  obtain ⟨p, l, e, R, s, m, args, below, meth, c, A, Q⟩ := X
  intro H locs ls hP hD hS hl
  exact lv_lload hx.1 hx.2.1 hd (lv_at hl j hj) (k H locs ls hP hD hS hl)
theorem WS.lload_n {k : Fin 4} {i : Nat} {x : Int64} (hx : Ok V own cc nL d X) (hd : decode cc pc = .ok (.lload_n k, 1)) (hi : (k : Nat) = i) (j : Nat) (hj : lo[j]? = some (i, .long x)) (k : WS lay V nL X σ (pc + 1) lo (.long x :: st)) : WS lay V nL X σ pc lo (st) := by
  obtain ⟨p, l, e, R, s, m, args, below, meth, c, A, Q⟩ := X
  intro H locs ls hP hD hS hl
  exact lv_lload_n hx.1 hx.2.1 hd hi (lv_at hl j hj) (k H locs ls hP hD hS hl)
theorem WS.aload {i : Nat} {x : Nat} (hx : Ok V own cc nL d X) (hd : decode cc pc = .ok (.aload i, 2)) (j : Nat) (hj : lo[j]? = some (i, .ref x)) (k : WS lay V nL X σ (pc + 2) lo (.ref x :: st)) : WS lay V nL X σ pc lo (st) := by
  obtain ⟨p, l, e, R, s, m, args, below, meth, c, A, Q⟩ := X
  intro H locs ls hP hD hS hl
  exact lv_aload hx.1 hx.2.1 hd (lv_at hl j hj) (k H locs ls hP hD hS hl)
theorem WS.aload_n {k : Fin 4} {i : Nat} {x : Nat} (hx : Ok V own cc nL d X) (hd : decode cc pc = .ok (.aload_n k, 1)) (hi : (k : Nat) = i) (j : Nat) (hj : lo[j]? = some (i, .ref x)) (k : WS lay V nL X σ (pc + 1) lo (.ref x :: st)) : WS lay V nL X σ pc lo (st) := by
  obtain ⟨p, l, e, R, s, m, args, below, meth, c, A, Q⟩ := X
  intro H locs ls hP hD hS hl
  exact lv_aload_n hx.1 hx.2.1 hd hi (lv_at hl j hj) (k H locs ls hP hD hS hl)
theorem WS.istore {i : Nat} {x : Int32} {lo' : List (Nat × Value)} (hx : Ok V own cc nL d X) (hd : decode cc pc = .ok (.istore i, 2)) (hn : i < nL) (hlo : (i, Value.int x) :: lo.filter (fun q => !(q.1 == i) && !(q.1 + 1 == i && q.2.category == 2)) = lo') (kk : WS lay V nL X σ (pc + 2) lo' st) : WS lay V nL X σ pc lo (.int x :: st) := by
  obtain ⟨p, l, e, R, s, m, args, below, meth, c, A, Q⟩ := X
  intro H locs ls hP hD hS hl
  exact lv_istore hx.1 hx.2.1 hd hl hn hlo (fun ls' hl' => kk H locs ls' hP hD hS hl')
theorem WS.istore_n {k : Fin 4} {i : Nat} {x : Int32} {lo' : List (Nat × Value)} (hx : Ok V own cc nL d X) (hd : decode cc pc = .ok (.istore_n k, 1)) (hi : (k : Nat) = i) (hn : i < nL) (hlo : (i, Value.int x) :: lo.filter (fun q => !(q.1 == i) && !(q.1 + 1 == i && q.2.category == 2)) = lo') (kk : WS lay V nL X σ (pc + 1) lo' st) : WS lay V nL X σ pc lo (.int x :: st) := by
  obtain ⟨p, l, e, R, s, m, args, below, meth, c, A, Q⟩ := X
  intro H locs ls hP hD hS hl
  exact lv_istore_n hx.1 hx.2.1 hd hi hl hn hlo (fun ls' hl' => kk H locs ls' hP hD hS hl')
theorem WS.lstore {i : Nat} {x : Int64} {lo' : List (Nat × Value)} (hx : Ok V own cc nL d X) (hd : decode cc pc = .ok (.lstore i, 2)) (hn : i + 1 < nL) (hlo : (i, Value.long x) :: lo.filter (fun q => !(q.1 == i) && (!(q.1 == i + 1) && !(q.1 + 1 == i && q.2.category == 2))) = lo') (kk : WS lay V nL X σ (pc + 2) lo' st) : WS lay V nL X σ pc lo (.long x :: st) := by
  obtain ⟨p, l, e, R, s, m, args, below, meth, c, A, Q⟩ := X
  intro H locs ls hP hD hS hl
  exact lv_lstore hx.1 hx.2.1 hd hl hn hlo (fun ls' hl' => kk H locs ls' hP hD hS hl')
theorem WS.lstore_n {k : Fin 4} {i : Nat} {x : Int64} {lo' : List (Nat × Value)} (hx : Ok V own cc nL d X) (hd : decode cc pc = .ok (.lstore_n k, 1)) (hi : (k : Nat) = i) (hn : i + 1 < nL) (hlo : (i, Value.long x) :: lo.filter (fun q => !(q.1 == i) && (!(q.1 == i + 1) && !(q.1 + 1 == i && q.2.category == 2))) = lo') (kk : WS lay V nL X σ (pc + 1) lo' st) : WS lay V nL X σ pc lo (.long x :: st) := by
  obtain ⟨p, l, e, R, s, m, args, below, meth, c, A, Q⟩ := X
  intro H locs ls hP hD hS hl
  exact lv_lstore_n hx.1 hx.2.1 hd hi hl hn hlo (fun ls' hl' => kk H locs ls' hP hD hS hl')
theorem WS.astore {i : Nat} {x : Nat} {lo' : List (Nat × Value)} (hx : Ok V own cc nL d X) (hd : decode cc pc = .ok (.astore i, 2)) (hn : i < nL) (hlo : (i, Value.ref x) :: lo.filter (fun q => !(q.1 == i) && !(q.1 + 1 == i && q.2.category == 2)) = lo') (kk : WS lay V nL X σ (pc + 2) lo' st) : WS lay V nL X σ pc lo (.ref x :: st) := by
  obtain ⟨p, l, e, R, s, m, args, below, meth, c, A, Q⟩ := X
  intro H locs ls hP hD hS hl
  exact lv_astore hx.1 hx.2.1 hd hl hn hlo (fun ls' hl' => kk H locs ls' hP hD hS hl')
theorem WS.astore_n {k : Fin 4} {i : Nat} {x : Nat} {lo' : List (Nat × Value)} (hx : Ok V own cc nL d X) (hd : decode cc pc = .ok (.astore_n k, 1)) (hi : (k : Nat) = i) (hn : i < nL) (hlo : (i, Value.ref x) :: lo.filter (fun q => !(q.1 == i) && !(q.1 + 1 == i && q.2.category == 2)) = lo') (kk : WS lay V nL X σ (pc + 1) lo' st) : WS lay V nL X σ pc lo (.ref x :: st) := by
  obtain ⟨p, l, e, R, s, m, args, below, meth, c, A, Q⟩ := X
  intro H locs ls hP hD hS hl
  exact lv_astore_n hx.1 hx.2.1 hd hi hl hn hlo (fun ls' hl' => kk H locs ls' hP hD hS hl')
theorem WS.iinc {i : Nat} {n : Int} {x v : Int32} {lo' : List (Nat × Value)} (hx : Ok V own cc nL d X) (hd : decode cc pc = .ok (.iinc i n, 3)) (j : Nat) (hj : lo[j]? = some (i, .int x)) (hv : x + Int32.ofInt n = v) (hn : i < nL) (hlo : (i, Value.int v) :: lo.filter (fun q => !(q.1 == i) && !(q.1 + 1 == i && q.2.category == 2)) = lo') (kk : WS lay V nL X σ (pc + 3) lo' st) : WS lay V nL X σ pc lo st := by
  obtain ⟨p, l, e, R, s, m, args, below, meth, c, A, Q⟩ := X
  intro H locs ls hP hD hS hl
  exact lv_iinc hx.1 hx.2.1 hd hl hj hv hn hlo (fun ls' hl' => kk H locs ls' hP hD hS hl')
theorem WS.goto {off : Int} {tgt : Nat} (hx : Ok V own cc nL d X) (hd : decode cc pc = .ok (.goto off, 3)) (ht : (pc : Int) + off = (tgt : Int)) (k : WS lay V nL X σ tgt lo st) : WS lay V nL X σ pc lo st := by
  obtain ⟨p, l, e, R, s, m, args, below, meth, c, A, Q⟩ := X
  intro H locs ls hP hD hS hl
  exact lv_goto hx.1 hx.2.1 hd ht (k H locs ls hP hD hS hl)
theorem WS.icmp_eq {x y : Int32} {off : Int} {tgt : Nat} (hx : Ok V own cc nL d X) (hd : decode cc pc = .ok (.if_icmp .eq off, 3)) (ht : (pc : Int) + off = (tgt : Int)) (kt : x = y → WS lay V nL X σ tgt lo st) (kf : ¬ x = y → WS lay V nL X σ (pc + 3) lo st) : WS lay V nL X σ pc lo (.int y :: .int x :: st) := by
  obtain ⟨p, l, e, R, s, m, args, below, meth, c, A, Q⟩ := X
  intro H locs ls hP hD hS hl
  exact lv_icmp_eq hx.1 hx.2.1 hd ht (fun h => kt h H locs ls hP hD hS hl) (fun h => kf h H locs ls hP hD hS hl)
theorem WS.icmp_ne {x y : Int32} {off : Int} {tgt : Nat} (hx : Ok V own cc nL d X) (hd : decode cc pc = .ok (.if_icmp .ne off, 3)) (ht : (pc : Int) + off = (tgt : Int)) (kt : ¬ x = y → WS lay V nL X σ tgt lo st) (kf : x = y → WS lay V nL X σ (pc + 3) lo st) : WS lay V nL X σ pc lo (.int y :: .int x :: st) := by
  obtain ⟨p, l, e, R, s, m, args, below, meth, c, A, Q⟩ := X
  intro H locs ls hP hD hS hl
  exact lv_icmp_ne hx.1 hx.2.1 hd ht (fun h => kt h H locs ls hP hD hS hl) (fun h => kf h H locs ls hP hD hS hl)
theorem WS.icmp_lt {x y : Int32} {off : Int} {tgt : Nat} (hx : Ok V own cc nL d X) (hd : decode cc pc = .ok (.if_icmp .lt off, 3)) (ht : (pc : Int) + off = (tgt : Int)) (kt : x < y → WS lay V nL X σ tgt lo st) (kf : ¬ x < y → WS lay V nL X σ (pc + 3) lo st) : WS lay V nL X σ pc lo (.int y :: .int x :: st) := by
  obtain ⟨p, l, e, R, s, m, args, below, meth, c, A, Q⟩ := X
  intro H locs ls hP hD hS hl
  exact lv_icmp_lt hx.1 hx.2.1 hd ht (fun h => kt h H locs ls hP hD hS hl) (fun h => kf h H locs ls hP hD hS hl)
theorem WS.icmp_ge {x y : Int32} {off : Int} {tgt : Nat} (hx : Ok V own cc nL d X) (hd : decode cc pc = .ok (.if_icmp .ge off, 3)) (ht : (pc : Int) + off = (tgt : Int)) (kt : y ≤ x → WS lay V nL X σ tgt lo st) (kf : ¬ y ≤ x → WS lay V nL X σ (pc + 3) lo st) : WS lay V nL X σ pc lo (.int y :: .int x :: st) := by
  obtain ⟨p, l, e, R, s, m, args, below, meth, c, A, Q⟩ := X
  intro H locs ls hP hD hS hl
  exact lv_icmp_ge hx.1 hx.2.1 hd ht (fun h => kt h H locs ls hP hD hS hl) (fun h => kf h H locs ls hP hD hS hl)
theorem WS.icmp_gt {x y : Int32} {off : Int} {tgt : Nat} (hx : Ok V own cc nL d X) (hd : decode cc pc = .ok (.if_icmp .gt off, 3)) (ht : (pc : Int) + off = (tgt : Int)) (kt : y < x → WS lay V nL X σ tgt lo st) (kf : ¬ y < x → WS lay V nL X σ (pc + 3) lo st) : WS lay V nL X σ pc lo (.int y :: .int x :: st) := by
  obtain ⟨p, l, e, R, s, m, args, below, meth, c, A, Q⟩ := X
  intro H locs ls hP hD hS hl
  exact lv_icmp_gt hx.1 hx.2.1 hd ht (fun h => kt h H locs ls hP hD hS hl) (fun h => kf h H locs ls hP hD hS hl)
theorem WS.icmp_le {x y : Int32} {off : Int} {tgt : Nat} (hx : Ok V own cc nL d X) (hd : decode cc pc = .ok (.if_icmp .le off, 3)) (ht : (pc : Int) + off = (tgt : Int)) (kt : x ≤ y → WS lay V nL X σ tgt lo st) (kf : ¬ x ≤ y → WS lay V nL X σ (pc + 3) lo st) : WS lay V nL X σ pc lo (.int y :: .int x :: st) := by
  obtain ⟨p, l, e, R, s, m, args, below, meth, c, A, Q⟩ := X
  intro H locs ls hP hD hS hl
  exact lv_icmp_le hx.1 hx.2.1 hd ht (fun h => kt h H locs ls hP hD hS hl) (fun h => kf h H locs ls hP hD hS hl)
theorem WS.if_eq {x : Int32} {off : Int} {tgt : Nat} (hx : Ok V own cc nL d X) (hd : decode cc pc = .ok (.ifCond .eq off, 3)) (ht : (pc : Int) + off = (tgt : Int)) (kt : x = 0 → WS lay V nL X σ tgt lo st) (kf : ¬ x = 0 → WS lay V nL X σ (pc + 3) lo st) : WS lay V nL X σ pc lo (.int x :: st) := by
  obtain ⟨p, l, e, R, s, m, args, below, meth, c, A, Q⟩ := X
  intro H locs ls hP hD hS hl
  exact lv_if_eq hx.1 hx.2.1 hd ht (fun h => kt h H locs ls hP hD hS hl) (fun h => kf h H locs ls hP hD hS hl)
theorem WS.if_ne {x : Int32} {off : Int} {tgt : Nat} (hx : Ok V own cc nL d X) (hd : decode cc pc = .ok (.ifCond .ne off, 3)) (ht : (pc : Int) + off = (tgt : Int)) (kt : ¬ x = 0 → WS lay V nL X σ tgt lo st) (kf : x = 0 → WS lay V nL X σ (pc + 3) lo st) : WS lay V nL X σ pc lo (.int x :: st) := by
  obtain ⟨p, l, e, R, s, m, args, below, meth, c, A, Q⟩ := X
  intro H locs ls hP hD hS hl
  exact lv_if_ne hx.1 hx.2.1 hd ht (fun h => kt h H locs ls hP hD hS hl) (fun h => kf h H locs ls hP hD hS hl)
theorem WS.if_lt {x : Int32} {off : Int} {tgt : Nat} (hx : Ok V own cc nL d X) (hd : decode cc pc = .ok (.ifCond .lt off, 3)) (ht : (pc : Int) + off = (tgt : Int)) (kt : x < 0 → WS lay V nL X σ tgt lo st) (kf : ¬ x < 0 → WS lay V nL X σ (pc + 3) lo st) : WS lay V nL X σ pc lo (.int x :: st) := by
  obtain ⟨p, l, e, R, s, m, args, below, meth, c, A, Q⟩ := X
  intro H locs ls hP hD hS hl
  exact lv_if_lt hx.1 hx.2.1 hd ht (fun h => kt h H locs ls hP hD hS hl) (fun h => kf h H locs ls hP hD hS hl)
theorem WS.if_ge {x : Int32} {off : Int} {tgt : Nat} (hx : Ok V own cc nL d X) (hd : decode cc pc = .ok (.ifCond .ge off, 3)) (ht : (pc : Int) + off = (tgt : Int)) (kt : 0 ≤ x → WS lay V nL X σ tgt lo st) (kf : ¬ 0 ≤ x → WS lay V nL X σ (pc + 3) lo st) : WS lay V nL X σ pc lo (.int x :: st) := by
  obtain ⟨p, l, e, R, s, m, args, below, meth, c, A, Q⟩ := X
  intro H locs ls hP hD hS hl
  exact lv_if_ge hx.1 hx.2.1 hd ht (fun h => kt h H locs ls hP hD hS hl) (fun h => kf h H locs ls hP hD hS hl)
theorem WS.if_gt {x : Int32} {off : Int} {tgt : Nat} (hx : Ok V own cc nL d X) (hd : decode cc pc = .ok (.ifCond .gt off, 3)) (ht : (pc : Int) + off = (tgt : Int)) (kt : 0 < x → WS lay V nL X σ tgt lo st) (kf : ¬ 0 < x → WS lay V nL X σ (pc + 3) lo st) : WS lay V nL X σ pc lo (.int x :: st) := by
  obtain ⟨p, l, e, R, s, m, args, below, meth, c, A, Q⟩ := X
  intro H locs ls hP hD hS hl
  exact lv_if_gt hx.1 hx.2.1 hd ht (fun h => kt h H locs ls hP hD hS hl) (fun h => kf h H locs ls hP hD hS hl)
theorem WS.if_le {x : Int32} {off : Int} {tgt : Nat} (hx : Ok V own cc nL d X) (hd : decode cc pc = .ok (.ifCond .le off, 3)) (ht : (pc : Int) + off = (tgt : Int)) (kt : x ≤ 0 → WS lay V nL X σ tgt lo st) (kf : ¬ x ≤ 0 → WS lay V nL X σ (pc + 3) lo st) : WS lay V nL X σ pc lo (.int x :: st) := by
  obtain ⟨p, l, e, R, s, m, args, below, meth, c, A, Q⟩ := X
  intro H locs ls hP hD hS hl
  exact lv_if_le hx.1 hx.2.1 hd ht (fun h => kt h H locs ls hP hD hS hl) (fun h => kf h H locs ls hP hD hS hl)
end RULES
