abbrev nn (x : Int32) : Nat := x.toNatClampNeg
/-- forms of ends: yes or no on a ground; an answer and nothing changed -/
def Rb (c : Prop) (σ : Sg) : Option Value → Sg → Prop := Ri fun v σ' => (1 = v ∧ σ = σ' ∧ c) ∨ (0 = v ∧ σ = σ' ∧ ¬ c)
def Ro (f : Int32) (σ : Sg) : Option Value → Sg → Prop := Ri fun v σ' => f = v ∧ σ = σ'
def Rol (f : Int64) (σ : Sg) : Option Value → Sg → Prop := Rl fun v σ' => f = v ∧ σ = σ'
def Rvo (σ : Sg) : Option Value → Sg → Prop := Rv fun σ' => σ = σ'
theorem Rb.t {c : Prop} {σ : Sg} (h : c) : Rb c σ (some (.int 1)) σ := ⟨1, rfl, Or.inl ⟨rfl, rfl, h⟩⟩
theorem Rb.f {c : Prop} {σ : Sg} (h : ¬ c) : Rb c σ (some (.int 0)) σ := ⟨0, rfl, Or.inr ⟨rfl, rfl, h⟩⟩
theorem Ro.i {f v : Int32} {σ : Sg} (h : f = v) : Ro f σ (some (.int v)) σ := ⟨v, rfl, h, rfl⟩
theorem Rol.i {f v : Int64} {σ : Sg} (h : f = v) : Rol f σ (some (.long v)) σ := ⟨v, rfl, h, rfl⟩
theorem Ro.s {f v : Int32} {σ σ' : Sg} (h : f = v) (hs : σ = σ') : Ro f σ (some (.int v)) σ' := ⟨v, rfl, h, hs⟩
theorem vp_dec {i : Int32} {n : Nat} (h : ¬ (i < 0 ∨ n ≤ i.toNatClampNeg)) : vp_in i n := h
theorem Rvo.i {σ : Sg} : Rvo σ none σ := ⟨rfl, rfl⟩
theorem Rvo.s {σ σ' : Sg} (h : σ = σ') : Rvo σ none σ' := ⟨rfl, h⟩

set_option maxHeartbeats 1000000 in
theorem c_X10_within (V : Vt) (d : Nat) (σ : Sg) (a b c : Int32) : CT layC V mX10_within (d) [.int a, .int b, .int c] σ (Rb (b ≤ a ∧ a ≤ c) σ) := by
  refine CT.of (own := RX10) rfl (by decide) (Nat.le_of_ble_eq_true rfl) (fun X (hx : Ok V RX10 cX10_within 3 (d) X) (he : En layC V (some .boolean) (Rb (b ≤ a ∧ a ≤ c) σ) X) => ?_)
  change WS layC V 3 X σ 0 [(0, .int a), (1, .int b), (2, .int c)] []
  refine WS.iload_n hx dX10_within_0 rfl 0 rfl ?_
  refine WS.iload_n hx dX10_within_1 rfl 1 rfl ?_
  refine WS.icmp_lt (tgt := 14) hx dX10_within_2 (by decide) (fun c2 => ?_) (fun c2 => ?_)
  · skip
    show WS layC V 3 X σ 14 [(0, .int a), (1, .int b), (2, .int c)] []
    refine WS.iconst (v := 0) hx dX10_within_14 (by decide) ?_
    exact WS.zret hx he dX10_within_15 (Or.inl rfl) (Rb.f (by (try simp only [i_le, i_lt, i_eq, tI_0, tI_1] at c2); (try simp only [i_le, i_lt, i_eq, tI_0, tI_1]); omega))
  · skip
    show WS layC V 3 X σ 5 [(0, .int a), (1, .int b), (2, .int c)] []
    refine WS.iload_n hx dX10_within_5 rfl 0 rfl ?_
    refine WS.iload_n hx dX10_within_6 rfl 2 rfl ?_
    refine WS.icmp_gt (tgt := 14) hx dX10_within_7 (by decide) (fun c7 => ?_) (fun c7 => ?_)
    · skip
      show WS layC V 3 X σ 14 [(0, .int a), (1, .int b), (2, .int c)] []
      refine WS.iconst (v := 0) hx dX10_within_14 (by decide) ?_
      exact WS.zret hx he dX10_within_15 (Or.inl rfl) (Rb.f (by (try simp only [i_le, i_lt, i_eq, tI_0, tI_1] at c2); (try simp only [i_le, i_lt, i_eq, tI_0, tI_1] at c7); (try simp only [i_le, i_lt, i_eq, tI_0, tI_1]); omega))
    · skip
      show WS layC V 3 X σ 10 [(0, .int a), (1, .int b), (2, .int c)] []
      refine WS.iconst (v := 1) hx dX10_within_10 (by decide) ?_
      refine WS.goto (tgt := 15) hx dX10_within_11 (by decide) ?_
      exact WS.zret hx he dX10_within_15 (Or.inr rfl) (Rb.t (by (try simp only [i_le, i_lt, i_eq, tI_0, tI_1] at c2); (try simp only [i_le, i_lt, i_eq, tI_0, tI_1] at c7); (try simp only [i_le, i_lt, i_eq, tI_0, tI_1]); omega))
set_option maxHeartbeats 1000000 in
theorem c_X10_isThought (V : Vt) (d : Nat) (σ : Sg) (a : Int32) : CT layC V mX10_isThought (d + 1) [.int a] σ (Rb (0 ≤ a.toInt ∧ a.toInt ≤ 15) σ) := by
  refine CT.of (own := RX10) rfl (by decide) (Nat.le_of_ble_eq_true rfl) (fun X (hx : Ok V RX10 cX10_isThought 1 (d + 1) X) (he : En layC V (some .boolean) (Rb (0 ≤ a.toInt ∧ a.toInt ≤ 15) σ) X) => ?_)
  change WS layC V 1 X σ 0 [(0, .int a)] []
  refine WS.iload_n hx dX10_isThought_0 rfl 0 rfl ?_
  refine WS.iconst (v := 0) hx dX10_isThought_1 (by decide) ?_
  refine WS.bipush (v := 15) hx dX10_isThought_2 (by decide) ?_
  refine WS.callSi (st := []) [.int a, .int 0, .int 15] hx (c_X10_within V d σ a 0 15) okX10_within lm10_80 rfl rfl (Nat.le_of_ble_eq_true rfl) dX10_isThought_4 (fun v1 σ2 h3 => ?_)
  rcases h3 with ⟨rfl, rfl, hb4⟩ | ⟨rfl, rfl, hb4⟩
  · skip
    show WS layC V 1 X σ 7 [(0, .int a)] [.int 1]
    exact WS.zret hx he dX10_isThought_7 (Or.inr rfl) (Rb.t (by (try simp only [i_le, i_lt, i_eq, tI_0, tI_1, tI_15] at hb4); (try simp only [i_le, i_lt, i_eq, tI_0, tI_1, tI_15]); omega))
  · skip
    show WS layC V 1 X σ 7 [(0, .int a)] [.int 0]
    exact WS.zret hx he dX10_isThought_7 (Or.inl rfl) (Rb.f (by (try simp only [i_le, i_lt, i_eq, tI_0, tI_1, tI_15] at hb4); (try simp only [i_le, i_lt, i_eq, tI_0, tI_1, tI_15]); omega))
set_option maxHeartbeats 1000000 in
theorem c_X10_isShelf (V : Vt) (d : Nat) (σ : Sg) (a : Int32) : CT layC V mX10_isShelf (d + 1) [.int a] σ (Rb (0 ≤ a.toInt ∧ a.toInt ≤ 5) σ) := by
  refine CT.of (own := RX10) rfl (by decide) (Nat.le_of_ble_eq_true rfl) (fun X (hx : Ok V RX10 cX10_isShelf 1 (d + 1) X) (he : En layC V (some .boolean) (Rb (0 ≤ a.toInt ∧ a.toInt ≤ 5) σ) X) => ?_)
  change WS layC V 1 X σ 0 [(0, .int a)] []
  refine WS.iload_n hx dX10_isShelf_0 rfl 0 rfl ?_
  refine WS.iconst (v := 0) hx dX10_isShelf_1 (by decide) ?_
  refine WS.iconst (v := 5) hx dX10_isShelf_2 (by decide) ?_
  refine WS.callSi (st := []) [.int a, .int 0, .int 5] hx (c_X10_within V d σ a 0 5) okX10_within lm10_80 rfl rfl (Nat.le_of_ble_eq_true rfl) dX10_isShelf_3 (fun v1 σ2 h3 => ?_)
  rcases h3 with ⟨rfl, rfl, hb3⟩ | ⟨rfl, rfl, hb3⟩
  · skip
    show WS layC V 1 X σ 6 [(0, .int a)] [.int 1]
    exact WS.zret hx he dX10_isShelf_6 (Or.inr rfl) (Rb.t (by (try simp only [i_le, i_lt, i_eq, tI_0, tI_1, tI_5] at hb3); (try simp only [i_le, i_lt, i_eq, tI_0, tI_1, tI_5]); omega))
  · skip
    show WS layC V 1 X σ 6 [(0, .int a)] [.int 0]
    exact WS.zret hx he dX10_isShelf_6 (Or.inl rfl) (Rb.f (by (try simp only [i_le, i_lt, i_eq, tI_0, tI_1, tI_5] at hb3); (try simp only [i_le, i_lt, i_eq, tI_0, tI_1, tI_5]); omega))
