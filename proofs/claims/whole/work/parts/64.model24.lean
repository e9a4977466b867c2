def upM (k : Int32) : Nat → Int32 → Int32
  | 0, x => x
  | u + 1, x => if x = k ∨ x ≤ 0 then x else upM k u (abM x)
theorem up_dec : ∀ a, a < 8 → ∀ c, c < 8 → (upM (nI c) 4 (nI a) = nI c ∨ upM (nI c) 4 (nI a) ≤ 0) ∧ (upM (nI c) 4 (nI a) = nI c ↔ udF (nI c) 8 (nI a) = true) := by decide +kernel
set_option maxHeartbeats 1000000 in
theorem lp_X11_taken (V : Vt) (d : Nat) (σ : Sg) (f k R : Int32) (hf : R = k ∨ R ≤ 0) (X : Xt) (hx : Ok V RX11 cX11_taken 4 (d + 2) X) (hC : WS layM V 4 X σ 75 [(3, .int R), (0, rf V 0), (1, .int f), (2, .int k)] []) : ∀ (u : Nat) (x : Int32), upM k u x = R → WS layM V 4 X σ 58 [(3, .int x), (0, rf V 0), (1, .int f), (2, .int k)] [] := by
  intro u
  induction u with
  | zero =>
    intro x hr
    refine WS.iload_n hx dX11_taken_58 rfl 0 rfl ?_
    refine WS.iload_n hx dX11_taken_59 rfl 3 rfl ?_
    refine WS.icmp_eq (tgt := 75) hx dX11_taken_60 (by decide) (fun c60 => ?_) (fun c60 => ?_)
    · skip
      show WS layM V 4 X σ 75 [(3, .int x), (0, rf V 0), (1, .int f), (2, .int k)] []
      exact WS.los [0, 1, 2, 3] rfl ((show x = R from hr) ▸ hC)
    · skip
      show WS layM V 4 X σ 63 [(3, .int x), (0, rf V 0), (1, .int f), (2, .int k)] []
      refine WS.iload_n hx dX11_taken_63 rfl 0 rfl ?_
      refine WS.if_le (tgt := 75) hx dX11_taken_64 (by decide) (fun c64 => ?_) (fun c64 => ?_)
      · skip
        show WS layM V 4 X σ 75 [(3, .int x), (0, rf V 0), (1, .int f), (2, .int k)] []
        exact WS.los [0, 1, 2, 3] rfl ((show x = R from hr) ▸ hC)
      · skip
        show WS layM V 4 X σ 67 [(3, .int x), (0, rf V 0), (1, .int f), (2, .int k)] []
        exfalso
        rw [show R = x from hr.symm] at hf
        exact hf.elim c60 c64
  | succ u ih =>
    intro x hr
    unfold upM at hr
    refine WS.iload_n hx dX11_taken_58 rfl 0 rfl ?_
    refine WS.iload_n hx dX11_taken_59 rfl 3 rfl ?_
    refine WS.icmp_eq (tgt := 75) hx dX11_taken_60 (by decide) (fun c60 => ?_) (fun c60 => ?_)
    · skip
      show WS layM V 4 X σ 75 [(3, .int x), (0, rf V 0), (1, .int f), (2, .int k)] []
      rw [if_pos (Or.inl c60)] at hr
      exact WS.los [0, 1, 2, 3] rfl (hr ▸ hC)
    · skip
      show WS layM V 4 X σ 63 [(3, .int x), (0, rf V 0), (1, .int f), (2, .int k)] []
      refine WS.iload_n hx dX11_taken_63 rfl 0 rfl ?_
      refine WS.if_le (tgt := 75) hx dX11_taken_64 (by decide) (fun c64 => ?_) (fun c64 => ?_)
      · skip
        show WS layM V 4 X σ 75 [(3, .int x), (0, rf V 0), (1, .int f), (2, .int k)] []
        rw [if_pos (Or.inr c64)] at hr
        exact WS.los [0, 1, 2, 3] rfl (hr ▸ hC)
      · skip
        show WS layM V 4 X σ 67 [(3, .int x), (0, rf V 0), (1, .int f), (2, .int k)] []
        refine WS.iload_n hx dX11_taken_67 rfl 0 rfl ?_
        refine WS.callSi (st := []) [.int x] hx (c_X11_above V (d + 1) σ x) okX11_above lm11_359 rfl rfl (Nat.le_of_ble_eq_true rfl) dX11_taken_68 (fun v1 σ2 h3 => ?_)
        obtain ⟨rfl, rfl⟩ := h3
        show WS layM V 4 X σ 71 [(3, .int x), (0, rf V 0), (1, .int f), (2, .int k)] [.int (abM x)]
        refine WS.istore_n (lo' := [(3, .int (abM x)), (0, rf V 0), (1, .int f), (2, .int k)]) hx dX11_taken_71 rfl (by decide) rfl ?_
        refine WS.goto (tgt := 58) hx dX11_taken_72 (by decide) ?_
        rw [if_neg (fun h => h.elim c60 c64)] at hr
        exact WS.los [0, 1, 2, 3] rfl (ih (abM x) hr)
/-- the toads of both -/
def BR (κ μ : Sg) (z : Nat) : Prop := z ≤ 50 ∧ κ.1 9 2 = nI z ∧ μ.1 0 35 = nI z ∧ ∀ j, j < z → rg (κ.1 36 j) 7 ∧ μ.1 21 j = κ.1 36 j
theorem SR.t {κ μ : Sg} {z s : Nat} (h : SR κ μ z) (hs : s < 6) (h0 : ¬ κ.1 (52 + s) 1 = 0) (h2 : ¬ κ.1 (52 + s) 1 = 2) : μ.1 23 s = κ.1 (52 + s) 2 ∧ 0 ≤ (κ.1 (52 + s) 2).toInt ∧ (κ.1 (52 + s) 2).toInt < z := by
  obtain ⟨g0, g | g | g⟩ := h s hs
  · exact absurd g.1 h0
  · exact g.2
  · exact absurd g.1 h2
set_option maxHeartbeats 1000000 in
theorem lt_X11_taken (V : Vt) (d : Nat) (σ κ : Sg) (z : Nat) (hB : BR κ σ z) (f k R : Int32) (hf5 : (0 ≤ f.toInt ∧ f.toInt ≤ 5)) (h86 : σ.1 23 (nn f) = nI (nn (κ.1 (52 + nn f) 2))) (hjz : (nn (κ.1 (52 + nn f) 2)) < z) (P : Int32 → Sg → Prop) (X : Xt) (hx : Ok V RX11 cX11_taken 4 (d + 2) X) (he : En layM V (some .int) (Ri P) X) (hP : (R = k → P (κ.1 36 (nn (κ.1 (52 + nn f) 2))) σ) ∧ (¬ R = k → P (-12) σ)) : WS layM V 4 X σ 75 [(3, .int R), (0, rf V 0), (1, .int f), (2, .int k)] [] := by
  have hz50 := hB.1
  refine WS.iload_n hx dX11_taken_75 rfl 0 rfl ?_
  refine WS.iload_n hx dX11_taken_76 rfl 3 rfl ?_
  refine WS.icmp_ne (tgt := 93) hx dX11_taken_77 (by decide) (fun c77 => ?_) (fun c77 => ?_)
  · skip
    show WS layM V 4 X σ 93 [(3, .int R), (0, rf V 0), (1, .int f), (2, .int k)] []
    refine WS.bipush (v := (-12)) hx dX11_taken_93 (by decide) ?_
    exact WS.iret hx he dX11_taken_95 ⟨_, rfl, hP.2 c77⟩
  · skip
    show WS layM V 4 X σ 80 [(3, .int R), (0, rf V 0), (1, .int f), (2, .int k)] []
    refine WS.aload_n hx dX11_taken_80 rfl 1 rfl ?_
    refine WS.aload_n hx dX11_taken_81 rfl 1 rfl ?_
    refine WS.getR hx okX11 lf11_77 rfl rfl dX11_taken_82 ?_
    refine WS.iload_n hx dX11_taken_85 rfl 2 rfl ?_
    refine WS.iald hx rfl (sh_in hf5) dX11_taken_86 ?_
    refine WS.as rfl rfl (congrArg (fun z => Value.int z :: _) (show σ.1 23 (nn f) = nI (nn (κ.1 (52 + nn f) 2)) from h86)) ?_
    skip
    refine WS.callVi (st := []) [.int (nI (nn (κ.1 (52 + nn f) 2)))] hx (c_X11_kindOf V (d + 1) σ (nn (κ.1 (52 + nn f) 2)) (by omega)) okX11_kindOf lm11_356 rfl rfl rfl rfl (Nat.le_of_ble_eq_true rfl) dX11_taken_87 (fun v1 σ2 h3 => ?_)
    obtain ⟨rfl, rfl⟩ := h3
    show WS layM V 4 X σ 90 [(3, .int R), (0, rf V 0), (1, .int f), (2, .int k)] [.int (σ.1 21 (nn (κ.1 (52 + nn f) 2)))]
    refine WS.as rfl rfl (congrArg (fun z => Value.int z :: _) (show σ.1 21 (nn (κ.1 (52 + nn f) 2)) = κ.1 36 (nn (κ.1 (52 + nn f) 2)) from (hB.2.2.2 _ hjz).2)) ?_
    skip
    refine WS.goto (tgt := 95) hx dX11_taken_90 (by decide) ?_
    exact WS.iret hx he dX11_taken_95 ⟨_, rfl, hP.1 c77⟩
set_option maxHeartbeats 1000000 in
theorem c_X11_taken (V : Vt) (d : Nat) (σ : Sg) (κ : Sg) (z : Nat) (hz : z ≤ 50) (hS : SR κ σ z) (hB : BR κ σ z) (f k : Int32) : CT layM V mX11_taken (d + 2) [rf V 0, .int f, .int k] σ (Ri fun v σ' => (if ¬ ((0 ≤ f.toInt ∧ f.toInt ≤ 5) ∧ (0 ≤ k.toInt ∧ k.toInt ≤ 7)) then v = -1 ∧ σ' = σ else if κ.1 (52 + nn f) 1 = 0 then v = -11 ∧ σ' = σ else if κ.1 (52 + nn f) 1 = 2 then v = -12 ∧ σ' = σ else if udF k 8 (κ.1 36 (nn (κ.1 (52 + nn f) 2))) = true then v = κ.1 36 (nn (κ.1 (52 + nn f) 2)) ∧ σ' = σ else v = -12 ∧ σ' = σ)) := by
  refine CT.of (own := RX11) rfl (by decide) (Nat.le_of_ble_eq_true rfl) (fun X (hx : Ok V RX11 cX11_taken 4 (d + 2) X) (he : En layM V (some .int) (Ri fun v σ' => (if ¬ ((0 ≤ f.toInt ∧ f.toInt ≤ 5) ∧ (0 ≤ k.toInt ∧ k.toInt ≤ 7)) then v = -1 ∧ σ' = σ else if κ.1 (52 + nn f) 1 = 0 then v = -11 ∧ σ' = σ else if κ.1 (52 + nn f) 1 = 2 then v = -12 ∧ σ' = σ else if udF k 8 (κ.1 36 (nn (κ.1 (52 + nn f) 2))) = true then v = κ.1 36 (nn (κ.1 (52 + nn f) 2)) ∧ σ' = σ else v = -12 ∧ σ' = σ)) X) => ?_)
  change WS layM V 4 X σ 0 [(0, rf V 0), (1, .int f), (2, .int k)] []
  refine WS.iload_n hx dX11_taken_0 rfl 1 rfl ?_
  refine WS.callSi (st := []) [.int f] hx (c_X11_isShelf V d σ f) okX11_isShelf lm11_119 rfl rfl (Nat.le_of_ble_eq_true rfl) dX11_taken_1 (fun v1 σ2 h3 => ?_)
  rcases h3 with ⟨rfl, rfl, hb1⟩ | ⟨rfl, rfl, hb1⟩
  · skip
    show WS layM V 4 X σ 4 [(0, rf V 0), (1, .int f), (2, .int k)] [.int 1]
    obtain ⟨e1, e2, e3⟩ := hS.c hz (sh_nn hb1)
    unfold nn at e1 e2 e3
    refine WS.if_eq (tgt := 19) hx dX11_taken_4 (by decide) (fun h => absurd h (by decide)) (fun _ => ?_)
    refine WS.iload_n hx dX11_taken_7 rfl 2 rfl ?_
    refine WS.i2l hx dX11_taken_8 ?_
    refine WS.lconst (v := 0) hx dX11_taken_9 rfl ?_
    refine WS.ldc2 (v := 7) hx lc11_320 dX11_taken_10 ?_
    refine WS.callSi (st := []) [.long (Int32.toInt64 k), .long 0, .long 7] hx (c_X11_within V (d + 1) σ (Int32.toInt64 k) 0 7) okX11_within lm11_100 rfl rfl (Nat.le_of_ble_eq_true rfl) dX11_taken_13 (fun v4 σ5 h6 => ?_)
    rcases h6 with ⟨rfl, rfl, hb13⟩ | ⟨rfl, rfl, hb13⟩
    · skip
      show WS layM V 4 X σ 16 [(0, rf V 0), (1, .int f), (2, .int k)] [.int 1]
      have hk7 : (0 ≤ k.toInt ∧ k.toInt ≤ 7) := by have h9 := hb13; simp only [l_int, tL_0, tL_7] at h9; exact h9
      have hA : (0 ≤ f.toInt ∧ f.toInt ≤ 5) ∧ (0 ≤ k.toInt ∧ k.toInt ≤ 7) := ⟨hb1, hk7⟩
      refine WS.if_ne (tgt := 21) hx dX11_taken_16 (by decide) (fun _ => ?_) (fun h => absurd h (by decide))
      refine WS.aload_n hx dX11_taken_21 rfl 0 rfl ?_
      refine WS.getR hx okX11 lf11_77 rfl rfl dX11_taken_22 ?_
      refine WS.iload_n hx dX11_taken_25 rfl 1 rfl ?_
      refine WS.iald hx rfl (sh_in hb1) dX11_taken_26 ?_
      refine WS.if_ge (tgt := 33) hx dX11_taken_27 (by decide) (fun c27 => ?_) (fun c27 => ?_)
      · skip
        show WS layM V 4 X σ 33 [(0, rf V 0), (1, .int f), (2, .int k)] []
        refine WS.aload_n hx dX11_taken_33 rfl 0 rfl ?_
        refine WS.getR hx okX11 lf11_77 rfl rfl dX11_taken_34 ?_
        refine WS.iload_n hx dX11_taken_37 rfl 1 rfl ?_
        refine WS.iald hx rfl (sh_in hb1) dX11_taken_38 ?_
        refine WS.bipush (v := 50) hx dX11_taken_39 (by decide) ?_
        refine WS.icmp_lt (tgt := 47) hx dX11_taken_41 (by decide) (fun c41 => ?_) (fun c41 => ?_)
        · skip
          show WS layM V 4 X σ 47 [(0, rf V 0), (1, .int f), (2, .int k)] []
          have h0 : ¬ κ.1 (52 + nn f) 1 = 0 := fun h => by have := e1.mp h; (try simp only [l_int, tL_0, tL_1, tL_2, tL_4, tL_5, tL_6, tL_7, tL_9, tL_10, tL_12, tL_15, tL_30, tL_40, tL_60, tL_99, tL_255, tL_1023, tL_m1, lc_lt, lc_gt, lc_ge, lc_le, lc_eq, l6_le, l6_lt, l6_eq, tI_m133, tI_m226, i_le, i_lt, i_eq, tI_m12, tI_m11, tI_m1, tI_0, tI_1, tI_50] at hb1); (try simp only [l_int, tL_0, tL_1, tL_2, tL_4, tL_5, tL_6, tL_7, tL_9, tL_10, tL_12, tL_15, tL_30, tL_40, tL_60, tL_99, tL_255, tL_1023, tL_m1, lc_lt, lc_gt, lc_ge, lc_le, lc_eq, l6_le, l6_lt, l6_eq, tI_m133, tI_m226, i_le, i_lt, i_eq, tI_m12, tI_m11, tI_m1, tI_0, tI_1, tI_50] at hb13); (try simp only [l_int, tL_0, tL_1, tL_2, tL_4, tL_5, tL_6, tL_7, tL_9, tL_10, tL_12, tL_15, tL_30, tL_40, tL_60, tL_99, tL_255, tL_1023, tL_m1, lc_lt, lc_gt, lc_ge, lc_le, lc_eq, l6_le, l6_lt, l6_eq, tI_m133, tI_m226, i_le, i_lt, i_eq, tI_m12, tI_m11, tI_m1, tI_0, tI_1, tI_50] at c27); (try simp only [l_int, tL_0, tL_1, tL_2, tL_4, tL_5, tL_6, tL_7, tL_9, tL_10, tL_12, tL_15, tL_30, tL_40, tL_60, tL_99, tL_255, tL_1023, tL_m1, lc_lt, lc_gt, lc_ge, lc_le, lc_eq, l6_le, l6_lt, l6_eq, tI_m133, tI_m226, i_le, i_lt, i_eq, tI_m12, tI_m11, tI_m1, tI_0, tI_1, tI_50] at c41); (try simp only [l_int, tL_0, tL_1, tL_2, tL_4, tL_5, tL_6, tL_7, tL_9, tL_10, tL_12, tL_15, tL_30, tL_40, tL_60, tL_99, tL_255, tL_1023, tL_m1, lc_lt, lc_gt, lc_ge, lc_le, lc_eq, l6_le, l6_lt, l6_eq, tI_m133, tI_m226, i_le, i_lt, i_eq, tI_m12, tI_m11, tI_m1, tI_0, tI_1, tI_50]); omega
          have h2 : ¬ κ.1 (52 + nn f) 1 = 2 := fun h => by have := e2.mp h; (try simp only [l_int, tL_0, tL_1, tL_2, tL_4, tL_5, tL_6, tL_7, tL_9, tL_10, tL_12, tL_15, tL_30, tL_40, tL_60, tL_99, tL_255, tL_1023, tL_m1, lc_lt, lc_gt, lc_ge, lc_le, lc_eq, l6_le, l6_lt, l6_eq, tI_m133, tI_m226, i_le, i_lt, i_eq, tI_m12, tI_m11, tI_m1, tI_0, tI_1, tI_50] at hb1); (try simp only [l_int, tL_0, tL_1, tL_2, tL_4, tL_5, tL_6, tL_7, tL_9, tL_10, tL_12, tL_15, tL_30, tL_40, tL_60, tL_99, tL_255, tL_1023, tL_m1, lc_lt, lc_gt, lc_ge, lc_le, lc_eq, l6_le, l6_lt, l6_eq, tI_m133, tI_m226, i_le, i_lt, i_eq, tI_m12, tI_m11, tI_m1, tI_0, tI_1, tI_50] at hb13); (try simp only [l_int, tL_0, tL_1, tL_2, tL_4, tL_5, tL_6, tL_7, tL_9, tL_10, tL_12, tL_15, tL_30, tL_40, tL_60, tL_99, tL_255, tL_1023, tL_m1, lc_lt, lc_gt, lc_ge, lc_le, lc_eq, l6_le, l6_lt, l6_eq, tI_m133, tI_m226, i_le, i_lt, i_eq, tI_m12, tI_m11, tI_m1, tI_0, tI_1, tI_50] at c27); (try simp only [l_int, tL_0, tL_1, tL_2, tL_4, tL_5, tL_6, tL_7, tL_9, tL_10, tL_12, tL_15, tL_30, tL_40, tL_60, tL_99, tL_255, tL_1023, tL_m1, lc_lt, lc_gt, lc_ge, lc_le, lc_eq, l6_le, l6_lt, l6_eq, tI_m133, tI_m226, i_le, i_lt, i_eq, tI_m12, tI_m11, tI_m1, tI_0, tI_1, tI_50] at c41); (try simp only [l_int, tL_0, tL_1, tL_2, tL_4, tL_5, tL_6, tL_7, tL_9, tL_10, tL_12, tL_15, tL_30, tL_40, tL_60, tL_99, tL_255, tL_1023, tL_m1, lc_lt, lc_gt, lc_ge, lc_le, lc_eq, l6_le, l6_lt, l6_eq, tI_m133, tI_m226, i_le, i_lt, i_eq, tI_m12, tI_m11, tI_m1, tI_0, tI_1, tI_50]); omega
          have ht := hS.t (sh_nn hb1) h0 h2
          have htn := nn_int ht.2.1
          have hjz : (nn (κ.1 (52 + nn f) 2)) < z := by omega
          have h86 : σ.1 23 (nn f) = nI (nn (κ.1 (52 + nn f) 2)) := ht.1.trans (nI_nn ht.2.1).symm
          have hkd := (hB.2.2.2 _ hjz).1
          refine WS.aload_n hx dX11_taken_47 rfl 0 rfl ?_
          refine WS.aload_n hx dX11_taken_48 rfl 0 rfl ?_
          refine WS.getR hx okX11 lf11_77 rfl rfl dX11_taken_49 ?_
          refine WS.iload_n hx dX11_taken_52 rfl 1 rfl ?_
          refine WS.iald hx rfl (sh_in hb1) dX11_taken_53 ?_
          refine WS.as rfl rfl (congrArg (fun z => Value.int z :: _) (show σ.1 23 (nn f) = nI (nn (κ.1 (52 + nn f) 2)) from h86)) ?_
          skip
          refine WS.callVi (st := []) [.int (nI (nn (κ.1 (52 + nn f) 2)))] hx (c_X11_kindOf V (d + 1) σ (nn (κ.1 (52 + nn f) 2)) (by omega)) okX11_kindOf lm11_356 rfl rfl rfl rfl (Nat.le_of_ble_eq_true rfl) dX11_taken_54 (fun v7 σ8 h9 => ?_)
          obtain ⟨rfl, rfl⟩ := h9
          show WS layM V 4 X σ 57 [(0, rf V 0), (1, .int f), (2, .int k)] [.int (σ.1 21 (nn (κ.1 (52 + nn f) 2)))]
          refine WS.as rfl rfl (congrArg (fun z => Value.int z :: _) (show σ.1 21 (nn (κ.1 (52 + nn f) 2)) = κ.1 36 (nn (κ.1 (52 + nn f) 2)) from (hB.2.2.2 _ hjz).2)) ?_
          skip
          refine WS.istore_n (lo' := [(3, .int (κ.1 36 (nn (κ.1 (52 + nn f) 2)))), (0, rf V 0), (1, .int f), (2, .int k)]) hx dX11_taken_57 rfl (by decide) rfl ?_
          have hkk := nn_int hk7.1
          have hud := up_dec (nn (κ.1 36 (nn (κ.1 (52 + nn f) 2)))) (by have := hkd.le; omega) (nn k) (by omega)
          rw [nI_nn hk7.1, ← hkd.i] at hud
          exact WS.los [0, 1, 2, 3] rfl (lp_X11_taken V d σ f k _ hud.1 X hx (lt_X11_taken V d σ κ z hB f k _ hb1 h86 hjz _ X hx he ⟨fun h => by (try dsimp only); rw [if_neg (fun h => h hA), if_neg h0, if_neg h2, if_pos (hud.2.mp h)]; exact ⟨rfl, rfl⟩, fun h => by (try dsimp only); rw [if_neg (fun h => h hA), if_neg h0, if_neg h2, if_neg (fun g => h (hud.2.mpr g))]; exact ⟨rfl, rfl⟩⟩) 4 _ rfl)
        · skip
          show WS layM V 4 X σ 44 [(0, rf V 0), (1, .int f), (2, .int k)] []
          refine WS.bipush (v := (-12)) hx dX11_taken_44 (by decide) ?_
          exact WS.iret hx he dX11_taken_46 ⟨_, rfl, by (try dsimp only); rw [if_neg (fun h => h hA), if_neg (fun h => by have := e1.mp h; (try simp only [l_int, tL_0, tL_1, tL_2, tL_4, tL_5, tL_6, tL_7, tL_9, tL_10, tL_12, tL_15, tL_30, tL_40, tL_60, tL_99, tL_255, tL_1023, tL_m1, lc_lt, lc_gt, lc_ge, lc_le, lc_eq, l6_le, l6_lt, l6_eq, tI_m133, tI_m226, i_le, i_lt, i_eq, tI_m12, tI_m11, tI_m1, tI_0, tI_1, tI_50] at hb1); (try simp only [l_int, tL_0, tL_1, tL_2, tL_4, tL_5, tL_6, tL_7, tL_9, tL_10, tL_12, tL_15, tL_30, tL_40, tL_60, tL_99, tL_255, tL_1023, tL_m1, lc_lt, lc_gt, lc_ge, lc_le, lc_eq, l6_le, l6_lt, l6_eq, tI_m133, tI_m226, i_le, i_lt, i_eq, tI_m12, tI_m11, tI_m1, tI_0, tI_1, tI_50] at hb13); (try simp only [l_int, tL_0, tL_1, tL_2, tL_4, tL_5, tL_6, tL_7, tL_9, tL_10, tL_12, tL_15, tL_30, tL_40, tL_60, tL_99, tL_255, tL_1023, tL_m1, lc_lt, lc_gt, lc_ge, lc_le, lc_eq, l6_le, l6_lt, l6_eq, tI_m133, tI_m226, i_le, i_lt, i_eq, tI_m12, tI_m11, tI_m1, tI_0, tI_1, tI_50] at c27); (try simp only [l_int, tL_0, tL_1, tL_2, tL_4, tL_5, tL_6, tL_7, tL_9, tL_10, tL_12, tL_15, tL_30, tL_40, tL_60, tL_99, tL_255, tL_1023, tL_m1, lc_lt, lc_gt, lc_ge, lc_le, lc_eq, l6_le, l6_lt, l6_eq, tI_m133, tI_m226, i_le, i_lt, i_eq, tI_m12, tI_m11, tI_m1, tI_0, tI_1, tI_50] at c41); (try simp only [l_int, tL_0, tL_1, tL_2, tL_4, tL_5, tL_6, tL_7, tL_9, tL_10, tL_12, tL_15, tL_30, tL_40, tL_60, tL_99, tL_255, tL_1023, tL_m1, lc_lt, lc_gt, lc_ge, lc_le, lc_eq, l6_le, l6_lt, l6_eq, tI_m133, tI_m226, i_le, i_lt, i_eq, tI_m12, tI_m11, tI_m1, tI_0, tI_1, tI_50]); omega), if_pos (e2.mpr (by (try simp only [l_int, tL_0, tL_1, tL_2, tL_4, tL_5, tL_6, tL_7, tL_9, tL_10, tL_12, tL_15, tL_30, tL_40, tL_60, tL_99, tL_255, tL_1023, tL_m1, lc_lt, lc_gt, lc_ge, lc_le, lc_eq, l6_le, l6_lt, l6_eq, tI_m133, tI_m226, i_le, i_lt, i_eq, tI_m12, tI_m11, tI_m1, tI_0, tI_1, tI_50] at hb1); (try simp only [l_int, tL_0, tL_1, tL_2, tL_4, tL_5, tL_6, tL_7, tL_9, tL_10, tL_12, tL_15, tL_30, tL_40, tL_60, tL_99, tL_255, tL_1023, tL_m1, lc_lt, lc_gt, lc_ge, lc_le, lc_eq, l6_le, l6_lt, l6_eq, tI_m133, tI_m226, i_le, i_lt, i_eq, tI_m12, tI_m11, tI_m1, tI_0, tI_1, tI_50] at hb13); (try simp only [l_int, tL_0, tL_1, tL_2, tL_4, tL_5, tL_6, tL_7, tL_9, tL_10, tL_12, tL_15, tL_30, tL_40, tL_60, tL_99, tL_255, tL_1023, tL_m1, lc_lt, lc_gt, lc_ge, lc_le, lc_eq, l6_le, l6_lt, l6_eq, tI_m133, tI_m226, i_le, i_lt, i_eq, tI_m12, tI_m11, tI_m1, tI_0, tI_1, tI_50] at c27); (try simp only [l_int, tL_0, tL_1, tL_2, tL_4, tL_5, tL_6, tL_7, tL_9, tL_10, tL_12, tL_15, tL_30, tL_40, tL_60, tL_99, tL_255, tL_1023, tL_m1, lc_lt, lc_gt, lc_ge, lc_le, lc_eq, l6_le, l6_lt, l6_eq, tI_m133, tI_m226, i_le, i_lt, i_eq, tI_m12, tI_m11, tI_m1, tI_0, tI_1, tI_50] at c41); (try simp only [l_int, tL_0, tL_1, tL_2, tL_4, tL_5, tL_6, tL_7, tL_9, tL_10, tL_12, tL_15, tL_30, tL_40, tL_60, tL_99, tL_255, tL_1023, tL_m1, lc_lt, lc_gt, lc_ge, lc_le, lc_eq, l6_le, l6_lt, l6_eq, tI_m133, tI_m226, i_le, i_lt, i_eq, tI_m12, tI_m11, tI_m1, tI_0, tI_1, tI_50]); omega))]; exact ⟨rfl, rfl⟩⟩
      · skip
        show WS layM V 4 X σ 30 [(0, rf V 0), (1, .int f), (2, .int k)] []
        refine WS.bipush (v := (-11)) hx dX11_taken_30 (by decide) ?_
        exact WS.iret hx he dX11_taken_32 ⟨_, rfl, by (try dsimp only); rw [if_neg (fun h => h hA), if_pos (e1.mpr (by (try simp only [l_int, tL_0, tL_1, tL_2, tL_4, tL_5, tL_6, tL_7, tL_9, tL_10, tL_12, tL_15, tL_30, tL_40, tL_60, tL_99, tL_255, tL_1023, tL_m1, lc_lt, lc_gt, lc_ge, lc_le, lc_eq, l6_le, l6_lt, l6_eq, tI_m133, tI_m226, i_le, i_lt, i_eq, tI_m12, tI_m11, tI_m1, tI_0, tI_1, tI_50] at hb1); (try simp only [l_int, tL_0, tL_1, tL_2, tL_4, tL_5, tL_6, tL_7, tL_9, tL_10, tL_12, tL_15, tL_30, tL_40, tL_60, tL_99, tL_255, tL_1023, tL_m1, lc_lt, lc_gt, lc_ge, lc_le, lc_eq, l6_le, l6_lt, l6_eq, tI_m133, tI_m226, i_le, i_lt, i_eq, tI_m12, tI_m11, tI_m1, tI_0, tI_1, tI_50] at hb13); (try simp only [l_int, tL_0, tL_1, tL_2, tL_4, tL_5, tL_6, tL_7, tL_9, tL_10, tL_12, tL_15, tL_30, tL_40, tL_60, tL_99, tL_255, tL_1023, tL_m1, lc_lt, lc_gt, lc_ge, lc_le, lc_eq, l6_le, l6_lt, l6_eq, tI_m133, tI_m226, i_le, i_lt, i_eq, tI_m12, tI_m11, tI_m1, tI_0, tI_1, tI_50] at c27); (try simp only [l_int, tL_0, tL_1, tL_2, tL_4, tL_5, tL_6, tL_7, tL_9, tL_10, tL_12, tL_15, tL_30, tL_40, tL_60, tL_99, tL_255, tL_1023, tL_m1, lc_lt, lc_gt, lc_ge, lc_le, lc_eq, l6_le, l6_lt, l6_eq, tI_m133, tI_m226, i_le, i_lt, i_eq, tI_m12, tI_m11, tI_m1, tI_0, tI_1, tI_50]); omega))]; exact ⟨rfl, rfl⟩⟩
    · skip
      show WS layM V 4 X σ 16 [(0, rf V 0), (1, .int f), (2, .int k)] [.int 0]
      refine WS.if_ne (tgt := 21) hx dX11_taken_16 (by decide) (fun h => absurd (by decide) h) (fun _ => ?_)
      refine WS.iconst (v := (-1)) hx dX11_taken_19 (by decide) ?_
      exact WS.iret hx he dX11_taken_20 ⟨_, rfl, by (try dsimp only); rw [if_pos (fun h => by (try simp only [l_int, tL_0, tL_1, tL_2, tL_4, tL_5, tL_6, tL_7, tL_9, tL_10, tL_12, tL_15, tL_30, tL_40, tL_60, tL_99, tL_255, tL_1023, tL_m1, lc_lt, lc_gt, lc_ge, lc_le, lc_eq, l6_le, l6_lt, l6_eq, tI_m133, tI_m226, i_le, i_lt, i_eq, tI_m12, tI_m11, tI_m1, tI_0, tI_1, tI_50] at hb1); (try simp only [l_int, tL_0, tL_1, tL_2, tL_4, tL_5, tL_6, tL_7, tL_9, tL_10, tL_12, tL_15, tL_30, tL_40, tL_60, tL_99, tL_255, tL_1023, tL_m1, lc_lt, lc_gt, lc_ge, lc_le, lc_eq, l6_le, l6_lt, l6_eq, tI_m133, tI_m226, i_le, i_lt, i_eq, tI_m12, tI_m11, tI_m1, tI_0, tI_1, tI_50] at hb13); (try simp only [l_int, tL_0, tL_1, tL_2, tL_4, tL_5, tL_6, tL_7, tL_9, tL_10, tL_12, tL_15, tL_30, tL_40, tL_60, tL_99, tL_255, tL_1023, tL_m1, lc_lt, lc_gt, lc_ge, lc_le, lc_eq, l6_le, l6_lt, l6_eq, tI_m133, tI_m226, i_le, i_lt, i_eq, tI_m12, tI_m11, tI_m1, tI_0, tI_1, tI_50]); omega)]; exact ⟨rfl, rfl⟩⟩
  · skip
    show WS layM V 4 X σ 4 [(0, rf V 0), (1, .int f), (2, .int k)] [.int 0]
    refine WS.if_eq (tgt := 19) hx dX11_taken_4 (by decide) (fun _ => ?_) (fun h => absurd (by decide) h)
    refine WS.iconst (v := (-1)) hx dX11_taken_19 (by decide) ?_
    exact WS.iret hx he dX11_taken_20 ⟨_, rfl, by (try dsimp only); rw [if_pos (fun h => by (try simp only [l_int, tL_0, tL_1, tL_2, tL_4, tL_5, tL_6, tL_7, tL_9, tL_10, tL_12, tL_15, tL_30, tL_40, tL_60, tL_99, tL_255, tL_1023, tL_m1, lc_lt, lc_gt, lc_ge, lc_le, lc_eq, l6_le, l6_lt, l6_eq, tI_m133, tI_m226, i_le, i_lt, i_eq, tI_m12, tI_m11, tI_m1, tI_0, tI_1, tI_50] at hb1); (try simp only [l_int, tL_0, tL_1, tL_2, tL_4, tL_5, tL_6, tL_7, tL_9, tL_10, tL_12, tL_15, tL_30, tL_40, tL_60, tL_99, tL_255, tL_1023, tL_m1, lc_lt, lc_gt, lc_ge, lc_le, lc_eq, l6_le, l6_lt, l6_eq, tI_m133, tI_m226, i_le, i_lt, i_eq, tI_m12, tI_m11, tI_m1, tI_0, tI_1, tI_50]); omega)]; exact ⟨rfl, rfl⟩⟩
