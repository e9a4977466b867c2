set_option maxHeartbeats 1000000 in
theorem lp_X11_stepsTo (V : Vt) (d : Nat) (σ : Sg) (κ : Sg) (n : Nat) (hM : MR κ σ n) (f0 to : Nat) (hto : to < 16) (r : Option Nat) (X : Xt) (hx : Ok V RX11 cX11_stepsTo 5 d X) (he : En layM V (some .int) (Ro (oN r) σ) X) : ∀ (f s t : Nat), s + f = 16 → t < 16 → stp (Lc κ) to f s t = r → WS layM V 5 X σ 5 [(4, .int (nI s)), (3, .int (nI t)), (0, rf V 0), (1, .int (nI f0)), (2, .int (nI to))] [] := by
  intro f
  induction f with
  | zero =>
    intro s t hs ht hr
    have hsI : (nI s).toInt = (s : Int) := nI_c (by omega)
    refine WS.iload hx dX11_stepsTo_5 0 rfl ?_
    refine WS.bipush (v := 16) hx dX11_stepsTo_7 (by decide) ?_
    refine WS.icmp_ge (tgt := 36) hx dX11_stepsTo_9 (by decide) (fun c9 => ?_) (fun c9 => by exfalso; (try simp only [l_int, tL_0, tL_1, tL_2, tL_4, tL_5, tL_6, tL_7, tL_9, tL_10, tL_12, tL_15, tL_30, tL_40, tL_60, tL_99, tL_255, tL_1023, tL_m1, lc_lt, lc_gt, lc_ge, lc_le, lc_eq, l6_le, l6_lt, l6_eq, tI_m133, tI_m226, i_le, i_lt, i_eq, tI_m2, tI_0, tI_1, tI_16, tI_50] at c9); (try simp only [l_int, tL_0, tL_1, tL_2, tL_4, tL_5, tL_6, tL_7, tL_9, tL_10, tL_12, tL_15, tL_30, tL_40, tL_60, tL_99, tL_255, tL_1023, tL_m1, lc_lt, lc_gt, lc_ge, lc_le, lc_eq, l6_le, l6_lt, l6_eq, tI_m133, tI_m226, i_le, i_lt, i_eq, tI_m2, tI_0, tI_1, tI_16, tI_50]); omega)
    refine WS.bipush (v := (-2)) hx dX11_stepsTo_36 (by decide) ?_
    exact WS.iret hx he dX11_stepsTo_38 (Ro.i (by rw [← hr]; rfl))
  | succ f ih =>
    intro s t hs ht hr
    have hsI : (nI s).toInt = (s : Int) := nI_c (by omega)
    have htI : (nI t).toInt = (t : Int) := nI_c (by omega)
    have htoI : (nI to).toInt = (to : Int) := nI_c (by omega)
    have hL9 := hM.q.L ht
    unfold stp at hr
    refine WS.iload hx dX11_stepsTo_5 0 rfl ?_
    refine WS.bipush (v := 16) hx dX11_stepsTo_7 (by decide) ?_
    refine WS.icmp_ge (tgt := 36) hx dX11_stepsTo_9 (by decide) (fun c9 => by exfalso; (try simp only [l_int, tL_0, tL_1, tL_2, tL_4, tL_5, tL_6, tL_7, tL_9, tL_10, tL_12, tL_15, tL_30, tL_40, tL_60, tL_99, tL_255, tL_1023, tL_m1, lc_lt, lc_gt, lc_ge, lc_le, lc_eq, l6_le, l6_lt, l6_eq, tI_m133, tI_m226, i_le, i_lt, i_eq, tI_m2, tI_0, tI_1, tI_16, tI_50] at c9); (try simp only [l_int, tL_0, tL_1, tL_2, tL_4, tL_5, tL_6, tL_7, tL_9, tL_10, tL_12, tL_15, tL_30, tL_40, tL_60, tL_99, tL_255, tL_1023, tL_m1, lc_lt, lc_gt, lc_ge, lc_le, lc_eq, l6_le, l6_lt, l6_eq, tI_m133, tI_m226, i_le, i_lt, i_eq, tI_m2, tI_0, tI_1, tI_16, tI_50]); omega) (fun c9 => ?_)
    refine WS.iload_n hx dX11_stepsTo_12 rfl 1 rfl ?_
    refine WS.iload_n hx dX11_stepsTo_13 rfl 4 rfl ?_
    refine WS.icmp_ne (tgt := 20) hx dX11_stepsTo_14 (by decide) (fun c14 => ?_) (fun c14 => ?_)
    · skip
      show WS layM V 5 X σ 20 [(4, .int (nI s)), (3, .int (nI t)), (0, rf V 0), (1, .int (nI f0)), (2, .int (nI to))] []
      rw [if_neg (show ¬ t = to by (try simp only [l_int, tL_0, tL_1, tL_2, tL_4, tL_5, tL_6, tL_7, tL_9, tL_10, tL_12, tL_15, tL_30, tL_40, tL_60, tL_99, tL_255, tL_1023, tL_m1, lc_lt, lc_gt, lc_ge, lc_le, lc_eq, l6_le, l6_lt, l6_eq, tI_m133, tI_m226, i_le, i_lt, i_eq, tI_m2, tI_0, tI_1, tI_16, tI_50] at c9); (try simp only [l_int, tL_0, tL_1, tL_2, tL_4, tL_5, tL_6, tL_7, tL_9, tL_10, tL_12, tL_15, tL_30, tL_40, tL_60, tL_99, tL_255, tL_1023, tL_m1, lc_lt, lc_gt, lc_ge, lc_le, lc_eq, l6_le, l6_lt, l6_eq, tI_m133, tI_m226, i_le, i_lt, i_eq, tI_m2, tI_0, tI_1, tI_16, tI_50] at c14); (try simp only [l_int, tL_0, tL_1, tL_2, tL_4, tL_5, tL_6, tL_7, tL_9, tL_10, tL_12, tL_15, tL_30, tL_40, tL_60, tL_99, tL_255, tL_1023, tL_m1, lc_lt, lc_gt, lc_ge, lc_le, lc_eq, l6_le, l6_lt, l6_eq, tI_m133, tI_m226, i_le, i_lt, i_eq, tI_m2, tI_0, tI_1, tI_16, tI_50]); omega)] at hr
      refine WS.aload_n hx dX11_stepsTo_20 rfl 2 rfl ?_
      refine WS.getR hx okX11 lf11_9 rfl rfl dX11_stepsTo_21 ?_
      refine WS.bipush (v := 50) hx dX11_stepsTo_24 (by decide) ?_
      refine WS.iload_n hx dX11_stepsTo_26 rfl 1 rfl ?_
      refine WS.iadd hx dX11_stepsTo_27 ?_
      refine WS.as rfl rfl (congrArg (fun z => Value.int z :: _) (show 50 + (nI t) = nI (50 + t) from nI_add 50 t)) ?_
      skip
      refine WS.iald hx rfl (vp_in_nI (by omega) (by decide)) dX11_stepsTo_28 ?_
      refine WS.as rfl rfl (congrArg (fun z => Value.int z :: _) (show σ.1 1 (nn (nI (50 + t))) = nI (Lc κ t) from by rw [nn_nI (by omega), hM.L ht]; exact hL9.1)) ?_
      skip
      refine WS.istore_n (lo' := [(3, .int (nI (Lc κ t))), (4, .int (nI s)), (0, rf V 0), (1, .int (nI f0)), (2, .int (nI to))]) hx dX11_stepsTo_29 rfl (by decide) rfl ?_
      refine WS.iinc (v := nI (s + 1)) (lo' := [(4, .int (nI (s + 1))), (3, .int (nI (Lc κ t))), (0, rf V 0), (1, .int (nI f0)), (2, .int (nI to))]) hx dX11_stepsTo_30 1 rfl (nI_1 s) (by decide) rfl ?_
      refine WS.goto (tgt := 5) hx dX11_stepsTo_33 (by decide) ?_
      exact WS.los [0, 1, 2, 3, 4] rfl (ih (s + 1) (Lc κ t) (by omega) hL9.2 hr)
    · skip
      show WS layM V 5 X σ 17 [(4, .int (nI s)), (3, .int (nI t)), (0, rf V 0), (1, .int (nI f0)), (2, .int (nI to))] []
      rw [if_pos (show t = to by (try simp only [l_int, tL_0, tL_1, tL_2, tL_4, tL_5, tL_6, tL_7, tL_9, tL_10, tL_12, tL_15, tL_30, tL_40, tL_60, tL_99, tL_255, tL_1023, tL_m1, lc_lt, lc_gt, lc_ge, lc_le, lc_eq, l6_le, l6_lt, l6_eq, tI_m133, tI_m226, i_le, i_lt, i_eq, tI_m2, tI_0, tI_1, tI_16, tI_50] at c9); (try simp only [l_int, tL_0, tL_1, tL_2, tL_4, tL_5, tL_6, tL_7, tL_9, tL_10, tL_12, tL_15, tL_30, tL_40, tL_60, tL_99, tL_255, tL_1023, tL_m1, lc_lt, lc_gt, lc_ge, lc_le, lc_eq, l6_le, l6_lt, l6_eq, tI_m133, tI_m226, i_le, i_lt, i_eq, tI_m2, tI_0, tI_1, tI_16, tI_50] at c14); (try simp only [l_int, tL_0, tL_1, tL_2, tL_4, tL_5, tL_6, tL_7, tL_9, tL_10, tL_12, tL_15, tL_30, tL_40, tL_60, tL_99, tL_255, tL_1023, tL_m1, lc_lt, lc_gt, lc_ge, lc_le, lc_eq, l6_le, l6_lt, l6_eq, tI_m133, tI_m226, i_le, i_lt, i_eq, tI_m2, tI_0, tI_1, tI_16, tI_50]); omega)] at hr
      refine WS.iload hx dX11_stepsTo_17 0 rfl ?_
      exact WS.iret hx he dX11_stepsTo_19 (Ro.i (by rw [← hr]; rfl))
set_option maxHeartbeats 1000000 in
theorem c_X11_stepsTo (V : Vt) (d : Nat) (σ : Sg) (κ : Sg) (n : Nat) (hM : MR κ σ n) (f t : Nat) (hf : f < 16) (ht : t < 16) : CT layM V mX11_stepsTo (d) [rf V 0, .int (nI f), .int (nI t)] σ (Ro (oN (stp (Lc κ) t 16 0 f)) σ) := by
  refine CT.of (own := RX11) rfl (by decide) (Nat.le_of_ble_eq_true rfl) (fun X (hx : Ok V RX11 cX11_stepsTo 5 (d) X) (he : En layM V (some .int) (Ro (oN (stp (Lc κ) t 16 0 f)) σ) X) => ?_)
  change WS layM V 5 X σ 0 [(0, rf V 0), (1, .int (nI f)), (2, .int (nI t))] []
  refine WS.iload_n hx dX11_stepsTo_0 rfl 1 rfl ?_
  refine WS.istore_n (lo' := [(3, .int (nI f)), (0, rf V 0), (1, .int (nI f)), (2, .int (nI t))]) hx dX11_stepsTo_1 rfl (by decide) rfl ?_
  refine WS.iconst (v := 0) hx dX11_stepsTo_2 (by decide) ?_
  refine WS.istore (lo' := [(4, .int 0), (3, .int (nI f)), (0, rf V 0), (1, .int (nI f)), (2, .int (nI t))]) hx dX11_stepsTo_3 (by decide) rfl ?_
  exact WS.los [0, 1, 2, 3, 4] rfl (lp_X11_stepsTo V d σ κ n hM f t ht _ X hx he 16 0 f rfl hf rfl)
set_option maxHeartbeats 1000000 in
theorem c_X11_steps (V : Vt) (d : Nat) (σ : Sg) (κ : Sg) (n : Nat) (hM : MR κ σ n) (x y : Int32) : CT layM V mX11_steps (d + 2) [rf V 0, .int x, .int y] σ (Ri fun v σ' => if ¬ (0 ≤ x.toInt ∧ x.toInt ≤ 15 ∧ 0 ≤ y.toInt ∧ y.toInt ≤ 15) then v = -1 ∧ σ' = σ else v = oN (stp (Lc κ) (nn y) 16 0 (nn x)) ∧ σ' = σ) := by
  refine CT.of (own := RX11) rfl (by decide) (Nat.le_of_ble_eq_true rfl) (fun X (hx : Ok V RX11 cX11_steps 3 (d + 2) X) (he : En layM V (some .int) (Ri fun v σ' => if ¬ (0 ≤ x.toInt ∧ x.toInt ≤ 15 ∧ 0 ≤ y.toInt ∧ y.toInt ≤ 15) then v = -1 ∧ σ' = σ else v = oN (stp (Lc κ) (nn y) 16 0 (nn x)) ∧ σ' = σ) X) => ?_)
  change WS layM V 3 X σ 0 [(0, rf V 0), (1, .int x), (2, .int y)] []
  have hn := hM.n
  have hs := hM.s
  refine WS.iload_n hx dX11_steps_0 rfl 1 rfl ?_
  refine WS.i2l hx dX11_steps_1 ?_
  refine WS.callSi (st := []) [.long (Int32.toInt64 x)] hx (c_X11_isThought V d σ (Int32.toInt64 x)) okX11_isThought lm11_108 rfl rfl (Nat.le_of_ble_eq_true rfl) dX11_steps_2 (fun v1 σ2 h3 => ?_)
  rcases h3 with ⟨rfl, rfl, hb2⟩ | ⟨rfl, rfl, hb2⟩
  · skip
    show WS layM V 3 X σ 5 [(0, rf V 0), (1, .int x), (2, .int y)] [.int 1]
    have hxx0 : 0 ≤ x.toInt ∧ x.toInt ≤ 15 := by have h9 := hb2; simp only [l_int] at h9; exact h9
    have hxx : nn x < 16 := by have := nn_int hxx0.1; omega
    refine WS.if_eq (tgt := 25) hx dX11_steps_5 (by decide) (fun h => absurd h (by decide)) (fun _ => ?_)
    refine WS.iload_n hx dX11_steps_8 rfl 2 rfl ?_
    refine WS.i2l hx dX11_steps_9 ?_
    refine WS.callSi (st := []) [.long (Int32.toInt64 y)] hx (c_X11_isThought V d σ (Int32.toInt64 y)) okX11_isThought lm11_108 rfl rfl (Nat.le_of_ble_eq_true rfl) dX11_steps_10 (fun v4 σ5 h6 => ?_)
    rcases h6 with ⟨rfl, rfl, hb10⟩ | ⟨rfl, rfl, hb10⟩
    · skip
      show WS layM V 3 X σ 13 [(0, rf V 0), (1, .int x), (2, .int y)] [.int 1]
      have hyy0 : 0 ≤ y.toInt ∧ y.toInt ≤ 15 := by have h9 := hb10; simp only [l_int] at h9; exact h9
      have hyy : nn y < 16 := by have := nn_int hyy0.1; omega
      refine WS.if_eq (tgt := 25) hx dX11_steps_13 (by decide) (fun h => absurd h (by decide)) (fun _ => ?_)
      refine WS.aload_n hx dX11_steps_16 rfl 0 rfl ?_
      refine WS.iload_n hx dX11_steps_17 rfl 1 rfl ?_
      refine WS.as rfl rfl (congrArg (fun z => Value.int z :: _) (show x = nI (nn x) from (nI_nn hxx0.1).symm)) ?_
      skip
      refine WS.iload_n hx dX11_steps_18 rfl 2 rfl ?_
      refine WS.as rfl rfl (congrArg (fun z => Value.int z :: _) (show y = nI (nn y) from (nI_nn hyy0.1).symm)) ?_
      skip
      refine WS.callVi (st := []) [.int (nI (nn x)), .int (nI (nn y))] hx (c_X11_stepsTo V (d + 1) σ κ n hM (nn x) (nn y) hxx hyy) okX11_stepsTo lm11_251 rfl rfl rfl rfl (Nat.le_of_ble_eq_true rfl) dX11_steps_19 (fun v7 σ8 h9 => ?_)
      obtain ⟨rfl, rfl⟩ := h9
      show WS layM V 3 X σ 22 [(0, rf V 0), (1, .int x), (2, .int y)] [.int (oN (stp (Lc κ) (nn y) 16 0 (nn x)))]
      refine WS.goto (tgt := 26) hx dX11_steps_22 (by decide) ?_
      exact WS.iret hx he dX11_steps_26 ⟨_, rfl, by (try simp only [l_int, tL_0, tL_1, tL_2, tL_4, tL_5, tL_6, tL_7, tL_9, tL_10, tL_12, tL_15, tL_30, tL_40, tL_60, tL_99, tL_255, tL_1023, tL_m1, lc_lt, lc_gt, lc_ge, lc_le, lc_eq, l6_le, l6_lt, l6_eq, tI_m133, tI_m226, i_le, i_lt, i_eq, tI_m1, tI_0, tI_1] at hb2); (try simp only [l_int, tL_0, tL_1, tL_2, tL_4, tL_5, tL_6, tL_7, tL_9, tL_10, tL_12, tL_15, tL_30, tL_40, tL_60, tL_99, tL_255, tL_1023, tL_m1, lc_lt, lc_gt, lc_ge, lc_le, lc_eq, l6_le, l6_lt, l6_eq, tI_m133, tI_m226, i_le, i_lt, i_eq, tI_m1, tI_0, tI_1] at hb10); (repeat' split) <;> first | (exfalso; omega) | exact ⟨rfl, rfl⟩⟩
    · skip
      show WS layM V 3 X σ 13 [(0, rf V 0), (1, .int x), (2, .int y)] [.int 0]
      refine WS.if_eq (tgt := 25) hx dX11_steps_13 (by decide) (fun _ => ?_) (fun h => absurd (by decide) h)
      refine WS.iconst (v := (-1)) hx dX11_steps_25 (by decide) ?_
      exact WS.iret hx he dX11_steps_26 ⟨_, rfl, by (try simp only [l_int, tL_0, tL_1, tL_2, tL_4, tL_5, tL_6, tL_7, tL_9, tL_10, tL_12, tL_15, tL_30, tL_40, tL_60, tL_99, tL_255, tL_1023, tL_m1, lc_lt, lc_gt, lc_ge, lc_le, lc_eq, l6_le, l6_lt, l6_eq, tI_m133, tI_m226, i_le, i_lt, i_eq, tI_m1, tI_0, tI_1] at hb2); (try simp only [l_int, tL_0, tL_1, tL_2, tL_4, tL_5, tL_6, tL_7, tL_9, tL_10, tL_12, tL_15, tL_30, tL_40, tL_60, tL_99, tL_255, tL_1023, tL_m1, lc_lt, lc_gt, lc_ge, lc_le, lc_eq, l6_le, l6_lt, l6_eq, tI_m133, tI_m226, i_le, i_lt, i_eq, tI_m1, tI_0, tI_1] at hb10); (repeat' split) <;> first | (exfalso; omega) | exact ⟨rfl, rfl⟩⟩
  · skip
    show WS layM V 3 X σ 5 [(0, rf V 0), (1, .int x), (2, .int y)] [.int 0]
    refine WS.if_eq (tgt := 25) hx dX11_steps_5 (by decide) (fun _ => ?_) (fun h => absurd (by decide) h)
    refine WS.iconst (v := (-1)) hx dX11_steps_25 (by decide) ?_
    exact WS.iret hx he dX11_steps_26 ⟨_, rfl, by (try simp only [l_int, tL_0, tL_1, tL_2, tL_4, tL_5, tL_6, tL_7, tL_9, tL_10, tL_12, tL_15, tL_30, tL_40, tL_60, tL_99, tL_255, tL_1023, tL_m1, lc_lt, lc_gt, lc_ge, lc_le, lc_eq, l6_le, l6_lt, l6_eq, tI_m133, tI_m226, i_le, i_lt, i_eq, tI_m1, tI_0, tI_1] at hb2); (repeat' split) <;> first | (exfalso; omega) | exact ⟨rfl, rfl⟩⟩
theorem oN_lt {L : Nat → Nat} {to f : Nat} : (oN (stp L to 16 0 f) < 0 ↔ (stp L to 16 0 f).isSome = false) ∧ ∀ s, stp L to 16 0 f = some s → s < 16 := by
  cases h : stp L to 16 0 f with
  | none => exact ⟨⟨fun _ => rfl, fun _ => by show (-2 : Int32) < 0; decide⟩, fun s hs => by cases hs⟩
  | some s =>
    have h9 := stp_lt 16 0 f s h
    refine ⟨⟨fun h2 => absurd h2 (nI_pos (by omega)), fun h2 => by simp at h2⟩, fun s2 hs => ?_⟩
    injection hs with e
    omega
def rgM (L : Nat → Nat) (t : Nat) : Nat := match stp L t 16 0 (L t) with
  | some s => s + 1
  | none => 0
set_option maxHeartbeats 1000000 in
theorem c_X11_ringOf (V : Vt) (d : Nat) (σ : Sg) (κ : Sg) (n : Nat) (hM : MR κ σ n) (t : Nat) (ht : t < 16) : CT layM V mX11_ringOf (d + 1) [rf V 0, .int (nI t)] σ (Ro (nI (rgM (Lc κ) t)) σ) := by
  refine CT.of (own := RX11) rfl (by decide) (Nat.le_of_ble_eq_true rfl) (fun X (hx : Ok V RX11 cX11_ringOf 3 (d + 1) X) (he : En layM V (some .int) (Ro (nI (rgM (Lc κ) t)) σ) X) => ?_)
  change WS layM V 3 X σ 0 [(0, rf V 0), (1, .int (nI t))] []
  have hL9 := hM.q.L ht
  have hol := oN_lt (L := Lc κ) (to := t) (f := Lc κ t)
  refine WS.aload_n hx dX11_ringOf_0 rfl 0 rfl ?_
  refine WS.aload_n hx dX11_ringOf_1 rfl 0 rfl ?_
  refine WS.getR hx okX11 lf11_9 rfl rfl dX11_ringOf_2 ?_
  refine WS.bipush (v := 50) hx dX11_ringOf_5 (by decide) ?_
  refine WS.iload_n hx dX11_ringOf_7 rfl 1 rfl ?_
  refine WS.iadd hx dX11_ringOf_8 ?_
  refine WS.as rfl rfl (congrArg (fun z => Value.int z :: _) (show 50 + (nI t) = nI (50 + t) from nI_add 50 t)) ?_
  skip
  refine WS.iald hx rfl (vp_in_nI (by omega) (by decide)) dX11_ringOf_9 ?_
  refine WS.as rfl rfl (congrArg (fun z => Value.int z :: _) (show σ.1 1 (nn (nI (50 + t))) = nI (Lc κ t) from by rw [nn_nI (by omega), hM.L ht]; exact hL9.1)) ?_
  skip
  refine WS.iload_n hx dX11_ringOf_10 rfl 1 rfl ?_
  refine WS.callVi (st := []) [.int (nI (Lc κ t)), .int (nI t)] hx (c_X11_stepsTo V d σ κ n hM (Lc κ t) t hL9.2 ht) okX11_stepsTo lm11_251 rfl rfl rfl rfl (Nat.le_of_ble_eq_true rfl) dX11_ringOf_11 (fun v1 σ2 h3 => ?_)
  obtain ⟨rfl, rfl⟩ := h3
  show WS layM V 3 X σ 14 [(0, rf V 0), (1, .int (nI t))] [.int (oN (stp (Lc κ) t 16 0 (Lc κ t)))]
  refine WS.istore_n (lo' := [(2, .int (oN (stp (Lc κ) t 16 0 (Lc κ t)))), (0, rf V 0), (1, .int (nI t))]) hx dX11_ringOf_14 rfl (by decide) rfl ?_
  refine WS.iload_n hx dX11_ringOf_15 rfl 0 rfl ?_
  refine WS.if_ge (tgt := 23) hx dX11_ringOf_16 (by decide) (fun c16 => ?_) (fun c16 => ?_)
  · skip
    show WS layM V 3 X σ 23 [(2, .int (oN (stp (Lc κ) t 16 0 (Lc κ t)))), (0, rf V 0), (1, .int (nI t))] []
    refine WS.iload_n hx dX11_ringOf_23 rfl 0 rfl ?_
    refine WS.iconst (v := 1) hx dX11_ringOf_24 (by decide) ?_
    refine WS.iadd hx dX11_ringOf_25 ?_
    exact WS.iret hx he dX11_ringOf_26 (Ro.i (by unfold rgM; revert c16; cases h9 : stp (Lc κ) t 16 0 (Lc κ t) with | none => intro c16; exact absurd c16 (by decide) | some s => intro c16; exact (nI_1 s).symm))
  · skip
    show WS layM V 3 X σ 19 [(2, .int (oN (stp (Lc κ) t 16 0 (Lc κ t)))), (0, rf V 0), (1, .int (nI t))] []
    refine WS.iconst (v := 0) hx dX11_ringOf_19 (by decide) ?_
    refine WS.goto (tgt := 26) hx dX11_ringOf_20 (by decide) ?_
    exact WS.iret hx he dX11_ringOf_26 (Ro.i (by unfold rgM; revert c16; cases h9 : stp (Lc κ) t 16 0 (Lc κ t) with | none => intro c16; rfl | some s => intro c16; exact absurd (nI_pos' (by have := hol.2 s h9; omega)) c16))
theorem pig : ∀ (n : Nat) (f : Nat → Nat), (∀ i, i ≤ n → f i < n) → ∃ i j, i < j ∧ j ≤ n ∧ f i = f j
  | 0, f, h => absurd (h 0 (Nat.le_refl 0)) (Nat.not_lt_zero _)
  | n + 1, f, h => by
    by_cases hx : ∃ i, i ≤ n ∧ f i = f (n + 1)
    · obtain ⟨i, hi, e⟩ := hx
      exact ⟨i, n + 1, by omega, by omega, e⟩
    · have hne : ∀ i, i ≤ n → f i ≠ f (n + 1) := fun i hi e => hx ⟨i, hi, e⟩
      obtain ⟨i, j, h1, h2, h3⟩ := pig n (fun i => if f i = n then f (n + 1) else f i) (fun i hi => by
        have a := h i (by omega)
        have b := h (n + 1) (by omega)
        have c := hne i hi
        (try dsimp only)
        split <;> omega)
      refine ⟨i, j, h1, by omega, ?_⟩
      have a := hne i (by omega)
      have b := hne j (by omega)
      (try dsimp only at h3)
      split at h3 <;> split at h3 <;> omega
theorem itr_add (L : Nat → Nat) : ∀ (a b t : Nat), itr L (a + b) t = itr L b (itr L a t)
  | 0, b, t => by rw [Nat.zero_add]; rfl
  | a + 1, b, t => by
    rw [show a + 1 + b = (a + b) + 1 by omega]
    show itr L (a + b) (L t) = itr L b (itr L a (L t))
    exact itr_add L a b (L t)
theorem stp_some {L : Nat → Nat} {to : Nat} : ∀ (f s t r : Nat), stp L to f s t = some r → s ≤ r ∧ r < s + f ∧ itr L (r - s) t = to ∧ ∀ j, j < r - s → itr L j t ≠ to
  | 0, _, _, _, h => by cases h
  | f + 1, s, t, r, h => by
    unfold stp at h
    by_cases e : t = to
    · rw [if_pos e] at h
      injection h with h
      subst h
      refine ⟨by omega, by omega, by rw [Nat.sub_self]; exact e, fun j hj => by omega⟩
    · rw [if_neg e] at h
      obtain ⟨a, b, c, g⟩ := stp_some f (s + 1) (L t) r h
      refine ⟨by omega, by omega, ?_, fun j hj => ?_⟩
      · rw [show r - s = (r - (s + 1)) + 1 by omega]
        exact c
      · cases j with
        | zero => exact e
        | succ j => exact g j (by omega)
theorem stp_ex {L : Nat → Nat} {to : Nat} : ∀ (f s t j : Nat), j < f → itr L j t = to → ∃ r, stp L to f s t = some r ∧ r ≤ s + j
  | 0, _, _, _, h, _ => absurd h (Nat.not_lt_zero _)
  | f + 1, s, t, j, h, e => by
    unfold stp
    by_cases e2 : t = to
    · exact ⟨s, if_pos e2, by omega⟩
    · rw [if_neg e2]
      cases j with
      | zero => exact absurd e e2
      | succ j =>
        obtain ⟨r, h1, h2⟩ := stp_ex f (s + 1) (L t) j (by omega) e
        exact ⟨r, h1, by omega⟩
/-- t comes back to itself -/
def inR (L : Nat → Nat) (t : Nat) : Bool := (stp L t 16 0 (L t)).isSome
theorem inR_of {L : Nat → Nat} {t p : Nat} (h1 : 1 ≤ p) (h2 : p ≤ 16) (h : itr L p t = t) : inR L t = true := by
  obtain ⟨r, hr, -⟩ := stp_ex (L := L) (to := t) 16 0 (L t) (p - 1) (by omega) (by rw [show itr L (p - 1) (L t) = itr L (p - 1 + 1) t from rfl, show p - 1 + 1 = p by omega]; exact h)
  unfold inR
  rw [hr]; rfl
theorem ring_ex {L : Nat → Nat} (hL : ∀ a, a < 16 → L a < 16) {x : Nat} (hx : x < 16) : ∃ m, m < 16 ∧ inR L (itr L m x) = true := by
  obtain ⟨i, j, h1, h2, h3⟩ := pig 16 (fun i => itr L i x) (fun i _ => itr_lt hL i x hx)
  refine ⟨i, by omega, inR_of (p := j - i) (by omega) (by omega) ?_⟩
  rw [← itr_add, show i + (j - i) = j by omega]
  exact h3.symm
def rnF (L : Nat → Nat) : Nat → Nat → Nat
  | 0, a => a
  | u + 1, a => if inR L a = true then a else rnF L u (L a)
theorem rgM_p {L : Nat → Nat} {t : Nat} (h : inR L t = true) : 1 ≤ rgM L t ∧ itr L (rgM L t) t = t ∧ ∀ p, 1 ≤ p → itr L p t = t → rgM L t ≤ p := by
  unfold inR at h
  obtain ⟨s, hs⟩ := Option.isSome_iff_exists.mp h
  obtain ⟨a, b, c, g⟩ := stp_some 16 0 (L t) s hs
  have e : rgM L t = s + 1 := by unfold rgM; rw [hs]
  rw [e]
  refine ⟨by omega, c, fun p hp hq => ?_⟩
  apply Classical.byContradiction
  intro hlt
  exact g (p - 1) (by omega) (by rw [show itr L (p - 1) (L t) = itr L (p - 1 + 1) t from rfl, show p - 1 + 1 = p by omega]; exact hq)
theorem itr_mul (L : Nat → Nat) {p t : Nat} (h : itr L p t = t) : ∀ k, itr L (p * k) t = t
  | 0 => rfl
  | k + 1 => by rw [Nat.mul_succ, itr_add, itr_mul L h k, h]
theorem rg_itr {L : Nat → Nat} {a m : Nat} (ha : inR L a = true) (hr : inR L (itr L m a) = true) : rgM L (itr L m a) = rgM L a := by
  obtain ⟨a1, a2, a3⟩ := rgM_p ha
  obtain ⟨b1, b2, b3⟩ := rgM_p hr
  apply Nat.le_antisymm
  · exact b3 _ a1 (by rw [← itr_add, Nat.add_comm, itr_add, a2])
  · refine a3 _ b1 ?_
    have hk : itr L (rgM L a * m - m) (itr L m a) = a := by
      rw [← itr_add, show m + (rgM L a * m - m) = rgM L a * m by have := Nat.le_mul_of_pos_left m (show 0 < rgM L a by omega); omega]
      exact itr_mul L a2 m
    generalize hz : itr L m a = z at *
    rw [← hk, ← itr_add, Nat.add_comm, itr_add, b2]
theorem rnF_sp {L : Nat → Nat} : ∀ (u a m : Nat), m < u → inR L (itr L m a) = true → inR L (rnF L u a) = true ∧ ∃ i, i ≤ m ∧ rnF L u a = itr L i a
  | 0, _, _, h, _ => absurd h (Nat.not_lt_zero _)
  | u + 1, a, m, h, hr => by
    unfold rnF
    by_cases e : inR L a = true
    · rw [if_pos e]; exact ⟨e, 0, by omega, rfl⟩
    · rw [if_neg e]
      cases m with
      | zero => exact absurd hr e
      | succ m =>
        obtain ⟨h1, i, h2, h3⟩ := rnF_sp u (L a) m (by omega) hr
        exact ⟨h1, i + 1, by omega, h3⟩
theorem inR_itr {L : Nat → Nat} (hL : ∀ a, a < 16 → L a < 16) {a : Nat} (ha : a < 16) (m : Nat) (h : inR L a = true) : inR L (itr L m a) = true := by
  obtain ⟨a1, a2, a3⟩ := rgM_p h
  have h16 : rgM L a ≤ 16 := by
    unfold inR at h
    obtain ⟨s, hs⟩ := Option.isSome_iff_exists.mp h
    have := (oN_lt (L := L) (to := a) (f := L a)).2 s hs
    unfold rgM; rw [hs]; show s + 1 ≤ 16; omega
  exact inR_of a1 h16 (by rw [← itr_add, Nat.add_comm, itr_add, a2])
theorem ring_eq {L : Nat → Nat} (hL : ∀ a, a < 16 → L a < 16) {x : Nat} (hx : x < 16) : nI (rgM L (rnF L 16 x)) = ringC L x := by
  obtain ⟨m, hm, hr⟩ := ring_ex hL hx
  obtain ⟨h1, i, h2, h3⟩ := rnF_sp 16 x m (by omega) hr
  have e : itr L 16 x = itr L (16 - i) (rnF L 16 x) := by rw [h3, ← itr_add, show i + (16 - i) = 16 by omega]
  have h4 : inR L (itr L 16 x) = true := by rw [e]; exact inR_itr hL (by rw [h3]; exact itr_lt hL i x hx) _ h1
  have h5 : rgM L (itr L 16 x) = rgM L (rnF L 16 x) := by rw [e] at h4 ⊢; exact rg_itr h1 h4
  rw [← h5]
  unfold ringC rgM
  unfold inR at h4
  obtain ⟨s, hs⟩ := Option.isSome_iff_exists.mp h4
  rw [hs]
  exact (nI_1 s).symm
set_option maxHeartbeats 1000000 in
theorem lp_X11_net (V : Vt) (d : Nat) (σ : Sg) (κ : Sg) (n : Nat) (hM : MR κ σ n) (x q : Int32) (P : Int32 → Sg → Prop) (v0 : Int32) (X : Xt) (hx : Ok V RX11 cX11_net 5 (d + 2) X) (he : En layM V (some .int) (Ri P) X) (hP : P v0 σ) : ∀ (u s a : Nat), s + u ≤ 16 → a < 16 → (∃ m, m < u ∧ inR (Lc κ) (itr (Lc κ) m a) = true) → (if q.toInt = 1 then nI (rgM (Lc κ) (rnF (Lc κ) u a)) else nI (ahd (Lc κ) u s a)) = v0 → WS layM V 5 X σ 72 [(4, .int (nI s)), (3, .int (nI a)), (0, rf V 0), (1, .int x), (2, .int q)] [] := by
  intro u
  induction u with
  | zero =>
    intro s a hs ha hm hv
    obtain ⟨m, hm, -⟩ := hm
    exact absurd hm (Nat.not_lt_zero _)
  | succ u ih =>
    intro s a hs ha hm hv
    have hL9 := hM.q.L ha
    unfold rnF ahd at hv
    have hrg : nI (rgM (Lc κ) a) = 0 ↔ ¬ inR (Lc κ) a = true := by
      unfold rgM inR
      cases h9 : stp (Lc κ) a 16 0 (Lc κ a) with
      | none => exact ⟨fun _ => by simp, fun _ => rfl⟩
      | some s => exact ⟨fun h => absurd (show nI (s + 1) = 0 from h) (nI_ne0 (by omega) (by have := (oN_lt (L := Lc κ) (to := a) (f := Lc κ a)).2 s h9; omega)), fun h => by simp at h⟩
    refine WS.aload_n hx dX11_net_72 rfl 2 rfl ?_
    refine WS.iload_n hx dX11_net_73 rfl 1 rfl ?_
    refine WS.callVi (st := []) [.int (nI a)] hx (c_X11_ringOf V d σ κ n hM a ha) okX11_ringOf lm11_256 rfl rfl rfl rfl (Nat.le_of_ble_eq_true rfl) dX11_net_74 (fun v1 σ2 h3 => ?_)
    obtain ⟨rfl, rfl⟩ := h3
    show WS layM V 5 X σ 77 [(4, .int (nI s)), (3, .int (nI a)), (0, rf V 0), (1, .int x), (2, .int q)] [.int (nI (rgM (Lc κ) a))]
    refine WS.if_ne (tgt := 96) hx dX11_net_77 (by decide) (fun c77 => ?_) (fun c77 => ?_)
    · skip
      show WS layM V 5 X σ 96 [(4, .int (nI s)), (3, .int (nI a)), (0, rf V 0), (1, .int x), (2, .int q)] []
      have hin : inR (Lc κ) a = true := Classical.byContradiction (fun h => c77 (hrg.mpr h))
      rw [if_pos hin, if_pos (show (stp (Lc κ) a 16 0 (Lc κ a)).isSome = true from hin)] at hv
      refine WS.iload_n hx dX11_net_96 rfl 4 rfl ?_
      refine WS.iconst (v := 1) hx dX11_net_97 (by decide) ?_
      refine WS.icmp_ne (tgt := 109) hx dX11_net_98 (by decide) (fun c98 => ?_) (fun c98 => ?_)
      · skip
        show WS layM V 5 X σ 109 [(4, .int (nI s)), (3, .int (nI a)), (0, rf V 0), (1, .int x), (2, .int q)] []
        refine WS.iload hx dX11_net_109 0 rfl ?_
        exact WS.iret hx he dX11_net_111 ⟨_, rfl, by rw [if_neg (by (try simp only [l_int, tL_0, tL_1, tL_2, tL_4, tL_5, tL_6, tL_7, tL_9, tL_10, tL_12, tL_15, tL_30, tL_40, tL_60, tL_99, tL_255, tL_1023, tL_m1, lc_lt, lc_gt, lc_ge, lc_le, lc_eq, l6_le, l6_lt, l6_eq, tI_m133, tI_m226, i_le, i_lt, i_eq, tI_m1, tI_0, tI_1, tI_16, tI_50] at c77); (try simp only [l_int, tL_0, tL_1, tL_2, tL_4, tL_5, tL_6, tL_7, tL_9, tL_10, tL_12, tL_15, tL_30, tL_40, tL_60, tL_99, tL_255, tL_1023, tL_m1, lc_lt, lc_gt, lc_ge, lc_le, lc_eq, l6_le, l6_lt, l6_eq, tI_m133, tI_m226, i_le, i_lt, i_eq, tI_m1, tI_0, tI_1, tI_16, tI_50] at c98); (try simp only [l_int, tL_0, tL_1, tL_2, tL_4, tL_5, tL_6, tL_7, tL_9, tL_10, tL_12, tL_15, tL_30, tL_40, tL_60, tL_99, tL_255, tL_1023, tL_m1, lc_lt, lc_gt, lc_ge, lc_le, lc_eq, l6_le, l6_lt, l6_eq, tI_m133, tI_m226, i_le, i_lt, i_eq, tI_m1, tI_0, tI_1, tI_16, tI_50]); omega)] at hv; rw [hv]; exact hP⟩
      · skip
        show WS layM V 5 X σ 101 [(4, .int (nI s)), (3, .int (nI a)), (0, rf V 0), (1, .int x), (2, .int q)] []
        refine WS.aload_n hx dX11_net_101 rfl 2 rfl ?_
        refine WS.iload_n hx dX11_net_102 rfl 1 rfl ?_
        refine WS.callVi (st := []) [.int (nI a)] hx (c_X11_ringOf V d σ κ n hM a ha) okX11_ringOf lm11_256 rfl rfl rfl rfl (Nat.le_of_ble_eq_true rfl) dX11_net_103 (fun v4 σ5 h6 => ?_)
        obtain ⟨rfl, rfl⟩ := h6
        show WS layM V 5 X σ 106 [(4, .int (nI s)), (3, .int (nI a)), (0, rf V 0), (1, .int x), (2, .int q)] [.int (nI (rgM (Lc κ) a))]
        refine WS.goto (tgt := 111) hx dX11_net_106 (by decide) ?_
        exact WS.iret hx he dX11_net_111 ⟨_, rfl, by rw [if_pos (by (try simp only [l_int, tL_0, tL_1, tL_2, tL_4, tL_5, tL_6, tL_7, tL_9, tL_10, tL_12, tL_15, tL_30, tL_40, tL_60, tL_99, tL_255, tL_1023, tL_m1, lc_lt, lc_gt, lc_ge, lc_le, lc_eq, l6_le, l6_lt, l6_eq, tI_m133, tI_m226, i_le, i_lt, i_eq, tI_m1, tI_0, tI_1, tI_16, tI_50] at c77); (try simp only [l_int, tL_0, tL_1, tL_2, tL_4, tL_5, tL_6, tL_7, tL_9, tL_10, tL_12, tL_15, tL_30, tL_40, tL_60, tL_99, tL_255, tL_1023, tL_m1, lc_lt, lc_gt, lc_ge, lc_le, lc_eq, l6_le, l6_lt, l6_eq, tI_m133, tI_m226, i_le, i_lt, i_eq, tI_m1, tI_0, tI_1, tI_16, tI_50] at c98); (try simp only [l_int, tL_0, tL_1, tL_2, tL_4, tL_5, tL_6, tL_7, tL_9, tL_10, tL_12, tL_15, tL_30, tL_40, tL_60, tL_99, tL_255, tL_1023, tL_m1, lc_lt, lc_gt, lc_ge, lc_le, lc_eq, l6_le, l6_lt, l6_eq, tI_m133, tI_m226, i_le, i_lt, i_eq, tI_m1, tI_0, tI_1, tI_16, tI_50]); omega)] at hv; rw [hv]; exact hP⟩
    · skip
      show WS layM V 5 X σ 80 [(4, .int (nI s)), (3, .int (nI a)), (0, rf V 0), (1, .int x), (2, .int q)] []
      rw [if_neg (hrg.mp c77), if_neg (show ¬ (stp (Lc κ) a 16 0 (Lc κ a)).isSome = true from hrg.mp c77)] at hv
      refine WS.aload_n hx dX11_net_80 rfl 2 rfl ?_
      refine WS.getR hx okX11 lf11_9 rfl rfl dX11_net_81 ?_
      refine WS.bipush (v := 50) hx dX11_net_84 (by decide) ?_
      refine WS.iload_n hx dX11_net_86 rfl 1 rfl ?_
      refine WS.iadd hx dX11_net_87 ?_
      refine WS.as rfl rfl (congrArg (fun z => Value.int z :: _) (show 50 + (nI a) = nI (50 + a) from nI_add 50 a)) ?_
      skip
      refine WS.iald hx rfl (vp_in_nI (by omega) (by decide)) dX11_net_88 ?_
      refine WS.as rfl rfl (congrArg (fun z => Value.int z :: _) (show σ.1 1 (nn (nI (50 + a))) = nI (Lc κ a) from by rw [nn_nI (by omega), hM.L ha]; exact hL9.1)) ?_
      skip
      refine WS.istore_n (lo' := [(3, .int (nI (Lc κ a))), (4, .int (nI s)), (0, rf V 0), (1, .int x), (2, .int q)]) hx dX11_net_89 rfl (by decide) rfl ?_
      refine WS.iinc (v := nI (s + 1)) (lo' := [(4, .int (nI (s + 1))), (3, .int (nI (Lc κ a))), (0, rf V 0), (1, .int x), (2, .int q)]) hx dX11_net_90 1 rfl (nI_1 s) (by decide) rfl ?_
      refine WS.goto (tgt := 72) hx dX11_net_93 (by decide) ?_
      obtain ⟨m, hm1, hm2⟩ := hm
      cases m with
      | zero => exact absurd hm2 (hrg.mp c77)
      | succ m => exact WS.los [0, 1, 2, 3, 4] rfl (ih (s + 1) (Lc κ a) (by omega) hL9.2 ⟨m, by omega, hm2⟩ hv)
set_option maxHeartbeats 1000000 in
theorem lo_X11_net (V : Vt) (d : Nat) (σ : Sg) (κ : Sg) (n : Nat) (hM : MR κ σ n) (x q : Int32) (hx0 : 0 ≤ x.toInt ∧ x.toInt ≤ 15) (P : Int32 → Sg → Prop) (X : Xt) (hx : Ok V RX11 cX11_net 5 (d + 2) X) (he : En layM V (some .int) (Ri P) X) (hP : P (orW (fun j => (stp (Lc κ) (nn x) 16 0 j).isSome) nI 16) σ) : ∀ (i : Nat), i ≤ 16 → WS layM V 5 X σ 31 [(4, .int (nI i)), (3, .int (orW (fun j => (stp (Lc κ) (nn x) 16 0 j).isSome) nI i)), (0, rf V 0), (1, .int x), (2, .int q)] [] := by
  have hxn : nn x < 16 := by have := nn_int hx0.1; omega
  intro i
  induction hm : 16 - i using Nat.strongRecOn generalizing i with
  | _ m9 ih =>
    intro hi
    have hiI : (nI i).toInt = (i : Int) := nI_c (by omega)
    refine WS.iload hx dX11_net_31 0 rfl ?_
    refine WS.bipush (v := 16) hx dX11_net_33 (by decide) ?_
    refine WS.icmp_ge (tgt := 65) hx dX11_net_35 (by decide) (fun c35 => ?_) (fun c35 => ?_)
    · skip
      show WS layM V 5 X σ 65 [(4, .int (nI i)), (3, .int (orW (fun j => (stp (Lc κ) (nn x) 16 0 j).isSome) nI i)), (0, rf V 0), (1, .int x), (2, .int q)] []
      refine WS.iload_n hx dX11_net_65 rfl 1 rfl ?_
      exact WS.iret hx he dX11_net_66 ⟨_, rfl, by rw [show i = 16 by (try simp only [l_int, tL_0, tL_1, tL_2, tL_4, tL_5, tL_6, tL_7, tL_9, tL_10, tL_12, tL_15, tL_30, tL_40, tL_60, tL_99, tL_255, tL_1023, tL_m1, lc_lt, lc_gt, lc_ge, lc_le, lc_eq, l6_le, l6_lt, l6_eq, tI_m133, tI_m226, i_le, i_lt, i_eq, tI_m1, tI_0, tI_1, tI_16, tI_50] at c35); (try simp only [l_int, tL_0, tL_1, tL_2, tL_4, tL_5, tL_6, tL_7, tL_9, tL_10, tL_12, tL_15, tL_30, tL_40, tL_60, tL_99, tL_255, tL_1023, tL_m1, lc_lt, lc_gt, lc_ge, lc_le, lc_eq, l6_le, l6_lt, l6_eq, tI_m133, tI_m226, i_le, i_lt, i_eq, tI_m1, tI_0, tI_1, tI_16, tI_50]); omega]; exact hP⟩
    · skip
      show WS layM V 5 X σ 38 [(4, .int (nI i)), (3, .int (orW (fun j => (stp (Lc κ) (nn x) 16 0 j).isSome) nI i)), (0, rf V 0), (1, .int x), (2, .int q)] []
      refine WS.iload_n hx dX11_net_38 rfl 1 rfl ?_
      refine WS.aload_n hx dX11_net_39 rfl 2 rfl ?_
      refine WS.iload hx dX11_net_40 0 rfl ?_
      refine WS.iload_n hx dX11_net_42 rfl 3 rfl ?_
      refine WS.as rfl rfl (congrArg (fun z => Value.int z :: _) (show x = nI (nn x) from (nI_nn hx0.1).symm)) ?_
      skip
      refine WS.callVi (st := [.int (orW (fun j => (stp (Lc κ) (nn x) 16 0 j).isSome) nI i)]) [.int (nI i), .int (nI (nn x))] hx (c_X11_stepsTo V (d + 1) σ κ n hM i (nn x) (by (try simp only [l_int, tL_0, tL_1, tL_2, tL_4, tL_5, tL_6, tL_7, tL_9, tL_10, tL_12, tL_15, tL_30, tL_40, tL_60, tL_99, tL_255, tL_1023, tL_m1, lc_lt, lc_gt, lc_ge, lc_le, lc_eq, l6_le, l6_lt, l6_eq, tI_m133, tI_m226, i_le, i_lt, i_eq, tI_m1, tI_0, tI_1, tI_16, tI_50] at c35); (try simp only [l_int, tL_0, tL_1, tL_2, tL_4, tL_5, tL_6, tL_7, tL_9, tL_10, tL_12, tL_15, tL_30, tL_40, tL_60, tL_99, tL_255, tL_1023, tL_m1, lc_lt, lc_gt, lc_ge, lc_le, lc_eq, l6_le, l6_lt, l6_eq, tI_m133, tI_m226, i_le, i_lt, i_eq, tI_m1, tI_0, tI_1, tI_16, tI_50]); omega) hxn) okX11_stepsTo lm11_251 rfl rfl rfl rfl (Nat.le_of_ble_eq_true rfl) dX11_net_43 (fun v1 σ2 h3 => ?_)
      obtain ⟨rfl, rfl⟩ := h3
      show WS layM V 5 X σ 46 [(4, .int (nI i)), (3, .int (orW (fun j => (stp (Lc κ) (nn x) 16 0 j).isSome) nI i)), (0, rf V 0), (1, .int x), (2, .int q)] [.int (oN (stp (Lc κ) (nn x) 16 0 i)), .int (orW (fun j => (stp (Lc κ) (nn x) 16 0 j).isSome) nI i)]
      refine WS.if_lt (tgt := 56) hx dX11_net_46 (by decide) (fun c46 => ?_) (fun c46 => ?_)
      · skip
        show WS layM V 5 X σ 56 [(4, .int (nI i)), (3, .int (orW (fun j => (stp (Lc κ) (nn x) 16 0 j).isSome) nI i)), (0, rf V 0), (1, .int x), (2, .int q)] [.int (orW (fun j => (stp (Lc κ) (nn x) 16 0 j).isSome) nI i)]
        refine WS.iconst (v := 0) hx dX11_net_56 (by decide) ?_
        refine WS.ior hx dX11_net_57 ?_
        refine WS.istore_n (lo' := [(3, .int ((orW (fun j => (stp (Lc κ) (nn x) 16 0 j).isSome) nI i) ||| 0)), (4, .int (nI i)), (0, rf V 0), (1, .int x), (2, .int q)]) hx dX11_net_58 rfl (by decide) rfl ?_
        refine WS.iinc (v := nI (i + 1)) (lo' := [(4, .int (nI (i + 1))), (3, .int ((orW (fun j => (stp (Lc κ) (nn x) 16 0 j).isSome) nI i) ||| 0)), (0, rf V 0), (1, .int x), (2, .int q)]) hx dX11_net_59 1 rfl (nI_1 i) (by decide) rfl ?_
        refine WS.goto (tgt := 31) hx dX11_net_62 (by decide) ?_
        have hw : orW (fun j => (stp (Lc κ) (nn x) 16 0 j).isSome) nI (i + 1) = orW (fun j => (stp (Lc κ) (nn x) 16 0 j).isSome) nI i ||| 0 := by
          rw [Int32.or_zero]
          exact if_neg (by show ¬ (stp (Lc κ) (nn x) 16 0 i).isSome = true; rw [oN_lt.1.mp c46]; decide)
        have h9 := ih _ (by (try simp only [l_int, tL_0, tL_1, tL_2, tL_4, tL_5, tL_6, tL_7, tL_9, tL_10, tL_12, tL_15, tL_30, tL_40, tL_60, tL_99, tL_255, tL_1023, tL_m1, lc_lt, lc_gt, lc_ge, lc_le, lc_eq, l6_le, l6_lt, l6_eq, tI_m133, tI_m226, i_le, i_lt, i_eq, tI_m1, tI_0, tI_1, tI_16, tI_50] at c35); (try simp only [l_int, tL_0, tL_1, tL_2, tL_4, tL_5, tL_6, tL_7, tL_9, tL_10, tL_12, tL_15, tL_30, tL_40, tL_60, tL_99, tL_255, tL_1023, tL_m1, lc_lt, lc_gt, lc_ge, lc_le, lc_eq, l6_le, l6_lt, l6_eq, tI_m133, tI_m226, i_le, i_lt, i_eq, tI_m1, tI_0, tI_1, tI_16, tI_50] at c46); (try simp only [l_int, tL_0, tL_1, tL_2, tL_4, tL_5, tL_6, tL_7, tL_9, tL_10, tL_12, tL_15, tL_30, tL_40, tL_60, tL_99, tL_255, tL_1023, tL_m1, lc_lt, lc_gt, lc_ge, lc_le, lc_eq, l6_le, l6_lt, l6_eq, tI_m133, tI_m226, i_le, i_lt, i_eq, tI_m1, tI_0, tI_1, tI_16, tI_50]); omega) (i + 1) rfl (by (try simp only [l_int, tL_0, tL_1, tL_2, tL_4, tL_5, tL_6, tL_7, tL_9, tL_10, tL_12, tL_15, tL_30, tL_40, tL_60, tL_99, tL_255, tL_1023, tL_m1, lc_lt, lc_gt, lc_ge, lc_le, lc_eq, l6_le, l6_lt, l6_eq, tI_m133, tI_m226, i_le, i_lt, i_eq, tI_m1, tI_0, tI_1, tI_16, tI_50] at c35); (try simp only [l_int, tL_0, tL_1, tL_2, tL_4, tL_5, tL_6, tL_7, tL_9, tL_10, tL_12, tL_15, tL_30, tL_40, tL_60, tL_99, tL_255, tL_1023, tL_m1, lc_lt, lc_gt, lc_ge, lc_le, lc_eq, l6_le, l6_lt, l6_eq, tI_m133, tI_m226, i_le, i_lt, i_eq, tI_m1, tI_0, tI_1, tI_16, tI_50] at c46); (try simp only [l_int, tL_0, tL_1, tL_2, tL_4, tL_5, tL_6, tL_7, tL_9, tL_10, tL_12, tL_15, tL_30, tL_40, tL_60, tL_99, tL_255, tL_1023, tL_m1, lc_lt, lc_gt, lc_ge, lc_le, lc_eq, l6_le, l6_lt, l6_eq, tI_m133, tI_m226, i_le, i_lt, i_eq, tI_m1, tI_0, tI_1, tI_16, tI_50]); omega)
        rw [hw] at h9
        exact WS.los [0, 1, 2, 3, 4] rfl h9
      · skip
        show WS layM V 5 X σ 49 [(4, .int (nI i)), (3, .int (orW (fun j => (stp (Lc κ) (nn x) 16 0 j).isSome) nI i)), (0, rf V 0), (1, .int x), (2, .int q)] [.int (orW (fun j => (stp (Lc κ) (nn x) 16 0 j).isSome) nI i)]
        refine WS.iconst (v := 1) hx dX11_net_49 (by decide) ?_
        refine WS.iload hx dX11_net_50 0 rfl ?_
        refine WS.ishl hx dX11_net_52 ?_
        refine WS.goto (tgt := 57) hx dX11_net_53 (by decide) ?_
        refine WS.ior hx dX11_net_57 ?_
        refine WS.istore_n (lo' := [(3, .int ((orW (fun j => (stp (Lc κ) (nn x) 16 0 j).isSome) nI i) ||| (1 <<< ((nI i) &&& 31)))), (4, .int (nI i)), (0, rf V 0), (1, .int x), (2, .int q)]) hx dX11_net_58 rfl (by decide) rfl ?_
        refine WS.iinc (v := nI (i + 1)) (lo' := [(4, .int (nI (i + 1))), (3, .int ((orW (fun j => (stp (Lc κ) (nn x) 16 0 j).isSome) nI i) ||| (1 <<< ((nI i) &&& 31)))), (0, rf V 0), (1, .int x), (2, .int q)]) hx dX11_net_59 1 rfl (nI_1 i) (by decide) rfl ?_
        refine WS.goto (tgt := 31) hx dX11_net_62 (by decide) ?_
        have hw : orW (fun j => (stp (Lc κ) (nn x) 16 0 j).isSome) nI (i + 1) = orW (fun j => (stp (Lc κ) (nn x) 16 0 j).isSome) nI i ||| ((1 : Int32) <<< (nI i &&& 31)) := if_pos (by
          cases h9 : (stp (Lc κ) (nn x) 16 0 i).isSome with
          | true => exact h9
          | false => exact absurd (oN_lt.1.mpr h9) c46)
        have h9 := ih _ (by (try simp only [l_int, tL_0, tL_1, tL_2, tL_4, tL_5, tL_6, tL_7, tL_9, tL_10, tL_12, tL_15, tL_30, tL_40, tL_60, tL_99, tL_255, tL_1023, tL_m1, lc_lt, lc_gt, lc_ge, lc_le, lc_eq, l6_le, l6_lt, l6_eq, tI_m133, tI_m226, i_le, i_lt, i_eq, tI_m1, tI_0, tI_1, tI_16, tI_50] at c35); (try simp only [l_int, tL_0, tL_1, tL_2, tL_4, tL_5, tL_6, tL_7, tL_9, tL_10, tL_12, tL_15, tL_30, tL_40, tL_60, tL_99, tL_255, tL_1023, tL_m1, lc_lt, lc_gt, lc_ge, lc_le, lc_eq, l6_le, l6_lt, l6_eq, tI_m133, tI_m226, i_le, i_lt, i_eq, tI_m1, tI_0, tI_1, tI_16, tI_50] at c46); (try simp only [l_int, tL_0, tL_1, tL_2, tL_4, tL_5, tL_6, tL_7, tL_9, tL_10, tL_12, tL_15, tL_30, tL_40, tL_60, tL_99, tL_255, tL_1023, tL_m1, lc_lt, lc_gt, lc_ge, lc_le, lc_eq, l6_le, l6_lt, l6_eq, tI_m133, tI_m226, i_le, i_lt, i_eq, tI_m1, tI_0, tI_1, tI_16, tI_50]); omega) (i + 1) rfl (by (try simp only [l_int, tL_0, tL_1, tL_2, tL_4, tL_5, tL_6, tL_7, tL_9, tL_10, tL_12, tL_15, tL_30, tL_40, tL_60, tL_99, tL_255, tL_1023, tL_m1, lc_lt, lc_gt, lc_ge, lc_le, lc_eq, l6_le, l6_lt, l6_eq, tI_m133, tI_m226, i_le, i_lt, i_eq, tI_m1, tI_0, tI_1, tI_16, tI_50] at c35); (try simp only [l_int, tL_0, tL_1, tL_2, tL_4, tL_5, tL_6, tL_7, tL_9, tL_10, tL_12, tL_15, tL_30, tL_40, tL_60, tL_99, tL_255, tL_1023, tL_m1, lc_lt, lc_gt, lc_ge, lc_le, lc_eq, l6_le, l6_lt, l6_eq, tI_m133, tI_m226, i_le, i_lt, i_eq, tI_m1, tI_0, tI_1, tI_16, tI_50] at c46); (try simp only [l_int, tL_0, tL_1, tL_2, tL_4, tL_5, tL_6, tL_7, tL_9, tL_10, tL_12, tL_15, tL_30, tL_40, tL_60, tL_99, tL_255, tL_1023, tL_m1, lc_lt, lc_gt, lc_ge, lc_le, lc_eq, l6_le, l6_lt, l6_eq, tI_m133, tI_m226, i_le, i_lt, i_eq, tI_m1, tI_0, tI_1, tI_16, tI_50]); omega)
        rw [hw] at h9
        exact WS.los [0, 1, 2, 3, 4] rfl h9
theorem net_v {κ σ : Sg} {n : Nat} {q : Int32} {x : Nat} (hQ : QI κ n) (hx : x < 16) : if q.toInt = 1 then (if q.toInt = 1 then nI (rgM (Lc κ) (rnF (Lc κ) 16 x)) else nI (ahd (Lc κ) 16 0 x)) = ringC (Lc κ) x ∧ σ = σ else (if q.toInt = 1 then nI (rgM (Lc κ) (rnF (Lc κ) 16 x)) else nI (ahd (Lc κ) 16 0 x)) = nI (ahd (Lc κ) 16 0 x) ∧ σ = σ := by
  by_cases h : q.toInt = 1
  · rw [if_pos h, if_pos h]; exact ⟨ring_eq (Lc_lt hQ) hx, rfl⟩
  · rw [if_neg h, if_neg h]; exact ⟨rfl, rfl⟩
set_option maxHeartbeats 1000000 in
theorem c_X11_net (V : Vt) (d : Nat) (σ : Sg) (κ : Sg) (n : Nat) (hM : MR κ σ n) (x q : Int32) : CT layM V mX11_net (d + 2) [rf V 0, .int x, .int q] σ (Ri fun v σ' => if ¬ (0 ≤ x.toInt ∧ x.toInt ≤ 15 ∧ 0 ≤ q.toInt ∧ q.toInt ≤ 2) then v = -1 ∧ σ' = σ else if q.toInt = 0 then v = orW (fun j => (stp (Lc κ) (nn x) 16 0 j).isSome) nI 16 ∧ σ' = σ else if q.toInt = 1 then v = ringC (Lc κ) (nn x) ∧ σ' = σ else v = nI (ahd (Lc κ) 16 0 (nn x)) ∧ σ' = σ) := by
  refine CT.of (own := RX11) rfl (by decide) (Nat.le_of_ble_eq_true rfl) (fun X (hx : Ok V RX11 cX11_net 5 (d + 2) X) (he : En layM V (some .int) (Ri fun v σ' => if ¬ (0 ≤ x.toInt ∧ x.toInt ≤ 15 ∧ 0 ≤ q.toInt ∧ q.toInt ≤ 2) then v = -1 ∧ σ' = σ else if q.toInt = 0 then v = orW (fun j => (stp (Lc κ) (nn x) 16 0 j).isSome) nI 16 ∧ σ' = σ else if q.toInt = 1 then v = ringC (Lc κ) (nn x) ∧ σ' = σ else v = nI (ahd (Lc κ) 16 0 (nn x)) ∧ σ' = σ) X) => ?_)
  change WS layM V 5 X σ 0 [(0, rf V 0), (1, .int x), (2, .int q)] []
  have hn := hM.n
  have hs := hM.s
  refine WS.iload_n hx dX11_net_0 rfl 1 rfl ?_
  refine WS.i2l hx dX11_net_1 ?_
  refine WS.callSi (st := []) [.long (Int32.toInt64 x)] hx (c_X11_isThought V d σ (Int32.toInt64 x)) okX11_isThought lm11_108 rfl rfl (Nat.le_of_ble_eq_true rfl) dX11_net_2 (fun v1 σ2 h3 => ?_)
  rcases h3 with ⟨rfl, rfl, hb2⟩ | ⟨rfl, rfl, hb2⟩
  · skip
    show WS layM V 5 X σ 5 [(0, rf V 0), (1, .int x), (2, .int q)] [.int 1]
    have hxx0 : 0 ≤ x.toInt ∧ x.toInt ≤ 15 := by have h9 := hb2; simp only [l_int] at h9; exact h9
    have hxx : nn x < 16 := by have := nn_int hxx0.1; omega
    refine WS.if_eq (tgt := 20) hx dX11_net_5 (by decide) (fun h => absurd h (by decide)) (fun _ => ?_)
    refine WS.iload_n hx dX11_net_8 rfl 2 rfl ?_
    refine WS.i2l hx dX11_net_9 ?_
    refine WS.lconst (v := 0) hx dX11_net_10 rfl ?_
    refine WS.ldc2 (v := 2) hx lc11_254 dX11_net_11 ?_
    refine WS.callSi (st := []) [.long (Int32.toInt64 q), .long 0, .long 2] hx (c_X11_within V (d + 1) σ (Int32.toInt64 q) 0 2) okX11_within lm11_100 rfl rfl (Nat.le_of_ble_eq_true rfl) dX11_net_14 (fun v4 σ5 h6 => ?_)
    rcases h6 with ⟨rfl, rfl, hb14⟩ | ⟨rfl, rfl, hb14⟩
    · skip
      show WS layM V 5 X σ 17 [(0, rf V 0), (1, .int x), (2, .int q)] [.int 1]
      have hq9 : 0 ≤ q.toInt ∧ q.toInt ≤ 2 := by have h9 := hb14; simp only [l_int, tL_0, tL_2] at h9; exact h9
      refine WS.if_ne (tgt := 22) hx dX11_net_17 (by decide) (fun _ => ?_) (fun h => absurd h (by decide))
      refine WS.iload_n hx dX11_net_22 rfl 2 rfl ?_
      refine WS.if_ne (tgt := 67) hx dX11_net_23 (by decide) (fun c23 => ?_) (fun c23 => ?_)
      · skip
        show WS layM V 5 X σ 67 [(0, rf V 0), (1, .int x), (2, .int q)] []
        refine WS.iload_n hx dX11_net_67 rfl 1 rfl ?_
        refine WS.as rfl rfl (congrArg (fun z => Value.int z :: _) (show x = nI (nn x) from (nI_nn hxx0.1).symm)) ?_
        skip
        refine WS.istore_n (lo' := [(3, .int (nI (nn x))), (0, rf V 0), (1, .int x), (2, .int q)]) hx dX11_net_68 rfl (by decide) rfl ?_
        refine WS.iconst (v := 0) hx dX11_net_69 (by decide) ?_
        refine WS.istore (lo' := [(4, .int 0), (3, .int (nI (nn x))), (0, rf V 0), (1, .int x), (2, .int q)]) hx dX11_net_70 (by decide) rfl ?_
        exact WS.los [0, 1, 2, 3, 4] rfl (lp_X11_net V d σ κ n hM x q _ _ X hx he (by (try dsimp only); (try simp only [l_int, tL_0, tL_1, tL_2, tL_4, tL_5, tL_6, tL_7, tL_9, tL_10, tL_12, tL_15, tL_30, tL_40, tL_60, tL_99, tL_255, tL_1023, tL_m1, lc_lt, lc_gt, lc_ge, lc_le, lc_eq, l6_le, l6_lt, l6_eq, tI_m133, tI_m226, i_le, i_lt, i_eq, tI_m1, tI_0, tI_1, tI_16, tI_50] at hb2); (try simp only [l_int, tL_0, tL_1, tL_2, tL_4, tL_5, tL_6, tL_7, tL_9, tL_10, tL_12, tL_15, tL_30, tL_40, tL_60, tL_99, tL_255, tL_1023, tL_m1, lc_lt, lc_gt, lc_ge, lc_le, lc_eq, l6_le, l6_lt, l6_eq, tI_m133, tI_m226, i_le, i_lt, i_eq, tI_m1, tI_0, tI_1, tI_16, tI_50] at hb14); (try simp only [l_int, tL_0, tL_1, tL_2, tL_4, tL_5, tL_6, tL_7, tL_9, tL_10, tL_12, tL_15, tL_30, tL_40, tL_60, tL_99, tL_255, tL_1023, tL_m1, lc_lt, lc_gt, lc_ge, lc_le, lc_eq, l6_le, l6_lt, l6_eq, tI_m133, tI_m226, i_le, i_lt, i_eq, tI_m1, tI_0, tI_1, tI_16, tI_50] at c23); rw [if_neg (by omega), if_neg (by omega)]; exact net_v hM.q hxx) 16 0 (nn x) (by omega) hxx (ring_ex (Lc_lt hM.q) hxx) rfl)
      · skip
        show WS layM V 5 X σ 26 [(0, rf V 0), (1, .int x), (2, .int q)] []
        refine WS.iconst (v := 0) hx dX11_net_26 (by decide) ?_
        refine WS.istore_n (lo' := [(3, .int 0), (0, rf V 0), (1, .int x), (2, .int q)]) hx dX11_net_27 rfl (by decide) rfl ?_
        refine WS.iconst (v := 0) hx dX11_net_28 (by decide) ?_
        refine WS.istore (lo' := [(4, .int 0), (3, .int 0), (0, rf V 0), (1, .int x), (2, .int q)]) hx dX11_net_29 (by decide) rfl ?_
        exact WS.los [0, 1, 2, 3, 4] rfl (lo_X11_net V d σ κ n hM x q hxx0 _ X hx he (by (try dsimp only); (try simp only [l_int, tL_0, tL_1, tL_2, tL_4, tL_5, tL_6, tL_7, tL_9, tL_10, tL_12, tL_15, tL_30, tL_40, tL_60, tL_99, tL_255, tL_1023, tL_m1, lc_lt, lc_gt, lc_ge, lc_le, lc_eq, l6_le, l6_lt, l6_eq, tI_m133, tI_m226, i_le, i_lt, i_eq, tI_m1, tI_0, tI_1, tI_16, tI_50] at hb2); (try simp only [l_int, tL_0, tL_1, tL_2, tL_4, tL_5, tL_6, tL_7, tL_9, tL_10, tL_12, tL_15, tL_30, tL_40, tL_60, tL_99, tL_255, tL_1023, tL_m1, lc_lt, lc_gt, lc_ge, lc_le, lc_eq, l6_le, l6_lt, l6_eq, tI_m133, tI_m226, i_le, i_lt, i_eq, tI_m1, tI_0, tI_1, tI_16, tI_50] at hb14); (try simp only [l_int, tL_0, tL_1, tL_2, tL_4, tL_5, tL_6, tL_7, tL_9, tL_10, tL_12, tL_15, tL_30, tL_40, tL_60, tL_99, tL_255, tL_1023, tL_m1, lc_lt, lc_gt, lc_ge, lc_le, lc_eq, l6_le, l6_lt, l6_eq, tI_m133, tI_m226, i_le, i_lt, i_eq, tI_m1, tI_0, tI_1, tI_16, tI_50] at c23); rw [if_neg (by omega), if_pos (by omega)]; exact ⟨rfl, rfl⟩) 0 (Nat.zero_le _))
    · skip
      show WS layM V 5 X σ 17 [(0, rf V 0), (1, .int x), (2, .int q)] [.int 0]
      refine WS.if_ne (tgt := 22) hx dX11_net_17 (by decide) (fun h => absurd (by decide) h) (fun _ => ?_)
      refine WS.iconst (v := (-1)) hx dX11_net_20 (by decide) ?_
      exact WS.iret hx he dX11_net_21 ⟨_, rfl, by (try simp only [l_int, tL_0, tL_1, tL_2, tL_4, tL_5, tL_6, tL_7, tL_9, tL_10, tL_12, tL_15, tL_30, tL_40, tL_60, tL_99, tL_255, tL_1023, tL_m1, lc_lt, lc_gt, lc_ge, lc_le, lc_eq, l6_le, l6_lt, l6_eq, tI_m133, tI_m226, i_le, i_lt, i_eq, tI_m1, tI_0, tI_1, tI_16, tI_50] at hb2); (try simp only [l_int, tL_0, tL_1, tL_2, tL_4, tL_5, tL_6, tL_7, tL_9, tL_10, tL_12, tL_15, tL_30, tL_40, tL_60, tL_99, tL_255, tL_1023, tL_m1, lc_lt, lc_gt, lc_ge, lc_le, lc_eq, l6_le, l6_lt, l6_eq, tI_m133, tI_m226, i_le, i_lt, i_eq, tI_m1, tI_0, tI_1, tI_16, tI_50] at hb14); (repeat' split) <;> first | (exfalso; omega) | exact ⟨rfl, rfl⟩⟩
  · skip
    show WS layM V 5 X σ 5 [(0, rf V 0), (1, .int x), (2, .int q)] [.int 0]
    refine WS.if_eq (tgt := 20) hx dX11_net_5 (by decide) (fun _ => ?_) (fun h => absurd (by decide) h)
    refine WS.iconst (v := (-1)) hx dX11_net_20 (by decide) ?_
    exact WS.iret hx he dX11_net_21 ⟨_, rfl, by (try simp only [l_int, tL_0, tL_1, tL_2, tL_4, tL_5, tL_6, tL_7, tL_9, tL_10, tL_12, tL_15, tL_30, tL_40, tL_60, tL_99, tL_255, tL_1023, tL_m1, lc_lt, lc_gt, lc_ge, lc_le, lc_eq, l6_le, l6_lt, l6_eq, tI_m133, tI_m226, i_le, i_lt, i_eq, tI_m1, tI_0, tI_1, tI_16, tI_50] at hb2); (repeat' split) <;> first | (exfalso; omega) | exact ⟨rfl, rfl⟩⟩
