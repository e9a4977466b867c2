theorem nf0 : ∀ j, j < 7 → defaultValue (tyX0 j) = vp_V [.null, .null, .null, .int 0, .int 0, .int 0, .int 0] j := by
  intro j hj
  have h : j = 0 ∨ j = 1 ∨ j = 2 ∨ j = 3 ∨ j = 4 ∨ j = 5 ∨ j = 6 := by omega
  rcases h with rfl | rfl | rfl | rfl | rfl | rfl | rfl <;> rfl
theorem nf1 : ∀ j, j < 5 → defaultValue (tyX1 j) = vp_V [.null, .null, .int 0, .int 0, .int 0] j := by
  intro j hj
  have h : j = 0 ∨ j = 1 ∨ j = 2 ∨ j = 3 ∨ j = 4 := by omega
  rcases h with rfl | rfl | rfl | rfl | rfl <;> rfl
theorem nf2 : ∀ j, j < 7 → defaultValue (tyX2 j) = vp_V [.null, .null, .null, .null, .null, .int 0, .int 0] j := by
  intro j hj
  have h : j = 0 ∨ j = 1 ∨ j = 2 ∨ j = 3 ∨ j = 4 ∨ j = 5 ∨ j = 6 := by omega
  rcases h with rfl | rfl | rfl | rfl | rfl | rfl | rfl <;> rfl
theorem nf3 : ∀ j, j < 8 → defaultValue (tyX3 j) = vp_V [.null, .null, .null, .null, .null, .int 0, .int 0, .int 0] j := by
  intro j hj
  have h : j = 0 ∨ j = 1 ∨ j = 2 ∨ j = 3 ∨ j = 4 ∨ j = 5 ∨ j = 6 ∨ j = 7 := by omega
  rcases h with rfl | rfl | rfl | rfl | rfl | rfl | rfl | rfl <;> rfl
theorem nf4 : ∀ j, j < 3 → defaultValue (tyX4 j) = vp_V [.null, .null, .null] j := by
  intro j hj
  have h : j = 0 ∨ j = 1 ∨ j = 2 := by omega
  rcases h with rfl | rfl | rfl <;> rfl
theorem nf5 : ∀ j, j < 12 → defaultValue (tyX5 j) = vp_V [.null, .null, .int 0, .int 0, .int 0, .int 0, .null, .int 0, .int 0, .null, .null, .null] j := by
  intro j hj
  have h : j = 0 ∨ j = 1 ∨ j = 2 ∨ j = 3 ∨ j = 4 ∨ j = 5 ∨ j = 6 ∨ j = 7 ∨ j = 8 ∨ j = 9 ∨ j = 10 ∨ j = 11 := by omega
  rcases h with rfl | rfl | rfl | rfl | rfl | rfl | rfl | rfl | rfl | rfl | rfl | rfl <;> rfl
theorem nf6 : ∀ j, j < 7 → defaultValue (tyX6 j) = vp_V [.null, .null, .null, .null, .null, .int 0, .int 0] j := by
  intro j hj
  have h : j = 0 ∨ j = 1 ∨ j = 2 ∨ j = 3 ∨ j = 4 ∨ j = 5 ∨ j = 6 := by omega
  rcases h with rfl | rfl | rfl | rfl | rfl | rfl | rfl <;> rfl
theorem nf7 : ∀ j, j < 9 → defaultValue (tyX7 j) = vp_V [.null, .null, .null, .null, .null, .null, .null, .null, .int 0] j := by
  intro j hj
  have h : j = 0 ∨ j = 1 ∨ j = 2 ∨ j = 3 ∨ j = 4 ∨ j = 5 ∨ j = 6 ∨ j = 7 ∨ j = 8 := by omega
  rcases h with rfl | rfl | rfl | rfl | rfl | rfl | rfl | rfl | rfl <;> rfl
theorem nf8 : ∀ j, j < 5 → defaultValue (tyX8 j) = vp_V [.null, .int 0, .int 0, .int 0, .int 0] j := by
  intro j hj
  have h : j = 0 ∨ j = 1 ∨ j = 2 ∨ j = 3 ∨ j = 4 := by omega
  rcases h with rfl | rfl | rfl | rfl | rfl <;> rfl
theorem nf9 : ∀ j, j < 10 → defaultValue (tyX9 j) = vp_V [.null, .null, .int 0, .int 0, .int 0, .int 0, .int 0, .int 0, .int 0, .int 0] j := by
  intro j hj
  have h : j = 0 ∨ j = 1 ∨ j = 2 ∨ j = 3 ∨ j = 4 ∨ j = 5 ∨ j = 6 ∨ j = 7 ∨ j = 8 ∨ j = 9 := by omega
  rcases h with rfl | rfl | rfl | rfl | rfl | rfl | rfl | rfl | rfl | rfl <;> rfl
theorem nf10 : ∀ j, j < 11 → defaultValue (tyX10 j) = vp_V [.null, .null, .null, .int 0, .null, .null, .null, .null, .null, .null, .null] j := by
  intro j hj
  have h : j = 0 ∨ j = 1 ∨ j = 2 ∨ j = 3 ∨ j = 4 ∨ j = 5 ∨ j = 6 ∨ j = 7 ∨ j = 8 ∨ j = 9 ∨ j = 10 := by omega
  rcases h with rfl | rfl | rfl | rfl | rfl | rfl | rfl | rfl | rfl | rfl | rfl <;> rfl
theorem nf11 : ∀ j, j < 45 → defaultValue (tyX11 j) = vp_V [.null, .null, .null, .null, .int 0, .int 0, .int 0, .null, .int 0, .null, .int 0, .null, .null, .null, .int 0, .null, .null, .int 0, .int 0, .int 0, .int 0, .null, .null, .null, .null, .int 0, .int 0, .null, .null, .int 0, .null, .int 0, .int 0, .null, .null, .int 0, .null, .null, .int 0, .int 0, .int 0, .null, .null, .null, .null] j := by
  intro j hj
  have h : j = 0 ∨ j = 1 ∨ j = 2 ∨ j = 3 ∨ j = 4 ∨ j = 5 ∨ j = 6 ∨ j = 7 ∨ j = 8 ∨ j = 9 ∨ j = 10 ∨ j = 11 ∨ j = 12 ∨ j = 13 ∨ j = 14 ∨ j = 15 ∨ j = 16 ∨ j = 17 ∨ j = 18 ∨ j = 19 ∨ j = 20 ∨ j = 21 ∨ j = 22 ∨ j = 23 ∨ j = 24 ∨ j = 25 ∨ j = 26 ∨ j = 27 ∨ j = 28 ∨ j = 29 ∨ j = 30 ∨ j = 31 ∨ j = 32 ∨ j = 33 ∨ j = 34 ∨ j = 35 ∨ j = 36 ∨ j = 37 ∨ j = 38 ∨ j = 39 ∨ j = 40 ∨ j = 41 ∨ j = 42 ∨ j = 43 ∨ j = 44 := by omega
  rcases h with rfl | rfl | rfl | rfl | rfl | rfl | rfl | rfl | rfl | rfl | rfl | rfl | rfl | rfl | rfl | rfl | rfl | rfl | rfl | rfl | rfl | rfl | rfl | rfl | rfl | rfl | rfl | rfl | rfl | rfl | rfl | rfl | rfl | rfl | rfl | rfl | rfl | rfl | rfl | rfl | rfl | rfl | rfl | rfl | rfl <;> rfl
set_option maxHeartbeats 2000000 in
theorem cn_X9 (G : Gc) (q : Nat) (qa : Nat) (qb : Nat) : CN G mX9_init { frames := 2, cells := 0, slots := 0, locals := 128 } [.ref q, .ref qa, .ref qb] [(q, .inr (9, [.null, .null, .int 0, .int 0, .int 0, .int 0, .int 0, .int 0, .int 0, .int 0]))] (fun ws' => ws' = [(q, .inr (9, [.ref qa, .ref qb, .int 0, .int 0, .int 0, .int 0, .int 0, .int 0, .int 0, .int 0]))]) := by
  refine CN.of (own := RX9) rfl rfl rfl (by decide) (Nat.le_of_ble_eq_true rfl) (fun X (hx : OkN G RX9 cX9_init 3 { frames := 2, cells := 0, slots := 0, locals := 128 } X) (hi : InN X) (he : EnN G { frames := 2, cells := 0, slots := 0, locals := 128 } (fun ws' => ws' = [(q, .inr (9, [.ref qa, .ref qb, .int 0, .int 0, .int 0, .int 0, .int 0, .int 0, .int 0, .int 0]))]) X) => ?_)
  change WN G 3 X 0 0 [(q, .inr (9, [.null, .null, .int 0, .int 0, .int 0, .int 0, .int 0, .int 0, .int 0, .int 0]))] 0 [(0, .ref q), (1, .ref qa), (2, .ref qb)] []
  refine WN.aload_n hx dX9_init_0 rfl 0 rfl ?_
  refine WN.objInit hx (by decide) (by decide) lo9_3 ob_i ob_c (Nat.le_of_ble_eq_true rfl) dX9_init_1 ?_
  refine WN.aload_n hx dX9_init_4 rfl 0 rfl ?_
  refine WN.aload_n hx dX9_init_5 rfl 1 rfl ?_
  refine WN.put (q0 := 0) hx hi okX9 lf9_9 rfl rfl (Nat.le_of_ble_eq_true rfl) rfl rfl rfl rfl dX9_init_6 ?_
  show WN G 3 X 0 0 [(q, .inr (9, [.ref qa, .null, .int 0, .int 0, .int 0, .int 0, .int 0, .int 0, .int 0, .int 0]))] 9 [(0, .ref q), (1, .ref qa), (2, .ref qb)] []
  refine WN.aload_n hx dX9_init_9 rfl 0 rfl ?_
  refine WN.aload_n hx dX9_init_10 rfl 2 rfl ?_
  refine WN.put (q0 := 0) hx hi okX9 lf9_15 rfl rfl (Nat.le_of_ble_eq_true rfl) rfl rfl rfl rfl dX9_init_11 ?_
  show WN G 3 X 0 0 [(q, .inr (9, [.ref qa, .ref qb, .int 0, .int 0, .int 0, .int 0, .int 0, .int 0, .int 0, .int 0]))] 14 [(0, .ref q), (1, .ref qa), (2, .ref qb)] []
  exact WN.vret hx he dX9_init_14 rfl rfl rfl
set_option maxHeartbeats 2000000 in
theorem cn_X8 (G : Gc) (q : Nat) : CN G mX8_init { frames := 2, cells := 1, slots := 60, locals := 128 } [.ref q] [(q, .inr (8, [.null, .int 0, .int 0, .int 0, .int 0]))] (fun ws' => ∃ a1 : Nat, ws' = [(q, .inr (8, [.ref a1, .int 0, .int 0, .int 0, .int 0])), (a1, .inl (G.2 1, 60, .inr (.inl (fun _ => 0))))]) := by
  refine CN.of (own := RX8) rfl rfl rfl (by decide) (Nat.le_of_ble_eq_true rfl) (fun X (hx : OkN G RX8 cX8_init 1 { frames := 2, cells := 1, slots := 60, locals := 128 } X) (hi : InN X) (he : EnN G { frames := 2, cells := 1, slots := 60, locals := 128 } (fun ws' => ∃ a1 : Nat, ws' = [(q, .inr (8, [.ref a1, .int 0, .int 0, .int 0, .int 0])), (a1, .inl (G.2 1, 60, .inr (.inl (fun _ => 0))))]) X) => ?_)
  change WN G 1 X 0 0 [(q, .inr (8, [.null, .int 0, .int 0, .int 0, .int 0]))] 0 [(0, .ref q)] []
  refine WN.aload_n hx dX8_init_0 rfl 0 rfl ?_
  refine WN.objInit hx (by decide) (by decide) lo8_1 ob_i ob_c (Nat.le_of_ble_eq_true rfl) dX8_init_1 ?_
  refine WN.aload_n hx dX8_init_4 rfl 0 rfl ?_
  refine WN.bipush (v := 60) hx dX8_init_5 (by decide) ?_
  refine WN.newL (N := 60) hx ax_long (by decide) (by decide) (by decide) (Nat.le_of_ble_eq_true rfl) (Nat.le_of_ble_eq_true rfl) dX8_init_7 (fun a1 => ?_)
  show WN G 1 X 1 60 [(q, .inr (8, [.null, .int 0, .int 0, .int 0, .int 0])), (a1, .inl (G.2 1, 60, .inr (.inl (fun _ => 0))))] 9 [(0, .ref q)] [.ref a1, .ref q]
  refine WN.put (q0 := 0) hx hi okX8 lf8_9 rfl rfl (Nat.le_of_ble_eq_true rfl) rfl rfl rfl rfl dX8_init_9 ?_
  show WN G 1 X 1 60 [(q, .inr (8, [.ref a1, .int 0, .int 0, .int 0, .int 0])), (a1, .inl (G.2 1, 60, .inr (.inl (fun _ => 0))))] 12 [(0, .ref q)] []
  exact WN.vret hx he dX8_init_12 rfl rfl ⟨a1, rfl⟩
set_option maxHeartbeats 2000000 in
theorem cn_X5 (G : Gc) (q : Nat) : CN G mX5_init { frames := 2, cells := 5, slots := 2438, locals := 128 } [.ref q] [(q, .inr (5, [.null, .null, .int 0, .int 0, .int 0, .int 0, .null, .int 0, .int 0, .null, .null, .null]))] (fun ws' => ∃ a1 a2 a3 a4 a5 : Nat, ws' = [(q, .inr (5, [.ref a1, .ref a2, .int 0, .int 0, .int 0, .int 0, .null, .int 0, .int 0, .ref a3, .ref a4, .ref a5])), (a1, .inl (G.2 0, 128, .inl (fun _ => 0))), (a2, .inl (G.2 0, 128, .inl (fun _ => 0))), (a3, .inl (G.2 0, 6, .inl (fun _ => 0))), (a4, .inl (G.2 0, 128, .inl (fun _ => 0))), (a5, .inl (G.2 0, 2048, .inl (fun _ => 0)))]) := by
  refine CN.of (own := RX5) rfl rfl rfl (by decide) (Nat.le_of_ble_eq_true rfl) (fun X (hx : OkN G RX5 cX5_init 1 { frames := 2, cells := 5, slots := 2438, locals := 128 } X) (hi : InN X) (he : EnN G { frames := 2, cells := 5, slots := 2438, locals := 128 } (fun ws' => ∃ a1 a2 a3 a4 a5 : Nat, ws' = [(q, .inr (5, [.ref a1, .ref a2, .int 0, .int 0, .int 0, .int 0, .null, .int 0, .int 0, .ref a3, .ref a4, .ref a5])), (a1, .inl (G.2 0, 128, .inl (fun _ => 0))), (a2, .inl (G.2 0, 128, .inl (fun _ => 0))), (a3, .inl (G.2 0, 6, .inl (fun _ => 0))), (a4, .inl (G.2 0, 128, .inl (fun _ => 0))), (a5, .inl (G.2 0, 2048, .inl (fun _ => 0)))]) X) => ?_)
  change WN G 1 X 0 0 [(q, .inr (5, [.null, .null, .int 0, .int 0, .int 0, .int 0, .null, .int 0, .int 0, .null, .null, .null]))] 0 [(0, .ref q)] []
  refine WN.aload_n hx dX5_init_0 rfl 0 rfl ?_
  refine WN.objInit hx (by decide) (by decide) lo5_3 ob_i ob_c (Nat.le_of_ble_eq_true rfl) dX5_init_1 ?_
  refine WN.aload_n hx dX5_init_4 rfl 0 rfl ?_
  refine WN.sipush (v := 128) hx dX5_init_5 (by decide) ?_
  refine WN.newI (N := 128) hx ax_int (by decide) (by decide) (by decide) (Nat.le_of_ble_eq_true rfl) (Nat.le_of_ble_eq_true rfl) dX5_init_8 (fun a1 => ?_)
  show WN G 1 X 1 128 [(q, .inr (5, [.null, .null, .int 0, .int 0, .int 0, .int 0, .null, .int 0, .int 0, .null, .null, .null])), (a1, .inl (G.2 0, 128, .inl (fun _ => 0)))] 10 [(0, .ref q)] [.ref a1, .ref q]
  refine WN.put (q0 := 0) hx hi okX5 lf5_11 rfl rfl (Nat.le_of_ble_eq_true rfl) rfl rfl rfl rfl dX5_init_10 ?_
  show WN G 1 X 1 128 [(q, .inr (5, [.ref a1, .null, .int 0, .int 0, .int 0, .int 0, .null, .int 0, .int 0, .null, .null, .null])), (a1, .inl (G.2 0, 128, .inl (fun _ => 0)))] 13 [(0, .ref q)] []
  refine WN.aload_n hx dX5_init_13 rfl 0 rfl ?_
  refine WN.sipush (v := 128) hx dX5_init_14 (by decide) ?_
  refine WN.newI (N := 128) hx ax_int (by decide) (by decide) (by decide) (Nat.le_of_ble_eq_true rfl) (Nat.le_of_ble_eq_true rfl) dX5_init_17 (fun a2 => ?_)
  show WN G 1 X 2 256 [(q, .inr (5, [.ref a1, .null, .int 0, .int 0, .int 0, .int 0, .null, .int 0, .int 0, .null, .null, .null])), (a1, .inl (G.2 0, 128, .inl (fun _ => 0))), (a2, .inl (G.2 0, 128, .inl (fun _ => 0)))] 19 [(0, .ref q)] [.ref a2, .ref q]
  refine WN.put (q0 := 0) hx hi okX5 lf5_15 rfl rfl (Nat.le_of_ble_eq_true rfl) rfl rfl rfl rfl dX5_init_19 ?_
  show WN G 1 X 2 256 [(q, .inr (5, [.ref a1, .ref a2, .int 0, .int 0, .int 0, .int 0, .null, .int 0, .int 0, .null, .null, .null])), (a1, .inl (G.2 0, 128, .inl (fun _ => 0))), (a2, .inl (G.2 0, 128, .inl (fun _ => 0)))] 22 [(0, .ref q)] []
  refine WN.aload_n hx dX5_init_22 rfl 0 rfl ?_
  refine WN.bipush (v := 6) hx dX5_init_23 (by decide) ?_
  refine WN.newI (N := 6) hx ax_int (by decide) (by decide) (by decide) (Nat.le_of_ble_eq_true rfl) (Nat.le_of_ble_eq_true rfl) dX5_init_25 (fun a3 => ?_)
  show WN G 1 X 3 262 [(q, .inr (5, [.ref a1, .ref a2, .int 0, .int 0, .int 0, .int 0, .null, .int 0, .int 0, .null, .null, .null])), (a1, .inl (G.2 0, 128, .inl (fun _ => 0))), (a2, .inl (G.2 0, 128, .inl (fun _ => 0))), (a3, .inl (G.2 0, 6, .inl (fun _ => 0)))] 27 [(0, .ref q)] [.ref a3, .ref q]
  refine WN.put (q0 := 0) hx hi okX5 lf5_18 rfl rfl (Nat.le_of_ble_eq_true rfl) rfl rfl rfl rfl dX5_init_27 ?_
  show WN G 1 X 3 262 [(q, .inr (5, [.ref a1, .ref a2, .int 0, .int 0, .int 0, .int 0, .null, .int 0, .int 0, .ref a3, .null, .null])), (a1, .inl (G.2 0, 128, .inl (fun _ => 0))), (a2, .inl (G.2 0, 128, .inl (fun _ => 0))), (a3, .inl (G.2 0, 6, .inl (fun _ => 0)))] 30 [(0, .ref q)] []
  refine WN.aload_n hx dX5_init_30 rfl 0 rfl ?_
  refine WN.sipush (v := 128) hx dX5_init_31 (by decide) ?_
  refine WN.newI (N := 128) hx ax_int (by decide) (by decide) (by decide) (Nat.le_of_ble_eq_true rfl) (Nat.le_of_ble_eq_true rfl) dX5_init_34 (fun a4 => ?_)
  show WN G 1 X 4 390 [(q, .inr (5, [.ref a1, .ref a2, .int 0, .int 0, .int 0, .int 0, .null, .int 0, .int 0, .ref a3, .null, .null])), (a1, .inl (G.2 0, 128, .inl (fun _ => 0))), (a2, .inl (G.2 0, 128, .inl (fun _ => 0))), (a3, .inl (G.2 0, 6, .inl (fun _ => 0))), (a4, .inl (G.2 0, 128, .inl (fun _ => 0)))] 36 [(0, .ref q)] [.ref a4, .ref q]
  refine WN.put (q0 := 0) hx hi okX5 lf5_21 rfl rfl (Nat.le_of_ble_eq_true rfl) rfl rfl rfl rfl dX5_init_36 ?_
  show WN G 1 X 4 390 [(q, .inr (5, [.ref a1, .ref a2, .int 0, .int 0, .int 0, .int 0, .null, .int 0, .int 0, .ref a3, .ref a4, .null])), (a1, .inl (G.2 0, 128, .inl (fun _ => 0))), (a2, .inl (G.2 0, 128, .inl (fun _ => 0))), (a3, .inl (G.2 0, 6, .inl (fun _ => 0))), (a4, .inl (G.2 0, 128, .inl (fun _ => 0)))] 39 [(0, .ref q)] []
  refine WN.aload_n hx dX5_init_39 rfl 0 rfl ?_
  refine WN.sipush (v := 2048) hx dX5_init_40 (by decide) ?_
  refine WN.newI (N := 2048) hx ax_int (by decide) (by decide) (by decide) (Nat.le_of_ble_eq_true rfl) (Nat.le_of_ble_eq_true rfl) dX5_init_43 (fun a5 => ?_)
  show WN G 1 X 5 2438 [(q, .inr (5, [.ref a1, .ref a2, .int 0, .int 0, .int 0, .int 0, .null, .int 0, .int 0, .ref a3, .ref a4, .null])), (a1, .inl (G.2 0, 128, .inl (fun _ => 0))), (a2, .inl (G.2 0, 128, .inl (fun _ => 0))), (a3, .inl (G.2 0, 6, .inl (fun _ => 0))), (a4, .inl (G.2 0, 128, .inl (fun _ => 0))), (a5, .inl (G.2 0, 2048, .inl (fun _ => 0)))] 45 [(0, .ref q)] [.ref a5, .ref q]
  refine WN.put (q0 := 0) hx hi okX5 lf5_24 rfl rfl (Nat.le_of_ble_eq_true rfl) rfl rfl rfl rfl dX5_init_45 ?_
  show WN G 1 X 5 2438 [(q, .inr (5, [.ref a1, .ref a2, .int 0, .int 0, .int 0, .int 0, .null, .int 0, .int 0, .ref a3, .ref a4, .ref a5])), (a1, .inl (G.2 0, 128, .inl (fun _ => 0))), (a2, .inl (G.2 0, 128, .inl (fun _ => 0))), (a3, .inl (G.2 0, 6, .inl (fun _ => 0))), (a4, .inl (G.2 0, 128, .inl (fun _ => 0))), (a5, .inl (G.2 0, 2048, .inl (fun _ => 0)))] 48 [(0, .ref q)] []
  exact WN.vret hx he dX5_init_48 rfl rfl ⟨a1, a2, a3, a4, a5, rfl⟩
set_option maxHeartbeats 2000000 in
theorem cn_X4 (G : Gc) (q : Nat) (qa : Nat) (qb : Nat) : CN G mX4_init { frames := 4, cells := 2, slots := 20, locals := 256 } [.ref q, .ref qa, .ref qb] [(q, .inr (4, [.null, .null, .null]))] (fun ws' => ∃ a1 a2 : Nat, ws' = [(q, .inr (4, [.ref qa, .ref a1, .ref a2])), (a1, .inr (9, [.ref qa, .ref qb, .int 0, .int 0, .int 0, .int 0, .int 0, .int 0, .int 0, .int 0])), (a2, .inr (9, [.ref qa, .ref qb, .int 0, .int 0, .int 0, .int 0, .int 0, .int 0, .int 0, .int 0]))]) := by
  refine CN.of (own := RX4) rfl rfl rfl (by decide) (Nat.le_of_ble_eq_true rfl) (fun X (hx : OkN G RX4 cX4_init 3 { frames := 4, cells := 2, slots := 20, locals := 256 } X) (hi : InN X) (he : EnN G { frames := 4, cells := 2, slots := 20, locals := 256 } (fun ws' => ∃ a1 a2 : Nat, ws' = [(q, .inr (4, [.ref qa, .ref a1, .ref a2])), (a1, .inr (9, [.ref qa, .ref qb, .int 0, .int 0, .int 0, .int 0, .int 0, .int 0, .int 0, .int 0])), (a2, .inr (9, [.ref qa, .ref qb, .int 0, .int 0, .int 0, .int 0, .int 0, .int 0, .int 0, .int 0]))]) X) => ?_)
  change WN G 3 X 0 0 [(q, .inr (4, [.null, .null, .null]))] 0 [(0, .ref q), (1, .ref qa), (2, .ref qb)] []
  refine WN.aload_n hx dX4_init_0 rfl 0 rfl ?_
  refine WN.objInit hx (by decide) (by decide) lo4_3 ob_i ob_c (Nat.le_of_ble_eq_true rfl) dX4_init_1 ?_
  refine WN.aload_n hx dX4_init_4 rfl 0 rfl ?_
  refine WN.aload_n hx dX4_init_5 rfl 1 rfl ?_
  refine WN.put (q0 := 0) hx hi okX4 lf4_9 rfl rfl (Nat.le_of_ble_eq_true rfl) rfl rfl rfl rfl dX4_init_6 ?_
  show WN G 3 X 0 0 [(q, .inr (4, [.ref qa, .null, .null]))] 9 [(0, .ref q), (1, .ref qa), (2, .ref qb)] []
  refine WN.aload_n hx dX4_init_9 rfl 0 rfl ?_
  refine WN.new (C := kX9) (fs := [.null, .null, .int 0, .int 0, .int 0, .int 0, .int 0, .int 0, .int 0, .int 0]) hx okX9 lk4_15 iz9 in9 nf9 (Nat.le_of_ble_eq_true rfl) (Nat.le_of_ble_eq_true rfl) dX4_init_10 (fun a1 => ?_)
  show WN G 3 X 1 10 [(q, .inr (4, [.ref qa, .null, .null])), (a1, .inr (9, [.null, .null, .int 0, .int 0, .int 0, .int 0, .int 0, .int 0, .int 0, .int 0]))] 13 [(0, .ref q), (1, .ref qa), (2, .ref qb)] [.ref a1, .ref q]
  refine WN.dup hx dX4_init_13 rfl ?_
  refine WN.aload_n hx dX4_init_14 rfl 1 rfl ?_
  refine WN.aload_n hx dX4_init_15 rfl 2 rfl ?_
  refine WN.callI (w0 := [(q, .inr (4, [.ref qa, .null, .null]))]) (st := [.ref a1, .ref q]) [.ref qa, .ref qb] hx (cn_X9 G a1 qa qb) okX9_init li4_17 rfl rfl rfl (Nat.le_of_ble_eq_true rfl) ⟨(Nat.le_of_ble_eq_true rfl), (Nat.le_of_ble_eq_true rfl)⟩ ⟨(Nat.le_of_ble_eq_true rfl), (Nat.le_of_ble_eq_true rfl)⟩ dX4_init_16 (fun ws9 hw9 => ?_)
  obtain rfl := hw9
  show WN G 3 X 1 10 [(q, .inr (4, [.ref qa, .null, .null])), (a1, .inr (9, [.ref qa, .ref qb, .int 0, .int 0, .int 0, .int 0, .int 0, .int 0, .int 0, .int 0]))] 19 [(0, .ref q), (1, .ref qa), (2, .ref qb)] [.ref a1, .ref q]
  refine WN.put (q0 := 0) hx hi okX4 lf4_20 rfl rfl (Nat.le_of_ble_eq_true rfl) rfl rfl rfl rfl dX4_init_19 ?_
  show WN G 3 X 1 10 [(q, .inr (4, [.ref qa, .ref a1, .null])), (a1, .inr (9, [.ref qa, .ref qb, .int 0, .int 0, .int 0, .int 0, .int 0, .int 0, .int 0, .int 0]))] 22 [(0, .ref q), (1, .ref qa), (2, .ref qb)] []
  refine WN.aload_n hx dX4_init_22 rfl 0 rfl ?_
  refine WN.new (C := kX9) (fs := [.null, .null, .int 0, .int 0, .int 0, .int 0, .int 0, .int 0, .int 0, .int 0]) hx okX9 lk4_15 iz9 in9 nf9 (Nat.le_of_ble_eq_true rfl) (Nat.le_of_ble_eq_true rfl) dX4_init_23 (fun a2 => ?_)
  show WN G 3 X 2 20 [(q, .inr (4, [.ref qa, .ref a1, .null])), (a1, .inr (9, [.ref qa, .ref qb, .int 0, .int 0, .int 0, .int 0, .int 0, .int 0, .int 0, .int 0])), (a2, .inr (9, [.null, .null, .int 0, .int 0, .int 0, .int 0, .int 0, .int 0, .int 0, .int 0]))] 26 [(0, .ref q), (1, .ref qa), (2, .ref qb)] [.ref a2, .ref q]
  refine WN.dup hx dX4_init_26 rfl ?_
  refine WN.aload_n hx dX4_init_27 rfl 1 rfl ?_
  refine WN.aload_n hx dX4_init_28 rfl 2 rfl ?_
  refine WN.callI (w0 := [(q, .inr (4, [.ref qa, .ref a1, .null])), (a1, .inr (9, [.ref qa, .ref qb, .int 0, .int 0, .int 0, .int 0, .int 0, .int 0, .int 0, .int 0]))]) (st := [.ref a2, .ref q]) [.ref qa, .ref qb] hx (cn_X9 G a2 qa qb) okX9_init li4_17 rfl rfl rfl (Nat.le_of_ble_eq_true rfl) ⟨(Nat.le_of_ble_eq_true rfl), (Nat.le_of_ble_eq_true rfl)⟩ ⟨(Nat.le_of_ble_eq_true rfl), (Nat.le_of_ble_eq_true rfl)⟩ dX4_init_29 (fun ws9 hw9 => ?_)
  obtain rfl := hw9
  show WN G 3 X 2 20 [(q, .inr (4, [.ref qa, .ref a1, .null])), (a1, .inr (9, [.ref qa, .ref qb, .int 0, .int 0, .int 0, .int 0, .int 0, .int 0, .int 0, .int 0])), (a2, .inr (9, [.ref qa, .ref qb, .int 0, .int 0, .int 0, .int 0, .int 0, .int 0, .int 0, .int 0]))] 32 [(0, .ref q), (1, .ref qa), (2, .ref qb)] [.ref a2, .ref q]
  refine WN.put (q0 := 0) hx hi okX4 lf4_24 rfl rfl (Nat.le_of_ble_eq_true rfl) rfl rfl rfl rfl dX4_init_32 ?_
  show WN G 3 X 2 20 [(q, .inr (4, [.ref qa, .ref a1, .ref a2])), (a1, .inr (9, [.ref qa, .ref qb, .int 0, .int 0, .int 0, .int 0, .int 0, .int 0, .int 0, .int 0])), (a2, .inr (9, [.ref qa, .ref qb, .int 0, .int 0, .int 0, .int 0, .int 0, .int 0, .int 0, .int 0]))] 35 [(0, .ref q), (1, .ref qa), (2, .ref qb)] []
  exact WN.vret hx he dX4_init_35 rfl rfl ⟨a1, a2, rfl⟩
set_option maxHeartbeats 2000000 in
theorem cn_X6 (G : Gc) (q : Nat) (qa : Nat) (qb : Nat) : CN G mX6_init { frames := 4, cells := 4, slots := 58, locals := 256 } [.ref q, .ref qa, .ref qb] [(q, .inr (6, [.null, .null, .null, .null, .null, .int 0, .int 0]))] (fun ws' => ∃ a1 a2 a3 a4 : Nat, ws' = [(q, .inr (6, [.ref qa, .ref a4, .ref a1, .ref a2, .ref a3, .int 0, .int 0])), (a1, .inl (G.2 0, 40, .inl (fun _ => 0))), (a2, .inl (G.2 0, 4, .inl (fun _ => 0))), (a3, .inl (G.2 0, 4, .inl (fun _ => 0))), (a4, .inr (9, [.ref qa, .ref qb, .int 0, .int 0, .int 0, .int 0, .int 0, .int 0, .int 0, .int 0]))]) := by
  refine CN.of (own := RX6) rfl rfl rfl (by decide) (Nat.le_of_ble_eq_true rfl) (fun X (hx : OkN G RX6 cX6_init 3 { frames := 4, cells := 4, slots := 58, locals := 256 } X) (hi : InN X) (he : EnN G { frames := 4, cells := 4, slots := 58, locals := 256 } (fun ws' => ∃ a1 a2 a3 a4 : Nat, ws' = [(q, .inr (6, [.ref qa, .ref a4, .ref a1, .ref a2, .ref a3, .int 0, .int 0])), (a1, .inl (G.2 0, 40, .inl (fun _ => 0))), (a2, .inl (G.2 0, 4, .inl (fun _ => 0))), (a3, .inl (G.2 0, 4, .inl (fun _ => 0))), (a4, .inr (9, [.ref qa, .ref qb, .int 0, .int 0, .int 0, .int 0, .int 0, .int 0, .int 0, .int 0]))]) X) => ?_)
  change WN G 3 X 0 0 [(q, .inr (6, [.null, .null, .null, .null, .null, .int 0, .int 0]))] 0 [(0, .ref q), (1, .ref qa), (2, .ref qb)] []
  refine WN.aload_n hx dX6_init_0 rfl 0 rfl ?_
  refine WN.objInit hx (by decide) (by decide) lo6_3 ob_i ob_c (Nat.le_of_ble_eq_true rfl) dX6_init_1 ?_
  refine WN.aload_n hx dX6_init_4 rfl 0 rfl ?_
  refine WN.bipush (v := 40) hx dX6_init_5 (by decide) ?_
  refine WN.newI (N := 40) hx ax_int (by decide) (by decide) (by decide) (Nat.le_of_ble_eq_true rfl) (Nat.le_of_ble_eq_true rfl) dX6_init_7 (fun a1 => ?_)
  show WN G 3 X 1 40 [(q, .inr (6, [.null, .null, .null, .null, .null, .int 0, .int 0])), (a1, .inl (G.2 0, 40, .inl (fun _ => 0)))] 9 [(0, .ref q), (1, .ref qa), (2, .ref qb)] [.ref a1, .ref q]
  refine WN.put (q0 := 0) hx hi okX6 lf6_9 rfl rfl (Nat.le_of_ble_eq_true rfl) rfl rfl rfl rfl dX6_init_9 ?_
  show WN G 3 X 1 40 [(q, .inr (6, [.null, .null, .ref a1, .null, .null, .int 0, .int 0])), (a1, .inl (G.2 0, 40, .inl (fun _ => 0)))] 12 [(0, .ref q), (1, .ref qa), (2, .ref qb)] []
  refine WN.aload_n hx dX6_init_12 rfl 0 rfl ?_
  refine WN.iconst (v := 4) hx dX6_init_13 (by decide) ?_
  refine WN.newI (N := 4) hx ax_int (by decide) (by decide) (by decide) (Nat.le_of_ble_eq_true rfl) (Nat.le_of_ble_eq_true rfl) dX6_init_14 (fun a2 => ?_)
  show WN G 3 X 2 44 [(q, .inr (6, [.null, .null, .ref a1, .null, .null, .int 0, .int 0])), (a1, .inl (G.2 0, 40, .inl (fun _ => 0))), (a2, .inl (G.2 0, 4, .inl (fun _ => 0)))] 16 [(0, .ref q), (1, .ref qa), (2, .ref qb)] [.ref a2, .ref q]
  refine WN.put (q0 := 0) hx hi okX6 lf6_15 rfl rfl (Nat.le_of_ble_eq_true rfl) rfl rfl rfl rfl dX6_init_16 ?_
  show WN G 3 X 2 44 [(q, .inr (6, [.null, .null, .ref a1, .ref a2, .null, .int 0, .int 0])), (a1, .inl (G.2 0, 40, .inl (fun _ => 0))), (a2, .inl (G.2 0, 4, .inl (fun _ => 0)))] 19 [(0, .ref q), (1, .ref qa), (2, .ref qb)] []
  refine WN.aload_n hx dX6_init_19 rfl 0 rfl ?_
  refine WN.iconst (v := 4) hx dX6_init_20 (by decide) ?_
  refine WN.newI (N := 4) hx ax_int (by decide) (by decide) (by decide) (Nat.le_of_ble_eq_true rfl) (Nat.le_of_ble_eq_true rfl) dX6_init_21 (fun a3 => ?_)
  show WN G 3 X 3 48 [(q, .inr (6, [.null, .null, .ref a1, .ref a2, .null, .int 0, .int 0])), (a1, .inl (G.2 0, 40, .inl (fun _ => 0))), (a2, .inl (G.2 0, 4, .inl (fun _ => 0))), (a3, .inl (G.2 0, 4, .inl (fun _ => 0)))] 23 [(0, .ref q), (1, .ref qa), (2, .ref qb)] [.ref a3, .ref q]
  refine WN.put (q0 := 0) hx hi okX6 lf6_18 rfl rfl (Nat.le_of_ble_eq_true rfl) rfl rfl rfl rfl dX6_init_23 ?_
  show WN G 3 X 3 48 [(q, .inr (6, [.null, .null, .ref a1, .ref a2, .ref a3, .int 0, .int 0])), (a1, .inl (G.2 0, 40, .inl (fun _ => 0))), (a2, .inl (G.2 0, 4, .inl (fun _ => 0))), (a3, .inl (G.2 0, 4, .inl (fun _ => 0)))] 26 [(0, .ref q), (1, .ref qa), (2, .ref qb)] []
  refine WN.aload_n hx dX6_init_26 rfl 0 rfl ?_
  refine WN.aload_n hx dX6_init_27 rfl 1 rfl ?_
  refine WN.put (q0 := 0) hx hi okX6 lf6_21 rfl rfl (Nat.le_of_ble_eq_true rfl) rfl rfl rfl rfl dX6_init_28 ?_
  show WN G 3 X 3 48 [(q, .inr (6, [.ref qa, .null, .ref a1, .ref a2, .ref a3, .int 0, .int 0])), (a1, .inl (G.2 0, 40, .inl (fun _ => 0))), (a2, .inl (G.2 0, 4, .inl (fun _ => 0))), (a3, .inl (G.2 0, 4, .inl (fun _ => 0)))] 31 [(0, .ref q), (1, .ref qa), (2, .ref qb)] []
  refine WN.aload_n hx dX6_init_31 rfl 0 rfl ?_
  refine WN.new (C := kX9) (fs := [.null, .null, .int 0, .int 0, .int 0, .int 0, .int 0, .int 0, .int 0, .int 0]) hx okX9 lk6_25 iz9 in9 nf9 (Nat.le_of_ble_eq_true rfl) (Nat.le_of_ble_eq_true rfl) dX6_init_32 (fun a4 => ?_)
  show WN G 3 X 4 58 [(q, .inr (6, [.ref qa, .null, .ref a1, .ref a2, .ref a3, .int 0, .int 0])), (a1, .inl (G.2 0, 40, .inl (fun _ => 0))), (a2, .inl (G.2 0, 4, .inl (fun _ => 0))), (a3, .inl (G.2 0, 4, .inl (fun _ => 0))), (a4, .inr (9, [.null, .null, .int 0, .int 0, .int 0, .int 0, .int 0, .int 0, .int 0, .int 0]))] 35 [(0, .ref q), (1, .ref qa), (2, .ref qb)] [.ref a4, .ref q]
  refine WN.dup hx dX6_init_35 rfl ?_
  refine WN.aload_n hx dX6_init_36 rfl 1 rfl ?_
  refine WN.aload_n hx dX6_init_37 rfl 2 rfl ?_
  refine WN.callI (w0 := [(q, .inr (6, [.ref qa, .null, .ref a1, .ref a2, .ref a3, .int 0, .int 0])), (a1, .inl (G.2 0, 40, .inl (fun _ => 0))), (a2, .inl (G.2 0, 4, .inl (fun _ => 0))), (a3, .inl (G.2 0, 4, .inl (fun _ => 0)))]) (st := [.ref a4, .ref q]) [.ref qa, .ref qb] hx (cn_X9 G a4 qa qb) okX9_init li6_27 rfl rfl rfl (Nat.le_of_ble_eq_true rfl) ⟨(Nat.le_of_ble_eq_true rfl), (Nat.le_of_ble_eq_true rfl)⟩ ⟨(Nat.le_of_ble_eq_true rfl), (Nat.le_of_ble_eq_true rfl)⟩ dX6_init_38 (fun ws9 hw9 => ?_)
  obtain rfl := hw9
  show WN G 3 X 4 58 [(q, .inr (6, [.ref qa, .null, .ref a1, .ref a2, .ref a3, .int 0, .int 0])), (a1, .inl (G.2 0, 40, .inl (fun _ => 0))), (a2, .inl (G.2 0, 4, .inl (fun _ => 0))), (a3, .inl (G.2 0, 4, .inl (fun _ => 0))), (a4, .inr (9, [.ref qa, .ref qb, .int 0, .int 0, .int 0, .int 0, .int 0, .int 0, .int 0, .int 0]))] 41 [(0, .ref q), (1, .ref qa), (2, .ref qb)] [.ref a4, .ref q]
  refine WN.put (q0 := 0) hx hi okX6 lf6_30 rfl rfl (Nat.le_of_ble_eq_true rfl) rfl rfl rfl rfl dX6_init_41 ?_
  show WN G 3 X 4 58 [(q, .inr (6, [.ref qa, .ref a4, .ref a1, .ref a2, .ref a3, .int 0, .int 0])), (a1, .inl (G.2 0, 40, .inl (fun _ => 0))), (a2, .inl (G.2 0, 4, .inl (fun _ => 0))), (a3, .inl (G.2 0, 4, .inl (fun _ => 0))), (a4, .inr (9, [.ref qa, .ref qb, .int 0, .int 0, .int 0, .int 0, .int 0, .int 0, .int 0, .int 0]))] 44 [(0, .ref q), (1, .ref qa), (2, .ref qb)] []
  exact WN.vret hx he dX6_init_44 rfl rfl ⟨a1, a2, a3, a4, rfl⟩
set_option maxHeartbeats 2000000 in
theorem cn_X0 (G : Gc) (q : Nat) (qa : Nat) (qb : Nat) : CN G mX0_init { frames := 4, cells := 12, slots := 120, locals := 256 } [.ref q, .ref qa, .ref qb] [(q, .inr (0, [.null, .null, .null, .int 0, .int 0, .int 0, .int 0]))] (fun ws' => ∃ a1 a2 a3 a4 a5 a6 a7 a8 a9 a10 a11 a12 : Nat, ws' = [(q, .inr (0, [.ref qa, .ref a1, .ref a2, .int 0, .int 0, .int 0, .int 0])), (a1, .inl (G.2 4, 10, .inr (.inr (.inr (.inr (va_up (va_up (va_up (va_up (va_up (va_up (va_up (va_up (va_up (va_up (fun _ => none) 0 (some a3)) 1 (some a4)) 2 (some a5)) 3 (some a6)) 4 (some a7)) 5 (some a8)) 6 (some a9)) 7 (some a10)) 8 (some a11)) 9 (some a12))))))), (a2, .inl (G.2 0, 10, .inl (fun _ => 0))), (a3, .inr (9, [.ref qa, .ref qb, .int 0, .int 0, .int 0, .int 0, .int 0, .int 0, .int 0, .int 0])), (a4, .inr (9, [.ref qa, .ref qb, .int 0, .int 0, .int 0, .int 0, .int 0, .int 0, .int 0, .int 0])), (a5, .inr (9, [.ref qa, .ref qb, .int 0, .int 0, .int 0, .int 0, .int 0, .int 0, .int 0, .int 0])), (a6, .inr (9, [.ref qa, .ref qb, .int 0, .int 0, .int 0, .int 0, .int 0, .int 0, .int 0, .int 0])), (a7, .inr (9, [.ref qa, .ref qb, .int 0, .int 0, .int 0, .int 0, .int 0, .int 0, .int 0, .int 0])), (a8, .inr (9, [.ref qa, .ref qb, .int 0, .int 0, .int 0, .int 0, .int 0, .int 0, .int 0, .int 0])), (a9, .inr (9, [.ref qa, .ref qb, .int 0, .int 0, .int 0, .int 0, .int 0, .int 0, .int 0, .int 0])), (a10, .inr (9, [.ref qa, .ref qb, .int 0, .int 0, .int 0, .int 0, .int 0, .int 0, .int 0, .int 0])), (a11, .inr (9, [.ref qa, .ref qb, .int 0, .int 0, .int 0, .int 0, .int 0, .int 0, .int 0, .int 0])), (a12, .inr (9, [.ref qa, .ref qb, .int 0, .int 0, .int 0, .int 0, .int 0, .int 0, .int 0, .int 0]))]) := by
  refine CN.of (own := RX0) rfl rfl rfl (by decide) (Nat.le_of_ble_eq_true rfl) (fun X (hx : OkN G RX0 cX0_init 4 { frames := 4, cells := 12, slots := 120, locals := 256 } X) (hi : InN X) (he : EnN G { frames := 4, cells := 12, slots := 120, locals := 256 } (fun ws' => ∃ a1 a2 a3 a4 a5 a6 a7 a8 a9 a10 a11 a12 : Nat, ws' = [(q, .inr (0, [.ref qa, .ref a1, .ref a2, .int 0, .int 0, .int 0, .int 0])), (a1, .inl (G.2 4, 10, .inr (.inr (.inr (.inr (va_up (va_up (va_up (va_up (va_up (va_up (va_up (va_up (va_up (va_up (fun _ => none) 0 (some a3)) 1 (some a4)) 2 (some a5)) 3 (some a6)) 4 (some a7)) 5 (some a8)) 6 (some a9)) 7 (some a10)) 8 (some a11)) 9 (some a12))))))), (a2, .inl (G.2 0, 10, .inl (fun _ => 0))), (a3, .inr (9, [.ref qa, .ref qb, .int 0, .int 0, .int 0, .int 0, .int 0, .int 0, .int 0, .int 0])), (a4, .inr (9, [.ref qa, .ref qb, .int 0, .int 0, .int 0, .int 0, .int 0, .int 0, .int 0, .int 0])), (a5, .inr (9, [.ref qa, .ref qb, .int 0, .int 0, .int 0, .int 0, .int 0, .int 0, .int 0, .int 0])), (a6, .inr (9, [.ref qa, .ref qb, .int 0, .int 0, .int 0, .int 0, .int 0, .int 0, .int 0, .int 0])), (a7, .inr (9, [.ref qa, .ref qb, .int 0, .int 0, .int 0, .int 0, .int 0, .int 0, .int 0, .int 0])), (a8, .inr (9, [.ref qa, .ref qb, .int 0, .int 0, .int 0, .int 0, .int 0, .int 0, .int 0, .int 0])), (a9, .inr (9, [.ref qa, .ref qb, .int 0, .int 0, .int 0, .int 0, .int 0, .int 0, .int 0, .int 0])), (a10, .inr (9, [.ref qa, .ref qb, .int 0, .int 0, .int 0, .int 0, .int 0, .int 0, .int 0, .int 0])), (a11, .inr (9, [.ref qa, .ref qb, .int 0, .int 0, .int 0, .int 0, .int 0, .int 0, .int 0, .int 0])), (a12, .inr (9, [.ref qa, .ref qb, .int 0, .int 0, .int 0, .int 0, .int 0, .int 0, .int 0, .int 0]))]) X) => ?_)
  change WN G 4 X 0 0 [(q, .inr (0, [.null, .null, .null, .int 0, .int 0, .int 0, .int 0]))] 0 [(0, .ref q), (1, .ref qa), (2, .ref qb)] []
  refine WN.aload_n hx dX0_init_0 rfl 0 rfl ?_
  refine WN.objInit hx (by decide) (by decide) lo0_3 ob_i ob_c (Nat.le_of_ble_eq_true rfl) dX0_init_1 ?_
  refine WN.aload_n hx dX0_init_4 rfl 0 rfl ?_
  refine WN.bipush (v := 10) hx dX0_init_5 (by decide) ?_
  refine WN.newQ (k := 4) (N := 10) hx lk0_9 rfl (by decide) (by decide) (by decide) (by decide) (Nat.le_of_ble_eq_true rfl) (Nat.le_of_ble_eq_true rfl) dX0_init_7 (fun a1 => ?_)
  show WN G 4 X 1 10 [(q, .inr (0, [.null, .null, .null, .int 0, .int 0, .int 0, .int 0])), (a1, .inl (G.2 4, 10, .inr (.inr (.inr (.inr (fun _ => none))))))] 10 [(0, .ref q), (1, .ref qa), (2, .ref qb)] [.ref a1, .ref q]
  refine WN.put (q0 := 0) hx hi okX0 lf0_11 rfl rfl (Nat.le_of_ble_eq_true rfl) rfl rfl rfl rfl dX0_init_10 ?_
  show WN G 4 X 1 10 [(q, .inr (0, [.null, .ref a1, .null, .int 0, .int 0, .int 0, .int 0])), (a1, .inl (G.2 4, 10, .inr (.inr (.inr (.inr (fun _ => none))))))] 13 [(0, .ref q), (1, .ref qa), (2, .ref qb)] []
  refine WN.aload_n hx dX0_init_13 rfl 0 rfl ?_
  refine WN.bipush (v := 10) hx dX0_init_14 (by decide) ?_
  refine WN.newI (N := 10) hx ax_int (by decide) (by decide) (by decide) (Nat.le_of_ble_eq_true rfl) (Nat.le_of_ble_eq_true rfl) dX0_init_16 (fun a2 => ?_)
  show WN G 4 X 2 20 [(q, .inr (0, [.null, .ref a1, .null, .int 0, .int 0, .int 0, .int 0])), (a1, .inl (G.2 4, 10, .inr (.inr (.inr (.inr (fun _ => none)))))), (a2, .inl (G.2 0, 10, .inl (fun _ => 0)))] 18 [(0, .ref q), (1, .ref qa), (2, .ref qb)] [.ref a2, .ref q]
  refine WN.put (q0 := 0) hx hi okX0 lf0_17 rfl rfl (Nat.le_of_ble_eq_true rfl) rfl rfl rfl rfl dX0_init_18 ?_
  show WN G 4 X 2 20 [(q, .inr (0, [.null, .ref a1, .ref a2, .int 0, .int 0, .int 0, .int 0])), (a1, .inl (G.2 4, 10, .inr (.inr (.inr (.inr (fun _ => none)))))), (a2, .inl (G.2 0, 10, .inl (fun _ => 0)))] 21 [(0, .ref q), (1, .ref qa), (2, .ref qb)] []
  refine WN.aload_n hx dX0_init_21 rfl 0 rfl ?_
  refine WN.aload_n hx dX0_init_22 rfl 1 rfl ?_
  refine WN.put (q0 := 0) hx hi okX0 lf0_21 rfl rfl (Nat.le_of_ble_eq_true rfl) rfl rfl rfl rfl dX0_init_23 ?_
  show WN G 4 X 2 20 [(q, .inr (0, [.ref qa, .ref a1, .ref a2, .int 0, .int 0, .int 0, .int 0])), (a1, .inl (G.2 4, 10, .inr (.inr (.inr (.inr (fun _ => none)))))), (a2, .inl (G.2 0, 10, .inl (fun _ => 0)))] 26 [(0, .ref q), (1, .ref qa), (2, .ref qb)] []
  refine WN.iconst (v := 0) hx dX0_init_26 (by decide) ?_
  refine WN.istore_n (lo' := [(3, .int 0), (0, .ref q), (1, .ref qa), (2, .ref qb)]) hx dX0_init_27 rfl (by decide) rfl ?_
  refine WN.iload_n hx dX0_init_28 rfl 0 rfl ?_
  refine WN.bipush (v := 10) hx dX0_init_29 (by decide) ?_
  refine WN.icmp_ge (tgt := 55) hx dX0_init_31 (by decide) (fun h => absurd h (by decide)) (fun _ => ?_)
  refine WN.aload_n hx dX0_init_34 rfl 1 rfl ?_
  refine WN.get (q0 := 0) hx okX0 lf0_11 rfl rfl dX0_init_35 ?_
  show WN G 4 X 2 20 [(q, .inr (0, [.ref qa, .ref a1, .ref a2, .int 0, .int 0, .int 0, .int 0])), (a1, .inl (G.2 4, 10, .inr (.inr (.inr (.inr (fun _ => none)))))), (a2, .inl (G.2 0, 10, .inl (fun _ => 0)))] 38 [(3, .int 0), (0, .ref q), (1, .ref qa), (2, .ref qb)] [.ref a1]
  refine WN.iload_n hx dX0_init_38 rfl 0 rfl ?_
  refine WN.new (C := kX9) (fs := [.null, .null, .int 0, .int 0, .int 0, .int 0, .int 0, .int 0, .int 0, .int 0]) hx okX9 lk0_9 iz9 in9 nf9 (Nat.le_of_ble_eq_true rfl) (Nat.le_of_ble_eq_true rfl) dX0_init_39 (fun a3 => ?_)
  show WN G 4 X 3 30 [(q, .inr (0, [.ref qa, .ref a1, .ref a2, .int 0, .int 0, .int 0, .int 0])), (a1, .inl (G.2 4, 10, .inr (.inr (.inr (.inr (fun _ => none)))))), (a2, .inl (G.2 0, 10, .inl (fun _ => 0))), (a3, .inr (9, [.null, .null, .int 0, .int 0, .int 0, .int 0, .int 0, .int 0, .int 0, .int 0]))] 42 [(3, .int 0), (0, .ref q), (1, .ref qa), (2, .ref qb)] [.ref a3, .int 0, .ref a1]
  refine WN.dup hx dX0_init_42 rfl ?_
  refine WN.aload_n hx dX0_init_43 rfl 2 rfl ?_
  refine WN.aload_n hx dX0_init_44 rfl 3 rfl ?_
  refine WN.callI (w0 := [(q, .inr (0, [.ref qa, .ref a1, .ref a2, .int 0, .int 0, .int 0, .int 0])), (a1, .inl (G.2 4, 10, .inr (.inr (.inr (.inr (fun _ => none)))))), (a2, .inl (G.2 0, 10, .inl (fun _ => 0)))]) (st := [.ref a3, .int 0, .ref a1]) [.ref qa, .ref qb] hx (cn_X9 G a3 qa qb) okX9_init li0_25 rfl rfl rfl (Nat.le_of_ble_eq_true rfl) ⟨(Nat.le_of_ble_eq_true rfl), (Nat.le_of_ble_eq_true rfl)⟩ ⟨(Nat.le_of_ble_eq_true rfl), (Nat.le_of_ble_eq_true rfl)⟩ dX0_init_45 (fun ws9 hw9 => ?_)
  obtain rfl := hw9
  show WN G 4 X 3 30 [(q, .inr (0, [.ref qa, .ref a1, .ref a2, .int 0, .int 0, .int 0, .int 0])), (a1, .inl (G.2 4, 10, .inr (.inr (.inr (.inr (fun _ => none)))))), (a2, .inl (G.2 0, 10, .inl (fun _ => 0))), (a3, .inr (9, [.ref qa, .ref qb, .int 0, .int 0, .int 0, .int 0, .int 0, .int 0, .int 0, .int 0]))] 48 [(3, .int 0), (0, .ref q), (1, .ref qa), (2, .ref qb)] [.ref a3, .int 0, .ref a1]
  refine WN.aast (q0 := 1) (qk := 3) (ci := 9) (t0 := 4) hx rfl rfl rfl rfl (vp_dec (by decide)) rfl dX0_init_48 ?_
  show WN G 4 X 3 30 [(q, .inr (0, [.ref qa, .ref a1, .ref a2, .int 0, .int 0, .int 0, .int 0])), (a1, .inl (G.2 4, 10, .inr (.inr (.inr (.inr (va_up (fun _ => none) 0 (some a3))))))), (a2, .inl (G.2 0, 10, .inl (fun _ => 0))), (a3, .inr (9, [.ref qa, .ref qb, .int 0, .int 0, .int 0, .int 0, .int 0, .int 0, .int 0, .int 0]))] 49 [(3, .int 0), (0, .ref q), (1, .ref qa), (2, .ref qb)] []
  refine WN.iinc (v := 1) (lo' := [(3, .int 1), (0, .ref q), (1, .ref qa), (2, .ref qb)]) hx dX0_init_49 0 rfl (by decide) (by decide) rfl ?_
  refine WN.goto (tgt := 28) hx dX0_init_52 (by decide) ?_
  refine WN.iload_n hx dX0_init_28 rfl 0 rfl ?_
  refine WN.bipush (v := 10) hx dX0_init_29 (by decide) ?_
  refine WN.icmp_ge (tgt := 55) hx dX0_init_31 (by decide) (fun h => absurd h (by decide)) (fun _ => ?_)
  refine WN.aload_n hx dX0_init_34 rfl 1 rfl ?_
  refine WN.get (q0 := 0) hx okX0 lf0_11 rfl rfl dX0_init_35 ?_
  show WN G 4 X 3 30 [(q, .inr (0, [.ref qa, .ref a1, .ref a2, .int 0, .int 0, .int 0, .int 0])), (a1, .inl (G.2 4, 10, .inr (.inr (.inr (.inr (va_up (fun _ => none) 0 (some a3))))))), (a2, .inl (G.2 0, 10, .inl (fun _ => 0))), (a3, .inr (9, [.ref qa, .ref qb, .int 0, .int 0, .int 0, .int 0, .int 0, .int 0, .int 0, .int 0]))] 38 [(3, .int 1), (0, .ref q), (1, .ref qa), (2, .ref qb)] [.ref a1]
  refine WN.iload_n hx dX0_init_38 rfl 0 rfl ?_
  refine WN.new (C := kX9) (fs := [.null, .null, .int 0, .int 0, .int 0, .int 0, .int 0, .int 0, .int 0, .int 0]) hx okX9 lk0_9 iz9 in9 nf9 (Nat.le_of_ble_eq_true rfl) (Nat.le_of_ble_eq_true rfl) dX0_init_39 (fun a4 => ?_)
  show WN G 4 X 4 40 [(q, .inr (0, [.ref qa, .ref a1, .ref a2, .int 0, .int 0, .int 0, .int 0])), (a1, .inl (G.2 4, 10, .inr (.inr (.inr (.inr (va_up (fun _ => none) 0 (some a3))))))), (a2, .inl (G.2 0, 10, .inl (fun _ => 0))), (a3, .inr (9, [.ref qa, .ref qb, .int 0, .int 0, .int 0, .int 0, .int 0, .int 0, .int 0, .int 0])), (a4, .inr (9, [.null, .null, .int 0, .int 0, .int 0, .int 0, .int 0, .int 0, .int 0, .int 0]))] 42 [(3, .int 1), (0, .ref q), (1, .ref qa), (2, .ref qb)] [.ref a4, .int 1, .ref a1]
  refine WN.dup hx dX0_init_42 rfl ?_
  refine WN.aload_n hx dX0_init_43 rfl 2 rfl ?_
  refine WN.aload_n hx dX0_init_44 rfl 3 rfl ?_
  refine WN.callI (w0 := [(q, .inr (0, [.ref qa, .ref a1, .ref a2, .int 0, .int 0, .int 0, .int 0])), (a1, .inl (G.2 4, 10, .inr (.inr (.inr (.inr (va_up (fun _ => none) 0 (some a3))))))), (a2, .inl (G.2 0, 10, .inl (fun _ => 0))), (a3, .inr (9, [.ref qa, .ref qb, .int 0, .int 0, .int 0, .int 0, .int 0, .int 0, .int 0, .int 0]))]) (st := [.ref a4, .int 1, .ref a1]) [.ref qa, .ref qb] hx (cn_X9 G a4 qa qb) okX9_init li0_25 rfl rfl rfl (Nat.le_of_ble_eq_true rfl) ⟨(Nat.le_of_ble_eq_true rfl), (Nat.le_of_ble_eq_true rfl)⟩ ⟨(Nat.le_of_ble_eq_true rfl), (Nat.le_of_ble_eq_true rfl)⟩ dX0_init_45 (fun ws9 hw9 => ?_)
  obtain rfl := hw9
  show WN G 4 X 4 40 [(q, .inr (0, [.ref qa, .ref a1, .ref a2, .int 0, .int 0, .int 0, .int 0])), (a1, .inl (G.2 4, 10, .inr (.inr (.inr (.inr (va_up (fun _ => none) 0 (some a3))))))), (a2, .inl (G.2 0, 10, .inl (fun _ => 0))), (a3, .inr (9, [.ref qa, .ref qb, .int 0, .int 0, .int 0, .int 0, .int 0, .int 0, .int 0, .int 0])), (a4, .inr (9, [.ref qa, .ref qb, .int 0, .int 0, .int 0, .int 0, .int 0, .int 0, .int 0, .int 0]))] 48 [(3, .int 1), (0, .ref q), (1, .ref qa), (2, .ref qb)] [.ref a4, .int 1, .ref a1]
  refine WN.aast (q0 := 1) (qk := 4) (ci := 9) (t0 := 4) hx rfl rfl rfl rfl (vp_dec (by decide)) rfl dX0_init_48 ?_
  show WN G 4 X 4 40 [(q, .inr (0, [.ref qa, .ref a1, .ref a2, .int 0, .int 0, .int 0, .int 0])), (a1, .inl (G.2 4, 10, .inr (.inr (.inr (.inr (va_up (va_up (fun _ => none) 0 (some a3)) 1 (some a4))))))), (a2, .inl (G.2 0, 10, .inl (fun _ => 0))), (a3, .inr (9, [.ref qa, .ref qb, .int 0, .int 0, .int 0, .int 0, .int 0, .int 0, .int 0, .int 0])), (a4, .inr (9, [.ref qa, .ref qb, .int 0, .int 0, .int 0, .int 0, .int 0, .int 0, .int 0, .int 0]))] 49 [(3, .int 1), (0, .ref q), (1, .ref qa), (2, .ref qb)] []
  refine WN.iinc (v := 2) (lo' := [(3, .int 2), (0, .ref q), (1, .ref qa), (2, .ref qb)]) hx dX0_init_49 0 rfl (by decide) (by decide) rfl ?_
  refine WN.goto (tgt := 28) hx dX0_init_52 (by decide) ?_
  refine WN.iload_n hx dX0_init_28 rfl 0 rfl ?_
  refine WN.bipush (v := 10) hx dX0_init_29 (by decide) ?_
  refine WN.icmp_ge (tgt := 55) hx dX0_init_31 (by decide) (fun h => absurd h (by decide)) (fun _ => ?_)
  refine WN.aload_n hx dX0_init_34 rfl 1 rfl ?_
  refine WN.get (q0 := 0) hx okX0 lf0_11 rfl rfl dX0_init_35 ?_
  show WN G 4 X 4 40 [(q, .inr (0, [.ref qa, .ref a1, .ref a2, .int 0, .int 0, .int 0, .int 0])), (a1, .inl (G.2 4, 10, .inr (.inr (.inr (.inr (va_up (va_up (fun _ => none) 0 (some a3)) 1 (some a4))))))), (a2, .inl (G.2 0, 10, .inl (fun _ => 0))), (a3, .inr (9, [.ref qa, .ref qb, .int 0, .int 0, .int 0, .int 0, .int 0, .int 0, .int 0, .int 0])), (a4, .inr (9, [.ref qa, .ref qb, .int 0, .int 0, .int 0, .int 0, .int 0, .int 0, .int 0, .int 0]))] 38 [(3, .int 2), (0, .ref q), (1, .ref qa), (2, .ref qb)] [.ref a1]
  refine WN.iload_n hx dX0_init_38 rfl 0 rfl ?_
  refine WN.new (C := kX9) (fs := [.null, .null, .int 0, .int 0, .int 0, .int 0, .int 0, .int 0, .int 0, .int 0]) hx okX9 lk0_9 iz9 in9 nf9 (Nat.le_of_ble_eq_true rfl) (Nat.le_of_ble_eq_true rfl) dX0_init_39 (fun a5 => ?_)
  show WN G 4 X 5 50 [(q, .inr (0, [.ref qa, .ref a1, .ref a2, .int 0, .int 0, .int 0, .int 0])), (a1, .inl (G.2 4, 10, .inr (.inr (.inr (.inr (va_up (va_up (fun _ => none) 0 (some a3)) 1 (some a4))))))), (a2, .inl (G.2 0, 10, .inl (fun _ => 0))), (a3, .inr (9, [.ref qa, .ref qb, .int 0, .int 0, .int 0, .int 0, .int 0, .int 0, .int 0, .int 0])), (a4, .inr (9, [.ref qa, .ref qb, .int 0, .int 0, .int 0, .int 0, .int 0, .int 0, .int 0, .int 0])), (a5, .inr (9, [.null, .null, .int 0, .int 0, .int 0, .int 0, .int 0, .int 0, .int 0, .int 0]))] 42 [(3, .int 2), (0, .ref q), (1, .ref qa), (2, .ref qb)] [.ref a5, .int 2, .ref a1]
  refine WN.dup hx dX0_init_42 rfl ?_
  refine WN.aload_n hx dX0_init_43 rfl 2 rfl ?_
  refine WN.aload_n hx dX0_init_44 rfl 3 rfl ?_
  refine WN.callI (w0 := [(q, .inr (0, [.ref qa, .ref a1, .ref a2, .int 0, .int 0, .int 0, .int 0])), (a1, .inl (G.2 4, 10, .inr (.inr (.inr (.inr (va_up (va_up (fun _ => none) 0 (some a3)) 1 (some a4))))))), (a2, .inl (G.2 0, 10, .inl (fun _ => 0))), (a3, .inr (9, [.ref qa, .ref qb, .int 0, .int 0, .int 0, .int 0, .int 0, .int 0, .int 0, .int 0])), (a4, .inr (9, [.ref qa, .ref qb, .int 0, .int 0, .int 0, .int 0, .int 0, .int 0, .int 0, .int 0]))]) (st := [.ref a5, .int 2, .ref a1]) [.ref qa, .ref qb] hx (cn_X9 G a5 qa qb) okX9_init li0_25 rfl rfl rfl (Nat.le_of_ble_eq_true rfl) ⟨(Nat.le_of_ble_eq_true rfl), (Nat.le_of_ble_eq_true rfl)⟩ ⟨(Nat.le_of_ble_eq_true rfl), (Nat.le_of_ble_eq_true rfl)⟩ dX0_init_45 (fun ws9 hw9 => ?_)
  obtain rfl := hw9
  show WN G 4 X 5 50 [(q, .inr (0, [.ref qa, .ref a1, .ref a2, .int 0, .int 0, .int 0, .int 0])), (a1, .inl (G.2 4, 10, .inr (.inr (.inr (.inr (va_up (va_up (fun _ => none) 0 (some a3)) 1 (some a4))))))), (a2, .inl (G.2 0, 10, .inl (fun _ => 0))), (a3, .inr (9, [.ref qa, .ref qb, .int 0, .int 0, .int 0, .int 0, .int 0, .int 0, .int 0, .int 0])), (a4, .inr (9, [.ref qa, .ref qb, .int 0, .int 0, .int 0, .int 0, .int 0, .int 0, .int 0, .int 0])), (a5, .inr (9, [.ref qa, .ref qb, .int 0, .int 0, .int 0, .int 0, .int 0, .int 0, .int 0, .int 0]))] 48 [(3, .int 2), (0, .ref q), (1, .ref qa), (2, .ref qb)] [.ref a5, .int 2, .ref a1]
  refine WN.aast (q0 := 1) (qk := 5) (ci := 9) (t0 := 4) hx rfl rfl rfl rfl (vp_dec (by decide)) rfl dX0_init_48 ?_
  show WN G 4 X 5 50 [(q, .inr (0, [.ref qa, .ref a1, .ref a2, .int 0, .int 0, .int 0, .int 0])), (a1, .inl (G.2 4, 10, .inr (.inr (.inr (.inr (va_up (va_up (va_up (fun _ => none) 0 (some a3)) 1 (some a4)) 2 (some a5))))))), (a2, .inl (G.2 0, 10, .inl (fun _ => 0))), (a3, .inr (9, [.ref qa, .ref qb, .int 0, .int 0, .int 0, .int 0, .int 0, .int 0, .int 0, .int 0])), (a4, .inr (9, [.ref qa, .ref qb, .int 0, .int 0, .int 0, .int 0, .int 0, .int 0, .int 0, .int 0])), (a5, .inr (9, [.ref qa, .ref qb, .int 0, .int 0, .int 0, .int 0, .int 0, .int 0, .int 0, .int 0]))] 49 [(3, .int 2), (0, .ref q), (1, .ref qa), (2, .ref qb)] []
  refine WN.iinc (v := 3) (lo' := [(3, .int 3), (0, .ref q), (1, .ref qa), (2, .ref qb)]) hx dX0_init_49 0 rfl (by decide) (by decide) rfl ?_
  refine WN.goto (tgt := 28) hx dX0_init_52 (by decide) ?_
  refine WN.iload_n hx dX0_init_28 rfl 0 rfl ?_
  refine WN.bipush (v := 10) hx dX0_init_29 (by decide) ?_
  refine WN.icmp_ge (tgt := 55) hx dX0_init_31 (by decide) (fun h => absurd h (by decide)) (fun _ => ?_)
  refine WN.aload_n hx dX0_init_34 rfl 1 rfl ?_
  refine WN.get (q0 := 0) hx okX0 lf0_11 rfl rfl dX0_init_35 ?_
  show WN G 4 X 5 50 [(q, .inr (0, [.ref qa, .ref a1, .ref a2, .int 0, .int 0, .int 0, .int 0])), (a1, .inl (G.2 4, 10, .inr (.inr (.inr (.inr (va_up (va_up (va_up (fun _ => none) 0 (some a3)) 1 (some a4)) 2 (some a5))))))), (a2, .inl (G.2 0, 10, .inl (fun _ => 0))), (a3, .inr (9, [.ref qa, .ref qb, .int 0, .int 0, .int 0, .int 0, .int 0, .int 0, .int 0, .int 0])), (a4, .inr (9, [.ref qa, .ref qb, .int 0, .int 0, .int 0, .int 0, .int 0, .int 0, .int 0, .int 0])), (a5, .inr (9, [.ref qa, .ref qb, .int 0, .int 0, .int 0, .int 0, .int 0, .int 0, .int 0, .int 0]))] 38 [(3, .int 3), (0, .ref q), (1, .ref qa), (2, .ref qb)] [.ref a1]
  refine WN.iload_n hx dX0_init_38 rfl 0 rfl ?_
  refine WN.new (C := kX9) (fs := [.null, .null, .int 0, .int 0, .int 0, .int 0, .int 0, .int 0, .int 0, .int 0]) hx okX9 lk0_9 iz9 in9 nf9 (Nat.le_of_ble_eq_true rfl) (Nat.le_of_ble_eq_true rfl) dX0_init_39 (fun a6 => ?_)
  show WN G 4 X 6 60 [(q, .inr (0, [.ref qa, .ref a1, .ref a2, .int 0, .int 0, .int 0, .int 0])), (a1, .inl (G.2 4, 10, .inr (.inr (.inr (.inr (va_up (va_up (va_up (fun _ => none) 0 (some a3)) 1 (some a4)) 2 (some a5))))))), (a2, .inl (G.2 0, 10, .inl (fun _ => 0))), (a3, .inr (9, [.ref qa, .ref qb, .int 0, .int 0, .int 0, .int 0, .int 0, .int 0, .int 0, .int 0])), (a4, .inr (9, [.ref qa, .ref qb, .int 0, .int 0, .int 0, .int 0, .int 0, .int 0, .int 0, .int 0])), (a5, .inr (9, [.ref qa, .ref qb, .int 0, .int 0, .int 0, .int 0, .int 0, .int 0, .int 0, .int 0])), (a6, .inr (9, [.null, .null, .int 0, .int 0, .int 0, .int 0, .int 0, .int 0, .int 0, .int 0]))] 42 [(3, .int 3), (0, .ref q), (1, .ref qa), (2, .ref qb)] [.ref a6, .int 3, .ref a1]
  refine WN.dup hx dX0_init_42 rfl ?_
  refine WN.aload_n hx dX0_init_43 rfl 2 rfl ?_
  refine WN.aload_n hx dX0_init_44 rfl 3 rfl ?_
  refine WN.callI (w0 := [(q, .inr (0, [.ref qa, .ref a1, .ref a2, .int 0, .int 0, .int 0, .int 0])), (a1, .inl (G.2 4, 10, .inr (.inr (.inr (.inr (va_up (va_up (va_up (fun _ => none) 0 (some a3)) 1 (some a4)) 2 (some a5))))))), (a2, .inl (G.2 0, 10, .inl (fun _ => 0))), (a3, .inr (9, [.ref qa, .ref qb, .int 0, .int 0, .int 0, .int 0, .int 0, .int 0, .int 0, .int 0])), (a4, .inr (9, [.ref qa, .ref qb, .int 0, .int 0, .int 0, .int 0, .int 0, .int 0, .int 0, .int 0])), (a5, .inr (9, [.ref qa, .ref qb, .int 0, .int 0, .int 0, .int 0, .int 0, .int 0, .int 0, .int 0]))]) (st := [.ref a6, .int 3, .ref a1]) [.ref qa, .ref qb] hx (cn_X9 G a6 qa qb) okX9_init li0_25 rfl rfl rfl (Nat.le_of_ble_eq_true rfl) ⟨(Nat.le_of_ble_eq_true rfl), (Nat.le_of_ble_eq_true rfl)⟩ ⟨(Nat.le_of_ble_eq_true rfl), (Nat.le_of_ble_eq_true rfl)⟩ dX0_init_45 (fun ws9 hw9 => ?_)
  obtain rfl := hw9
  show WN G 4 X 6 60 [(q, .inr (0, [.ref qa, .ref a1, .ref a2, .int 0, .int 0, .int 0, .int 0])), (a1, .inl (G.2 4, 10, .inr (.inr (.inr (.inr (va_up (va_up (va_up (fun _ => none) 0 (some a3)) 1 (some a4)) 2 (some a5))))))), (a2, .inl (G.2 0, 10, .inl (fun _ => 0))), (a3, .inr (9, [.ref qa, .ref qb, .int 0, .int 0, .int 0, .int 0, .int 0, .int 0, .int 0, .int 0])), (a4, .inr (9, [.ref qa, .ref qb, .int 0, .int 0, .int 0, .int 0, .int 0, .int 0, .int 0, .int 0])), (a5, .inr (9, [.ref qa, .ref qb, .int 0, .int 0, .int 0, .int 0, .int 0, .int 0, .int 0, .int 0])), (a6, .inr (9, [.ref qa, .ref qb, .int 0, .int 0, .int 0, .int 0, .int 0, .int 0, .int 0, .int 0]))] 48 [(3, .int 3), (0, .ref q), (1, .ref qa), (2, .ref qb)] [.ref a6, .int 3, .ref a1]
  refine WN.aast (q0 := 1) (qk := 6) (ci := 9) (t0 := 4) hx rfl rfl rfl rfl (vp_dec (by decide)) rfl dX0_init_48 ?_
  show WN G 4 X 6 60 [(q, .inr (0, [.ref qa, .ref a1, .ref a2, .int 0, .int 0, .int 0, .int 0])), (a1, .inl (G.2 4, 10, .inr (.inr (.inr (.inr (va_up (va_up (va_up (va_up (fun _ => none) 0 (some a3)) 1 (some a4)) 2 (some a5)) 3 (some a6))))))), (a2, .inl (G.2 0, 10, .inl (fun _ => 0))), (a3, .inr (9, [.ref qa, .ref qb, .int 0, .int 0, .int 0, .int 0, .int 0, .int 0, .int 0, .int 0])), (a4, .inr (9, [.ref qa, .ref qb, .int 0, .int 0, .int 0, .int 0, .int 0, .int 0, .int 0, .int 0])), (a5, .inr (9, [.ref qa, .ref qb, .int 0, .int 0, .int 0, .int 0, .int 0, .int 0, .int 0, .int 0])), (a6, .inr (9, [.ref qa, .ref qb, .int 0, .int 0, .int 0, .int 0, .int 0, .int 0, .int 0, .int 0]))] 49 [(3, .int 3), (0, .ref q), (1, .ref qa), (2, .ref qb)] []
  refine WN.iinc (v := 4) (lo' := [(3, .int 4), (0, .ref q), (1, .ref qa), (2, .ref qb)]) hx dX0_init_49 0 rfl (by decide) (by decide) rfl ?_
  refine WN.goto (tgt := 28) hx dX0_init_52 (by decide) ?_
  refine WN.iload_n hx dX0_init_28 rfl 0 rfl ?_
  refine WN.bipush (v := 10) hx dX0_init_29 (by decide) ?_
  refine WN.icmp_ge (tgt := 55) hx dX0_init_31 (by decide) (fun h => absurd h (by decide)) (fun _ => ?_)
  refine WN.aload_n hx dX0_init_34 rfl 1 rfl ?_
  refine WN.get (q0 := 0) hx okX0 lf0_11 rfl rfl dX0_init_35 ?_
  show WN G 4 X 6 60 [(q, .inr (0, [.ref qa, .ref a1, .ref a2, .int 0, .int 0, .int 0, .int 0])), (a1, .inl (G.2 4, 10, .inr (.inr (.inr (.inr (va_up (va_up (va_up (va_up (fun _ => none) 0 (some a3)) 1 (some a4)) 2 (some a5)) 3 (some a6))))))), (a2, .inl (G.2 0, 10, .inl (fun _ => 0))), (a3, .inr (9, [.ref qa, .ref qb, .int 0, .int 0, .int 0, .int 0, .int 0, .int 0, .int 0, .int 0])), (a4, .inr (9, [.ref qa, .ref qb, .int 0, .int 0, .int 0, .int 0, .int 0, .int 0, .int 0, .int 0])), (a5, .inr (9, [.ref qa, .ref qb, .int 0, .int 0, .int 0, .int 0, .int 0, .int 0, .int 0, .int 0])), (a6, .inr (9, [.ref qa, .ref qb, .int 0, .int 0, .int 0, .int 0, .int 0, .int 0, .int 0, .int 0]))] 38 [(3, .int 4), (0, .ref q), (1, .ref qa), (2, .ref qb)] [.ref a1]
  refine WN.iload_n hx dX0_init_38 rfl 0 rfl ?_
  refine WN.new (C := kX9) (fs := [.null, .null, .int 0, .int 0, .int 0, .int 0, .int 0, .int 0, .int 0, .int 0]) hx okX9 lk0_9 iz9 in9 nf9 (Nat.le_of_ble_eq_true rfl) (Nat.le_of_ble_eq_true rfl) dX0_init_39 (fun a7 => ?_)
  show WN G 4 X 7 70 [(q, .inr (0, [.ref qa, .ref a1, .ref a2, .int 0, .int 0, .int 0, .int 0])), (a1, .inl (G.2 4, 10, .inr (.inr (.inr (.inr (va_up (va_up (va_up (va_up (fun _ => none) 0 (some a3)) 1 (some a4)) 2 (some a5)) 3 (some a6))))))), (a2, .inl (G.2 0, 10, .inl (fun _ => 0))), (a3, .inr (9, [.ref qa, .ref qb, .int 0, .int 0, .int 0, .int 0, .int 0, .int 0, .int 0, .int 0])), (a4, .inr (9, [.ref qa, .ref qb, .int 0, .int 0, .int 0, .int 0, .int 0, .int 0, .int 0, .int 0])), (a5, .inr (9, [.ref qa, .ref qb, .int 0, .int 0, .int 0, .int 0, .int 0, .int 0, .int 0, .int 0])), (a6, .inr (9, [.ref qa, .ref qb, .int 0, .int 0, .int 0, .int 0, .int 0, .int 0, .int 0, .int 0])), (a7, .inr (9, [.null, .null, .int 0, .int 0, .int 0, .int 0, .int 0, .int 0, .int 0, .int 0]))] 42 [(3, .int 4), (0, .ref q), (1, .ref qa), (2, .ref qb)] [.ref a7, .int 4, .ref a1]
  refine WN.dup hx dX0_init_42 rfl ?_
  refine WN.aload_n hx dX0_init_43 rfl 2 rfl ?_
  refine WN.aload_n hx dX0_init_44 rfl 3 rfl ?_
  refine WN.callI (w0 := [(q, .inr (0, [.ref qa, .ref a1, .ref a2, .int 0, .int 0, .int 0, .int 0])), (a1, .inl (G.2 4, 10, .inr (.inr (.inr (.inr (va_up (va_up (va_up (va_up (fun _ => none) 0 (some a3)) 1 (some a4)) 2 (some a5)) 3 (some a6))))))), (a2, .inl (G.2 0, 10, .inl (fun _ => 0))), (a3, .inr (9, [.ref qa, .ref qb, .int 0, .int 0, .int 0, .int 0, .int 0, .int 0, .int 0, .int 0])), (a4, .inr (9, [.ref qa, .ref qb, .int 0, .int 0, .int 0, .int 0, .int 0, .int 0, .int 0, .int 0])), (a5, .inr (9, [.ref qa, .ref qb, .int 0, .int 0, .int 0, .int 0, .int 0, .int 0, .int 0, .int 0])), (a6, .inr (9, [.ref qa, .ref qb, .int 0, .int 0, .int 0, .int 0, .int 0, .int 0, .int 0, .int 0]))]) (st := [.ref a7, .int 4, .ref a1]) [.ref qa, .ref qb] hx (cn_X9 G a7 qa qb) okX9_init li0_25 rfl rfl rfl (Nat.le_of_ble_eq_true rfl) ⟨(Nat.le_of_ble_eq_true rfl), (Nat.le_of_ble_eq_true rfl)⟩ ⟨(Nat.le_of_ble_eq_true rfl), (Nat.le_of_ble_eq_true rfl)⟩ dX0_init_45 (fun ws9 hw9 => ?_)
  obtain rfl := hw9
  show WN G 4 X 7 70 [(q, .inr (0, [.ref qa, .ref a1, .ref a2, .int 0, .int 0, .int 0, .int 0])), (a1, .inl (G.2 4, 10, .inr (.inr (.inr (.inr (va_up (va_up (va_up (va_up (fun _ => none) 0 (some a3)) 1 (some a4)) 2 (some a5)) 3 (some a6))))))), (a2, .inl (G.2 0, 10, .inl (fun _ => 0))), (a3, .inr (9, [.ref qa, .ref qb, .int 0, .int 0, .int 0, .int 0, .int 0, .int 0, .int 0, .int 0])), (a4, .inr (9, [.ref qa, .ref qb, .int 0, .int 0, .int 0, .int 0, .int 0, .int 0, .int 0, .int 0])), (a5, .inr (9, [.ref qa, .ref qb, .int 0, .int 0, .int 0, .int 0, .int 0, .int 0, .int 0, .int 0])), (a6, .inr (9, [.ref qa, .ref qb, .int 0, .int 0, .int 0, .int 0, .int 0, .int 0, .int 0, .int 0])), (a7, .inr (9, [.ref qa, .ref qb, .int 0, .int 0, .int 0, .int 0, .int 0, .int 0, .int 0, .int 0]))] 48 [(3, .int 4), (0, .ref q), (1, .ref qa), (2, .ref qb)] [.ref a7, .int 4, .ref a1]
  refine WN.aast (q0 := 1) (qk := 7) (ci := 9) (t0 := 4) hx rfl rfl rfl rfl (vp_dec (by decide)) rfl dX0_init_48 ?_
  show WN G 4 X 7 70 [(q, .inr (0, [.ref qa, .ref a1, .ref a2, .int 0, .int 0, .int 0, .int 0])), (a1, .inl (G.2 4, 10, .inr (.inr (.inr (.inr (va_up (va_up (va_up (va_up (va_up (fun _ => none) 0 (some a3)) 1 (some a4)) 2 (some a5)) 3 (some a6)) 4 (some a7))))))), (a2, .inl (G.2 0, 10, .inl (fun _ => 0))), (a3, .inr (9, [.ref qa, .ref qb, .int 0, .int 0, .int 0, .int 0, .int 0, .int 0, .int 0, .int 0])), (a4, .inr (9, [.ref qa, .ref qb, .int 0, .int 0, .int 0, .int 0, .int 0, .int 0, .int 0, .int 0])), (a5, .inr (9, [.ref qa, .ref qb, .int 0, .int 0, .int 0, .int 0, .int 0, .int 0, .int 0, .int 0])), (a6, .inr (9, [.ref qa, .ref qb, .int 0, .int 0, .int 0, .int 0, .int 0, .int 0, .int 0, .int 0])), (a7, .inr (9, [.ref qa, .ref qb, .int 0, .int 0, .int 0, .int 0, .int 0, .int 0, .int 0, .int 0]))] 49 [(3, .int 4), (0, .ref q), (1, .ref qa), (2, .ref qb)] []
  refine WN.iinc (v := 5) (lo' := [(3, .int 5), (0, .ref q), (1, .ref qa), (2, .ref qb)]) hx dX0_init_49 0 rfl (by decide) (by decide) rfl ?_
  refine WN.goto (tgt := 28) hx dX0_init_52 (by decide) ?_
  refine WN.iload_n hx dX0_init_28 rfl 0 rfl ?_
  refine WN.bipush (v := 10) hx dX0_init_29 (by decide) ?_
  refine WN.icmp_ge (tgt := 55) hx dX0_init_31 (by decide) (fun h => absurd h (by decide)) (fun _ => ?_)
  refine WN.aload_n hx dX0_init_34 rfl 1 rfl ?_
  refine WN.get (q0 := 0) hx okX0 lf0_11 rfl rfl dX0_init_35 ?_
  show WN G 4 X 7 70 [(q, .inr (0, [.ref qa, .ref a1, .ref a2, .int 0, .int 0, .int 0, .int 0])), (a1, .inl (G.2 4, 10, .inr (.inr (.inr (.inr (va_up (va_up (va_up (va_up (va_up (fun _ => none) 0 (some a3)) 1 (some a4)) 2 (some a5)) 3 (some a6)) 4 (some a7))))))), (a2, .inl (G.2 0, 10, .inl (fun _ => 0))), (a3, .inr (9, [.ref qa, .ref qb, .int 0, .int 0, .int 0, .int 0, .int 0, .int 0, .int 0, .int 0])), (a4, .inr (9, [.ref qa, .ref qb, .int 0, .int 0, .int 0, .int 0, .int 0, .int 0, .int 0, .int 0])), (a5, .inr (9, [.ref qa, .ref qb, .int 0, .int 0, .int 0, .int 0, .int 0, .int 0, .int 0, .int 0])), (a6, .inr (9, [.ref qa, .ref qb, .int 0, .int 0, .int 0, .int 0, .int 0, .int 0, .int 0, .int 0])), (a7, .inr (9, [.ref qa, .ref qb, .int 0, .int 0, .int 0, .int 0, .int 0, .int 0, .int 0, .int 0]))] 38 [(3, .int 5), (0, .ref q), (1, .ref qa), (2, .ref qb)] [.ref a1]
  refine WN.iload_n hx dX0_init_38 rfl 0 rfl ?_
  refine WN.new (C := kX9) (fs := [.null, .null, .int 0, .int 0, .int 0, .int 0, .int 0, .int 0, .int 0, .int 0]) hx okX9 lk0_9 iz9 in9 nf9 (Nat.le_of_ble_eq_true rfl) (Nat.le_of_ble_eq_true rfl) dX0_init_39 (fun a8 => ?_)
  show WN G 4 X 8 80 [(q, .inr (0, [.ref qa, .ref a1, .ref a2, .int 0, .int 0, .int 0, .int 0])), (a1, .inl (G.2 4, 10, .inr (.inr (.inr (.inr (va_up (va_up (va_up (va_up (va_up (fun _ => none) 0 (some a3)) 1 (some a4)) 2 (some a5)) 3 (some a6)) 4 (some a7))))))), (a2, .inl (G.2 0, 10, .inl (fun _ => 0))), (a3, .inr (9, [.ref qa, .ref qb, .int 0, .int 0, .int 0, .int 0, .int 0, .int 0, .int 0, .int 0])), (a4, .inr (9, [.ref qa, .ref qb, .int 0, .int 0, .int 0, .int 0, .int 0, .int 0, .int 0, .int 0])), (a5, .inr (9, [.ref qa, .ref qb, .int 0, .int 0, .int 0, .int 0, .int 0, .int 0, .int 0, .int 0])), (a6, .inr (9, [.ref qa, .ref qb, .int 0, .int 0, .int 0, .int 0, .int 0, .int 0, .int 0, .int 0])), (a7, .inr (9, [.ref qa, .ref qb, .int 0, .int 0, .int 0, .int 0, .int 0, .int 0, .int 0, .int 0])), (a8, .inr (9, [.null, .null, .int 0, .int 0, .int 0, .int 0, .int 0, .int 0, .int 0, .int 0]))] 42 [(3, .int 5), (0, .ref q), (1, .ref qa), (2, .ref qb)] [.ref a8, .int 5, .ref a1]
  refine WN.dup hx dX0_init_42 rfl ?_
  refine WN.aload_n hx dX0_init_43 rfl 2 rfl ?_
  refine WN.aload_n hx dX0_init_44 rfl 3 rfl ?_
  refine WN.callI (w0 := [(q, .inr (0, [.ref qa, .ref a1, .ref a2, .int 0, .int 0, .int 0, .int 0])), (a1, .inl (G.2 4, 10, .inr (.inr (.inr (.inr (va_up (va_up (va_up (va_up (va_up (fun _ => none) 0 (some a3)) 1 (some a4)) 2 (some a5)) 3 (some a6)) 4 (some a7))))))), (a2, .inl (G.2 0, 10, .inl (fun _ => 0))), (a3, .inr (9, [.ref qa, .ref qb, .int 0, .int 0, .int 0, .int 0, .int 0, .int 0, .int 0, .int 0])), (a4, .inr (9, [.ref qa, .ref qb, .int 0, .int 0, .int 0, .int 0, .int 0, .int 0, .int 0, .int 0])), (a5, .inr (9, [.ref qa, .ref qb, .int 0, .int 0, .int 0, .int 0, .int 0, .int 0, .int 0, .int 0])), (a6, .inr (9, [.ref qa, .ref qb, .int 0, .int 0, .int 0, .int 0, .int 0, .int 0, .int 0, .int 0])), (a7, .inr (9, [.ref qa, .ref qb, .int 0, .int 0, .int 0, .int 0, .int 0, .int 0, .int 0, .int 0]))]) (st := [.ref a8, .int 5, .ref a1]) [.ref qa, .ref qb] hx (cn_X9 G a8 qa qb) okX9_init li0_25 rfl rfl rfl (Nat.le_of_ble_eq_true rfl) ⟨(Nat.le_of_ble_eq_true rfl), (Nat.le_of_ble_eq_true rfl)⟩ ⟨(Nat.le_of_ble_eq_true rfl), (Nat.le_of_ble_eq_true rfl)⟩ dX0_init_45 (fun ws9 hw9 => ?_)
  obtain rfl := hw9
  show WN G 4 X 8 80 [(q, .inr (0, [.ref qa, .ref a1, .ref a2, .int 0, .int 0, .int 0, .int 0])), (a1, .inl (G.2 4, 10, .inr (.inr (.inr (.inr (va_up (va_up (va_up (va_up (va_up (fun _ => none) 0 (some a3)) 1 (some a4)) 2 (some a5)) 3 (some a6)) 4 (some a7))))))), (a2, .inl (G.2 0, 10, .inl (fun _ => 0))), (a3, .inr (9, [.ref qa, .ref qb, .int 0, .int 0, .int 0, .int 0, .int 0, .int 0, .int 0, .int 0])), (a4, .inr (9, [.ref qa, .ref qb, .int 0, .int 0, .int 0, .int 0, .int 0, .int 0, .int 0, .int 0])), (a5, .inr (9, [.ref qa, .ref qb, .int 0, .int 0, .int 0, .int 0, .int 0, .int 0, .int 0, .int 0])), (a6, .inr (9, [.ref qa, .ref qb, .int 0, .int 0, .int 0, .int 0, .int 0, .int 0, .int 0, .int 0])), (a7, .inr (9, [.ref qa, .ref qb, .int 0, .int 0, .int 0, .int 0, .int 0, .int 0, .int 0, .int 0])), (a8, .inr (9, [.ref qa, .ref qb, .int 0, .int 0, .int 0, .int 0, .int 0, .int 0, .int 0, .int 0]))] 48 [(3, .int 5), (0, .ref q), (1, .ref qa), (2, .ref qb)] [.ref a8, .int 5, .ref a1]
  refine WN.aast (q0 := 1) (qk := 8) (ci := 9) (t0 := 4) hx rfl rfl rfl rfl (vp_dec (by decide)) rfl dX0_init_48 ?_
  show WN G 4 X 8 80 [(q, .inr (0, [.ref qa, .ref a1, .ref a2, .int 0, .int 0, .int 0, .int 0])), (a1, .inl (G.2 4, 10, .inr (.inr (.inr (.inr (va_up (va_up (va_up (va_up (va_up (va_up (fun _ => none) 0 (some a3)) 1 (some a4)) 2 (some a5)) 3 (some a6)) 4 (some a7)) 5 (some a8))))))), (a2, .inl (G.2 0, 10, .inl (fun _ => 0))), (a3, .inr (9, [.ref qa, .ref qb, .int 0, .int 0, .int 0, .int 0, .int 0, .int 0, .int 0, .int 0])), (a4, .inr (9, [.ref qa, .ref qb, .int 0, .int 0, .int 0, .int 0, .int 0, .int 0, .int 0, .int 0])), (a5, .inr (9, [.ref qa, .ref qb, .int 0, .int 0, .int 0, .int 0, .int 0, .int 0, .int 0, .int 0])), (a6, .inr (9, [.ref qa, .ref qb, .int 0, .int 0, .int 0, .int 0, .int 0, .int 0, .int 0, .int 0])), (a7, .inr (9, [.ref qa, .ref qb, .int 0, .int 0, .int 0, .int 0, .int 0, .int 0, .int 0, .int 0])), (a8, .inr (9, [.ref qa, .ref qb, .int 0, .int 0, .int 0, .int 0, .int 0, .int 0, .int 0, .int 0]))] 49 [(3, .int 5), (0, .ref q), (1, .ref qa), (2, .ref qb)] []
  refine WN.iinc (v := 6) (lo' := [(3, .int 6), (0, .ref q), (1, .ref qa), (2, .ref qb)]) hx dX0_init_49 0 rfl (by decide) (by decide) rfl ?_
  refine WN.goto (tgt := 28) hx dX0_init_52 (by decide) ?_
  refine WN.iload_n hx dX0_init_28 rfl 0 rfl ?_
  refine WN.bipush (v := 10) hx dX0_init_29 (by decide) ?_
  refine WN.icmp_ge (tgt := 55) hx dX0_init_31 (by decide) (fun h => absurd h (by decide)) (fun _ => ?_)
  refine WN.aload_n hx dX0_init_34 rfl 1 rfl ?_
  refine WN.get (q0 := 0) hx okX0 lf0_11 rfl rfl dX0_init_35 ?_
  show WN G 4 X 8 80 [(q, .inr (0, [.ref qa, .ref a1, .ref a2, .int 0, .int 0, .int 0, .int 0])), (a1, .inl (G.2 4, 10, .inr (.inr (.inr (.inr (va_up (va_up (va_up (va_up (va_up (va_up (fun _ => none) 0 (some a3)) 1 (some a4)) 2 (some a5)) 3 (some a6)) 4 (some a7)) 5 (some a8))))))), (a2, .inl (G.2 0, 10, .inl (fun _ => 0))), (a3, .inr (9, [.ref qa, .ref qb, .int 0, .int 0, .int 0, .int 0, .int 0, .int 0, .int 0, .int 0])), (a4, .inr (9, [.ref qa, .ref qb, .int 0, .int 0, .int 0, .int 0, .int 0, .int 0, .int 0, .int 0])), (a5, .inr (9, [.ref qa, .ref qb, .int 0, .int 0, .int 0, .int 0, .int 0, .int 0, .int 0, .int 0])), (a6, .inr (9, [.ref qa, .ref qb, .int 0, .int 0, .int 0, .int 0, .int 0, .int 0, .int 0, .int 0])), (a7, .inr (9, [.ref qa, .ref qb, .int 0, .int 0, .int 0, .int 0, .int 0, .int 0, .int 0, .int 0])), (a8, .inr (9, [.ref qa, .ref qb, .int 0, .int 0, .int 0, .int 0, .int 0, .int 0, .int 0, .int 0]))] 38 [(3, .int 6), (0, .ref q), (1, .ref qa), (2, .ref qb)] [.ref a1]
  refine WN.iload_n hx dX0_init_38 rfl 0 rfl ?_
  refine WN.new (C := kX9) (fs := [.null, .null, .int 0, .int 0, .int 0, .int 0, .int 0, .int 0, .int 0, .int 0]) hx okX9 lk0_9 iz9 in9 nf9 (Nat.le_of_ble_eq_true rfl) (Nat.le_of_ble_eq_true rfl) dX0_init_39 (fun a9 => ?_)
  show WN G 4 X 9 90 [(q, .inr (0, [.ref qa, .ref a1, .ref a2, .int 0, .int 0, .int 0, .int 0])), (a1, .inl (G.2 4, 10, .inr (.inr (.inr (.inr (va_up (va_up (va_up (va_up (va_up (va_up (fun _ => none) 0 (some a3)) 1 (some a4)) 2 (some a5)) 3 (some a6)) 4 (some a7)) 5 (some a8))))))), (a2, .inl (G.2 0, 10, .inl (fun _ => 0))), (a3, .inr (9, [.ref qa, .ref qb, .int 0, .int 0, .int 0, .int 0, .int 0, .int 0, .int 0, .int 0])), (a4, .inr (9, [.ref qa, .ref qb, .int 0, .int 0, .int 0, .int 0, .int 0, .int 0, .int 0, .int 0])), (a5, .inr (9, [.ref qa, .ref qb, .int 0, .int 0, .int 0, .int 0, .int 0, .int 0, .int 0, .int 0])), (a6, .inr (9, [.ref qa, .ref qb, .int 0, .int 0, .int 0, .int 0, .int 0, .int 0, .int 0, .int 0])), (a7, .inr (9, [.ref qa, .ref qb, .int 0, .int 0, .int 0, .int 0, .int 0, .int 0, .int 0, .int 0])), (a8, .inr (9, [.ref qa, .ref qb, .int 0, .int 0, .int 0, .int 0, .int 0, .int 0, .int 0, .int 0])), (a9, .inr (9, [.null, .null, .int 0, .int 0, .int 0, .int 0, .int 0, .int 0, .int 0, .int 0]))] 42 [(3, .int 6), (0, .ref q), (1, .ref qa), (2, .ref qb)] [.ref a9, .int 6, .ref a1]
  refine WN.dup hx dX0_init_42 rfl ?_
  refine WN.aload_n hx dX0_init_43 rfl 2 rfl ?_
  refine WN.aload_n hx dX0_init_44 rfl 3 rfl ?_
  refine WN.callI (w0 := [(q, .inr (0, [.ref qa, .ref a1, .ref a2, .int 0, .int 0, .int 0, .int 0])), (a1, .inl (G.2 4, 10, .inr (.inr (.inr (.inr (va_up (va_up (va_up (va_up (va_up (va_up (fun _ => none) 0 (some a3)) 1 (some a4)) 2 (some a5)) 3 (some a6)) 4 (some a7)) 5 (some a8))))))), (a2, .inl (G.2 0, 10, .inl (fun _ => 0))), (a3, .inr (9, [.ref qa, .ref qb, .int 0, .int 0, .int 0, .int 0, .int 0, .int 0, .int 0, .int 0])), (a4, .inr (9, [.ref qa, .ref qb, .int 0, .int 0, .int 0, .int 0, .int 0, .int 0, .int 0, .int 0])), (a5, .inr (9, [.ref qa, .ref qb, .int 0, .int 0, .int 0, .int 0, .int 0, .int 0, .int 0, .int 0])), (a6, .inr (9, [.ref qa, .ref qb, .int 0, .int 0, .int 0, .int 0, .int 0, .int 0, .int 0, .int 0])), (a7, .inr (9, [.ref qa, .ref qb, .int 0, .int 0, .int 0, .int 0, .int 0, .int 0, .int 0, .int 0])), (a8, .inr (9, [.ref qa, .ref qb, .int 0, .int 0, .int 0, .int 0, .int 0, .int 0, .int 0, .int 0]))]) (st := [.ref a9, .int 6, .ref a1]) [.ref qa, .ref qb] hx (cn_X9 G a9 qa qb) okX9_init li0_25 rfl rfl rfl (Nat.le_of_ble_eq_true rfl) ⟨(Nat.le_of_ble_eq_true rfl), (Nat.le_of_ble_eq_true rfl)⟩ ⟨(Nat.le_of_ble_eq_true rfl), (Nat.le_of_ble_eq_true rfl)⟩ dX0_init_45 (fun ws9 hw9 => ?_)
  obtain rfl := hw9
  show WN G 4 X 9 90 [(q, .inr (0, [.ref qa, .ref a1, .ref a2, .int 0, .int 0, .int 0, .int 0])), (a1, .inl (G.2 4, 10, .inr (.inr (.inr (.inr (va_up (va_up (va_up (va_up (va_up (va_up (fun _ => none) 0 (some a3)) 1 (some a4)) 2 (some a5)) 3 (some a6)) 4 (some a7)) 5 (some a8))))))), (a2, .inl (G.2 0, 10, .inl (fun _ => 0))), (a3, .inr (9, [.ref qa, .ref qb, .int 0, .int 0, .int 0, .int 0, .int 0, .int 0, .int 0, .int 0])), (a4, .inr (9, [.ref qa, .ref qb, .int 0, .int 0, .int 0, .int 0, .int 0, .int 0, .int 0, .int 0])), (a5, .inr (9, [.ref qa, .ref qb, .int 0, .int 0, .int 0, .int 0, .int 0, .int 0, .int 0, .int 0])), (a6, .inr (9, [.ref qa, .ref qb, .int 0, .int 0, .int 0, .int 0, .int 0, .int 0, .int 0, .int 0])), (a7, .inr (9, [.ref qa, .ref qb, .int 0, .int 0, .int 0, .int 0, .int 0, .int 0, .int 0, .int 0])), (a8, .inr (9, [.ref qa, .ref qb, .int 0, .int 0, .int 0, .int 0, .int 0, .int 0, .int 0, .int 0])), (a9, .inr (9, [.ref qa, .ref qb, .int 0, .int 0, .int 0, .int 0, .int 0, .int 0, .int 0, .int 0]))] 48 [(3, .int 6), (0, .ref q), (1, .ref qa), (2, .ref qb)] [.ref a9, .int 6, .ref a1]
  refine WN.aast (q0 := 1) (qk := 9) (ci := 9) (t0 := 4) hx rfl rfl rfl rfl (vp_dec (by decide)) rfl dX0_init_48 ?_
  show WN G 4 X 9 90 [(q, .inr (0, [.ref qa, .ref a1, .ref a2, .int 0, .int 0, .int 0, .int 0])), (a1, .inl (G.2 4, 10, .inr (.inr (.inr (.inr (va_up (va_up (va_up (va_up (va_up (va_up (va_up (fun _ => none) 0 (some a3)) 1 (some a4)) 2 (some a5)) 3 (some a6)) 4 (some a7)) 5 (some a8)) 6 (some a9))))))), (a2, .inl (G.2 0, 10, .inl (fun _ => 0))), (a3, .inr (9, [.ref qa, .ref qb, .int 0, .int 0, .int 0, .int 0, .int 0, .int 0, .int 0, .int 0])), (a4, .inr (9, [.ref qa, .ref qb, .int 0, .int 0, .int 0, .int 0, .int 0, .int 0, .int 0, .int 0])), (a5, .inr (9, [.ref qa, .ref qb, .int 0, .int 0, .int 0, .int 0, .int 0, .int 0, .int 0, .int 0])), (a6, .inr (9, [.ref qa, .ref qb, .int 0, .int 0, .int 0, .int 0, .int 0, .int 0, .int 0, .int 0])), (a7, .inr (9, [.ref qa, .ref qb, .int 0, .int 0, .int 0, .int 0, .int 0, .int 0, .int 0, .int 0])), (a8, .inr (9, [.ref qa, .ref qb, .int 0, .int 0, .int 0, .int 0, .int 0, .int 0, .int 0, .int 0])), (a9, .inr (9, [.ref qa, .ref qb, .int 0, .int 0, .int 0, .int 0, .int 0, .int 0, .int 0, .int 0]))] 49 [(3, .int 6), (0, .ref q), (1, .ref qa), (2, .ref qb)] []
  refine WN.iinc (v := 7) (lo' := [(3, .int 7), (0, .ref q), (1, .ref qa), (2, .ref qb)]) hx dX0_init_49 0 rfl (by decide) (by decide) rfl ?_
  refine WN.goto (tgt := 28) hx dX0_init_52 (by decide) ?_
  refine WN.iload_n hx dX0_init_28 rfl 0 rfl ?_
  refine WN.bipush (v := 10) hx dX0_init_29 (by decide) ?_
  refine WN.icmp_ge (tgt := 55) hx dX0_init_31 (by decide) (fun h => absurd h (by decide)) (fun _ => ?_)
  refine WN.aload_n hx dX0_init_34 rfl 1 rfl ?_
  refine WN.get (q0 := 0) hx okX0 lf0_11 rfl rfl dX0_init_35 ?_
  show WN G 4 X 9 90 [(q, .inr (0, [.ref qa, .ref a1, .ref a2, .int 0, .int 0, .int 0, .int 0])), (a1, .inl (G.2 4, 10, .inr (.inr (.inr (.inr (va_up (va_up (va_up (va_up (va_up (va_up (va_up (fun _ => none) 0 (some a3)) 1 (some a4)) 2 (some a5)) 3 (some a6)) 4 (some a7)) 5 (some a8)) 6 (some a9))))))), (a2, .inl (G.2 0, 10, .inl (fun _ => 0))), (a3, .inr (9, [.ref qa, .ref qb, .int 0, .int 0, .int 0, .int 0, .int 0, .int 0, .int 0, .int 0])), (a4, .inr (9, [.ref qa, .ref qb, .int 0, .int 0, .int 0, .int 0, .int 0, .int 0, .int 0, .int 0])), (a5, .inr (9, [.ref qa, .ref qb, .int 0, .int 0, .int 0, .int 0, .int 0, .int 0, .int 0, .int 0])), (a6, .inr (9, [.ref qa, .ref qb, .int 0, .int 0, .int 0, .int 0, .int 0, .int 0, .int 0, .int 0])), (a7, .inr (9, [.ref qa, .ref qb, .int 0, .int 0, .int 0, .int 0, .int 0, .int 0, .int 0, .int 0])), (a8, .inr (9, [.ref qa, .ref qb, .int 0, .int 0, .int 0, .int 0, .int 0, .int 0, .int 0, .int 0])), (a9, .inr (9, [.ref qa, .ref qb, .int 0, .int 0, .int 0, .int 0, .int 0, .int 0, .int 0, .int 0]))] 38 [(3, .int 7), (0, .ref q), (1, .ref qa), (2, .ref qb)] [.ref a1]
  refine WN.iload_n hx dX0_init_38 rfl 0 rfl ?_
  refine WN.new (C := kX9) (fs := [.null, .null, .int 0, .int 0, .int 0, .int 0, .int 0, .int 0, .int 0, .int 0]) hx okX9 lk0_9 iz9 in9 nf9 (Nat.le_of_ble_eq_true rfl) (Nat.le_of_ble_eq_true rfl) dX0_init_39 (fun a10 => ?_)
  show WN G 4 X 10 100 [(q, .inr (0, [.ref qa, .ref a1, .ref a2, .int 0, .int 0, .int 0, .int 0])), (a1, .inl (G.2 4, 10, .inr (.inr (.inr (.inr (va_up (va_up (va_up (va_up (va_up (va_up (va_up (fun _ => none) 0 (some a3)) 1 (some a4)) 2 (some a5)) 3 (some a6)) 4 (some a7)) 5 (some a8)) 6 (some a9))))))), (a2, .inl (G.2 0, 10, .inl (fun _ => 0))), (a3, .inr (9, [.ref qa, .ref qb, .int 0, .int 0, .int 0, .int 0, .int 0, .int 0, .int 0, .int 0])), (a4, .inr (9, [.ref qa, .ref qb, .int 0, .int 0, .int 0, .int 0, .int 0, .int 0, .int 0, .int 0])), (a5, .inr (9, [.ref qa, .ref qb, .int 0, .int 0, .int 0, .int 0, .int 0, .int 0, .int 0, .int 0])), (a6, .inr (9, [.ref qa, .ref qb, .int 0, .int 0, .int 0, .int 0, .int 0, .int 0, .int 0, .int 0])), (a7, .inr (9, [.ref qa, .ref qb, .int 0, .int 0, .int 0, .int 0, .int 0, .int 0, .int 0, .int 0])), (a8, .inr (9, [.ref qa, .ref qb, .int 0, .int 0, .int 0, .int 0, .int 0, .int 0, .int 0, .int 0])), (a9, .inr (9, [.ref qa, .ref qb, .int 0, .int 0, .int 0, .int 0, .int 0, .int 0, .int 0, .int 0])), (a10, .inr (9, [.null, .null, .int 0, .int 0, .int 0, .int 0, .int 0, .int 0, .int 0, .int 0]))] 42 [(3, .int 7), (0, .ref q), (1, .ref qa), (2, .ref qb)] [.ref a10, .int 7, .ref a1]
  refine WN.dup hx dX0_init_42 rfl ?_
  refine WN.aload_n hx dX0_init_43 rfl 2 rfl ?_
  refine WN.aload_n hx dX0_init_44 rfl 3 rfl ?_
  refine WN.callI (w0 := [(q, .inr (0, [.ref qa, .ref a1, .ref a2, .int 0, .int 0, .int 0, .int 0])), (a1, .inl (G.2 4, 10, .inr (.inr (.inr (.inr (va_up (va_up (va_up (va_up (va_up (va_up (va_up (fun _ => none) 0 (some a3)) 1 (some a4)) 2 (some a5)) 3 (some a6)) 4 (some a7)) 5 (some a8)) 6 (some a9))))))), (a2, .inl (G.2 0, 10, .inl (fun _ => 0))), (a3, .inr (9, [.ref qa, .ref qb, .int 0, .int 0, .int 0, .int 0, .int 0, .int 0, .int 0, .int 0])), (a4, .inr (9, [.ref qa, .ref qb, .int 0, .int 0, .int 0, .int 0, .int 0, .int 0, .int 0, .int 0])), (a5, .inr (9, [.ref qa, .ref qb, .int 0, .int 0, .int 0, .int 0, .int 0, .int 0, .int 0, .int 0])), (a6, .inr (9, [.ref qa, .ref qb, .int 0, .int 0, .int 0, .int 0, .int 0, .int 0, .int 0, .int 0])), (a7, .inr (9, [.ref qa, .ref qb, .int 0, .int 0, .int 0, .int 0, .int 0, .int 0, .int 0, .int 0])), (a8, .inr (9, [.ref qa, .ref qb, .int 0, .int 0, .int 0, .int 0, .int 0, .int 0, .int 0, .int 0])), (a9, .inr (9, [.ref qa, .ref qb, .int 0, .int 0, .int 0, .int 0, .int 0, .int 0, .int 0, .int 0]))]) (st := [.ref a10, .int 7, .ref a1]) [.ref qa, .ref qb] hx (cn_X9 G a10 qa qb) okX9_init li0_25 rfl rfl rfl (Nat.le_of_ble_eq_true rfl) ⟨(Nat.le_of_ble_eq_true rfl), (Nat.le_of_ble_eq_true rfl)⟩ ⟨(Nat.le_of_ble_eq_true rfl), (Nat.le_of_ble_eq_true rfl)⟩ dX0_init_45 (fun ws9 hw9 => ?_)
  obtain rfl := hw9
  show WN G 4 X 10 100 [(q, .inr (0, [.ref qa, .ref a1, .ref a2, .int 0, .int 0, .int 0, .int 0])), (a1, .inl (G.2 4, 10, .inr (.inr (.inr (.inr (va_up (va_up (va_up (va_up (va_up (va_up (va_up (fun _ => none) 0 (some a3)) 1 (some a4)) 2 (some a5)) 3 (some a6)) 4 (some a7)) 5 (some a8)) 6 (some a9))))))), (a2, .inl (G.2 0, 10, .inl (fun _ => 0))), (a3, .inr (9, [.ref qa, .ref qb, .int 0, .int 0, .int 0, .int 0, .int 0, .int 0, .int 0, .int 0])), (a4, .inr (9, [.ref qa, .ref qb, .int 0, .int 0, .int 0, .int 0, .int 0, .int 0, .int 0, .int 0])), (a5, .inr (9, [.ref qa, .ref qb, .int 0, .int 0, .int 0, .int 0, .int 0, .int 0, .int 0, .int 0])), (a6, .inr (9, [.ref qa, .ref qb, .int 0, .int 0, .int 0, .int 0, .int 0, .int 0, .int 0, .int 0])), (a7, .inr (9, [.ref qa, .ref qb, .int 0, .int 0, .int 0, .int 0, .int 0, .int 0, .int 0, .int 0])), (a8, .inr (9, [.ref qa, .ref qb, .int 0, .int 0, .int 0, .int 0, .int 0, .int 0, .int 0, .int 0])), (a9, .inr (9, [.ref qa, .ref qb, .int 0, .int 0, .int 0, .int 0, .int 0, .int 0, .int 0, .int 0])), (a10, .inr (9, [.ref qa, .ref qb, .int 0, .int 0, .int 0, .int 0, .int 0, .int 0, .int 0, .int 0]))] 48 [(3, .int 7), (0, .ref q), (1, .ref qa), (2, .ref qb)] [.ref a10, .int 7, .ref a1]
  refine WN.aast (q0 := 1) (qk := 10) (ci := 9) (t0 := 4) hx rfl rfl rfl rfl (vp_dec (by decide)) rfl dX0_init_48 ?_
  show WN G 4 X 10 100 [(q, .inr (0, [.ref qa, .ref a1, .ref a2, .int 0, .int 0, .int 0, .int 0])), (a1, .inl (G.2 4, 10, .inr (.inr (.inr (.inr (va_up (va_up (va_up (va_up (va_up (va_up (va_up (va_up (fun _ => none) 0 (some a3)) 1 (some a4)) 2 (some a5)) 3 (some a6)) 4 (some a7)) 5 (some a8)) 6 (some a9)) 7 (some a10))))))), (a2, .inl (G.2 0, 10, .inl (fun _ => 0))), (a3, .inr (9, [.ref qa, .ref qb, .int 0, .int 0, .int 0, .int 0, .int 0, .int 0, .int 0, .int 0])), (a4, .inr (9, [.ref qa, .ref qb, .int 0, .int 0, .int 0, .int 0, .int 0, .int 0, .int 0, .int 0])), (a5, .inr (9, [.ref qa, .ref qb, .int 0, .int 0, .int 0, .int 0, .int 0, .int 0, .int 0, .int 0])), (a6, .inr (9, [.ref qa, .ref qb, .int 0, .int 0, .int 0, .int 0, .int 0, .int 0, .int 0, .int 0])), (a7, .inr (9, [.ref qa, .ref qb, .int 0, .int 0, .int 0, .int 0, .int 0, .int 0, .int 0, .int 0])), (a8, .inr (9, [.ref qa, .ref qb, .int 0, .int 0, .int 0, .int 0, .int 0, .int 0, .int 0, .int 0])), (a9, .inr (9, [.ref qa, .ref qb, .int 0, .int 0, .int 0, .int 0, .int 0, .int 0, .int 0, .int 0])), (a10, .inr (9, [.ref qa, .ref qb, .int 0, .int 0, .int 0, .int 0, .int 0, .int 0, .int 0, .int 0]))] 49 [(3, .int 7), (0, .ref q), (1, .ref qa), (2, .ref qb)] []
  refine WN.iinc (v := 8) (lo' := [(3, .int 8), (0, .ref q), (1, .ref qa), (2, .ref qb)]) hx dX0_init_49 0 rfl (by decide) (by decide) rfl ?_
  refine WN.goto (tgt := 28) hx dX0_init_52 (by decide) ?_
  refine WN.iload_n hx dX0_init_28 rfl 0 rfl ?_
  refine WN.bipush (v := 10) hx dX0_init_29 (by decide) ?_
  refine WN.icmp_ge (tgt := 55) hx dX0_init_31 (by decide) (fun h => absurd h (by decide)) (fun _ => ?_)
  refine WN.aload_n hx dX0_init_34 rfl 1 rfl ?_
  refine WN.get (q0 := 0) hx okX0 lf0_11 rfl rfl dX0_init_35 ?_
  show WN G 4 X 10 100 [(q, .inr (0, [.ref qa, .ref a1, .ref a2, .int 0, .int 0, .int 0, .int 0])), (a1, .inl (G.2 4, 10, .inr (.inr (.inr (.inr (va_up (va_up (va_up (va_up (va_up (va_up (va_up (va_up (fun _ => none) 0 (some a3)) 1 (some a4)) 2 (some a5)) 3 (some a6)) 4 (some a7)) 5 (some a8)) 6 (some a9)) 7 (some a10))))))), (a2, .inl (G.2 0, 10, .inl (fun _ => 0))), (a3, .inr (9, [.ref qa, .ref qb, .int 0, .int 0, .int 0, .int 0, .int 0, .int 0, .int 0, .int 0])), (a4, .inr (9, [.ref qa, .ref qb, .int 0, .int 0, .int 0, .int 0, .int 0, .int 0, .int 0, .int 0])), (a5, .inr (9, [.ref qa, .ref qb, .int 0, .int 0, .int 0, .int 0, .int 0, .int 0, .int 0, .int 0])), (a6, .inr (9, [.ref qa, .ref qb, .int 0, .int 0, .int 0, .int 0, .int 0, .int 0, .int 0, .int 0])), (a7, .inr (9, [.ref qa, .ref qb, .int 0, .int 0, .int 0, .int 0, .int 0, .int 0, .int 0, .int 0])), (a8, .inr (9, [.ref qa, .ref qb, .int 0, .int 0, .int 0, .int 0, .int 0, .int 0, .int 0, .int 0])), (a9, .inr (9, [.ref qa, .ref qb, .int 0, .int 0, .int 0, .int 0, .int 0, .int 0, .int 0, .int 0])), (a10, .inr (9, [.ref qa, .ref qb, .int 0, .int 0, .int 0, .int 0, .int 0, .int 0, .int 0, .int 0]))] 38 [(3, .int 8), (0, .ref q), (1, .ref qa), (2, .ref qb)] [.ref a1]
  refine WN.iload_n hx dX0_init_38 rfl 0 rfl ?_
  refine WN.new (C := kX9) (fs := [.null, .null, .int 0, .int 0, .int 0, .int 0, .int 0, .int 0, .int 0, .int 0]) hx okX9 lk0_9 iz9 in9 nf9 (Nat.le_of_ble_eq_true rfl) (Nat.le_of_ble_eq_true rfl) dX0_init_39 (fun a11 => ?_)
  show WN G 4 X 11 110 [(q, .inr (0, [.ref qa, .ref a1, .ref a2, .int 0, .int 0, .int 0, .int 0])), (a1, .inl (G.2 4, 10, .inr (.inr (.inr (.inr (va_up (va_up (va_up (va_up (va_up (va_up (va_up (va_up (fun _ => none) 0 (some a3)) 1 (some a4)) 2 (some a5)) 3 (some a6)) 4 (some a7)) 5 (some a8)) 6 (some a9)) 7 (some a10))))))), (a2, .inl (G.2 0, 10, .inl (fun _ => 0))), (a3, .inr (9, [.ref qa, .ref qb, .int 0, .int 0, .int 0, .int 0, .int 0, .int 0, .int 0, .int 0])), (a4, .inr (9, [.ref qa, .ref qb, .int 0, .int 0, .int 0, .int 0, .int 0, .int 0, .int 0, .int 0])), (a5, .inr (9, [.ref qa, .ref qb, .int 0, .int 0, .int 0, .int 0, .int 0, .int 0, .int 0, .int 0])), (a6, .inr (9, [.ref qa, .ref qb, .int 0, .int 0, .int 0, .int 0, .int 0, .int 0, .int 0, .int 0])), (a7, .inr (9, [.ref qa, .ref qb, .int 0, .int 0, .int 0, .int 0, .int 0, .int 0, .int 0, .int 0])), (a8, .inr (9, [.ref qa, .ref qb, .int 0, .int 0, .int 0, .int 0, .int 0, .int 0, .int 0, .int 0])), (a9, .inr (9, [.ref qa, .ref qb, .int 0, .int 0, .int 0, .int 0, .int 0, .int 0, .int 0, .int 0])), (a10, .inr (9, [.ref qa, .ref qb, .int 0, .int 0, .int 0, .int 0, .int 0, .int 0, .int 0, .int 0])), (a11, .inr (9, [.null, .null, .int 0, .int 0, .int 0, .int 0, .int 0, .int 0, .int 0, .int 0]))] 42 [(3, .int 8), (0, .ref q), (1, .ref qa), (2, .ref qb)] [.ref a11, .int 8, .ref a1]
  refine WN.dup hx dX0_init_42 rfl ?_
  refine WN.aload_n hx dX0_init_43 rfl 2 rfl ?_
  refine WN.aload_n hx dX0_init_44 rfl 3 rfl ?_
  refine WN.callI (w0 := [(q, .inr (0, [.ref qa, .ref a1, .ref a2, .int 0, .int 0, .int 0, .int 0])), (a1, .inl (G.2 4, 10, .inr (.inr (.inr (.inr (va_up (va_up (va_up (va_up (va_up (va_up (va_up (va_up (fun _ => none) 0 (some a3)) 1 (some a4)) 2 (some a5)) 3 (some a6)) 4 (some a7)) 5 (some a8)) 6 (some a9)) 7 (some a10))))))), (a2, .inl (G.2 0, 10, .inl (fun _ => 0))), (a3, .inr (9, [.ref qa, .ref qb, .int 0, .int 0, .int 0, .int 0, .int 0, .int 0, .int 0, .int 0])), (a4, .inr (9, [.ref qa, .ref qb, .int 0, .int 0, .int 0, .int 0, .int 0, .int 0, .int 0, .int 0])), (a5, .inr (9, [.ref qa, .ref qb, .int 0, .int 0, .int 0, .int 0, .int 0, .int 0, .int 0, .int 0])), (a6, .inr (9, [.ref qa, .ref qb, .int 0, .int 0, .int 0, .int 0, .int 0, .int 0, .int 0, .int 0])), (a7, .inr (9, [.ref qa, .ref qb, .int 0, .int 0, .int 0, .int 0, .int 0, .int 0, .int 0, .int 0])), (a8, .inr (9, [.ref qa, .ref qb, .int 0, .int 0, .int 0, .int 0, .int 0, .int 0, .int 0, .int 0])), (a9, .inr (9, [.ref qa, .ref qb, .int 0, .int 0, .int 0, .int 0, .int 0, .int 0, .int 0, .int 0])), (a10, .inr (9, [.ref qa, .ref qb, .int 0, .int 0, .int 0, .int 0, .int 0, .int 0, .int 0, .int 0]))]) (st := [.ref a11, .int 8, .ref a1]) [.ref qa, .ref qb] hx (cn_X9 G a11 qa qb) okX9_init li0_25 rfl rfl rfl (Nat.le_of_ble_eq_true rfl) ⟨(Nat.le_of_ble_eq_true rfl), (Nat.le_of_ble_eq_true rfl)⟩ ⟨(Nat.le_of_ble_eq_true rfl), (Nat.le_of_ble_eq_true rfl)⟩ dX0_init_45 (fun ws9 hw9 => ?_)
  obtain rfl := hw9
  show WN G 4 X 11 110 [(q, .inr (0, [.ref qa, .ref a1, .ref a2, .int 0, .int 0, .int 0, .int 0])), (a1, .inl (G.2 4, 10, .inr (.inr (.inr (.inr (va_up (va_up (va_up (va_up (va_up (va_up (va_up (va_up (fun _ => none) 0 (some a3)) 1 (some a4)) 2 (some a5)) 3 (some a6)) 4 (some a7)) 5 (some a8)) 6 (some a9)) 7 (some a10))))))), (a2, .inl (G.2 0, 10, .inl (fun _ => 0))), (a3, .inr (9, [.ref qa, .ref qb, .int 0, .int 0, .int 0, .int 0, .int 0, .int 0, .int 0, .int 0])), (a4, .inr (9, [.ref qa, .ref qb, .int 0, .int 0, .int 0, .int 0, .int 0, .int 0, .int 0, .int 0])), (a5, .inr (9, [.ref qa, .ref qb, .int 0, .int 0, .int 0, .int 0, .int 0, .int 0, .int 0, .int 0])), (a6, .inr (9, [.ref qa, .ref qb, .int 0, .int 0, .int 0, .int 0, .int 0, .int 0, .int 0, .int 0])), (a7, .inr (9, [.ref qa, .ref qb, .int 0, .int 0, .int 0, .int 0, .int 0, .int 0, .int 0, .int 0])), (a8, .inr (9, [.ref qa, .ref qb, .int 0, .int 0, .int 0, .int 0, .int 0, .int 0, .int 0, .int 0])), (a9, .inr (9, [.ref qa, .ref qb, .int 0, .int 0, .int 0, .int 0, .int 0, .int 0, .int 0, .int 0])), (a10, .inr (9, [.ref qa, .ref qb, .int 0, .int 0, .int 0, .int 0, .int 0, .int 0, .int 0, .int 0])), (a11, .inr (9, [.ref qa, .ref qb, .int 0, .int 0, .int 0, .int 0, .int 0, .int 0, .int 0, .int 0]))] 48 [(3, .int 8), (0, .ref q), (1, .ref qa), (2, .ref qb)] [.ref a11, .int 8, .ref a1]
  refine WN.aast (q0 := 1) (qk := 11) (ci := 9) (t0 := 4) hx rfl rfl rfl rfl (vp_dec (by decide)) rfl dX0_init_48 ?_
  show WN G 4 X 11 110 [(q, .inr (0, [.ref qa, .ref a1, .ref a2, .int 0, .int 0, .int 0, .int 0])), (a1, .inl (G.2 4, 10, .inr (.inr (.inr (.inr (va_up (va_up (va_up (va_up (va_up (va_up (va_up (va_up (va_up (fun _ => none) 0 (some a3)) 1 (some a4)) 2 (some a5)) 3 (some a6)) 4 (some a7)) 5 (some a8)) 6 (some a9)) 7 (some a10)) 8 (some a11))))))), (a2, .inl (G.2 0, 10, .inl (fun _ => 0))), (a3, .inr (9, [.ref qa, .ref qb, .int 0, .int 0, .int 0, .int 0, .int 0, .int 0, .int 0, .int 0])), (a4, .inr (9, [.ref qa, .ref qb, .int 0, .int 0, .int 0, .int 0, .int 0, .int 0, .int 0, .int 0])), (a5, .inr (9, [.ref qa, .ref qb, .int 0, .int 0, .int 0, .int 0, .int 0, .int 0, .int 0, .int 0])), (a6, .inr (9, [.ref qa, .ref qb, .int 0, .int 0, .int 0, .int 0, .int 0, .int 0, .int 0, .int 0])), (a7, .inr (9, [.ref qa, .ref qb, .int 0, .int 0, .int 0, .int 0, .int 0, .int 0, .int 0, .int 0])), (a8, .inr (9, [.ref qa, .ref qb, .int 0, .int 0, .int 0, .int 0, .int 0, .int 0, .int 0, .int 0])), (a9, .inr (9, [.ref qa, .ref qb, .int 0, .int 0, .int 0, .int 0, .int 0, .int 0, .int 0, .int 0])), (a10, .inr (9, [.ref qa, .ref qb, .int 0, .int 0, .int 0, .int 0, .int 0, .int 0, .int 0, .int 0])), (a11, .inr (9, [.ref qa, .ref qb, .int 0, .int 0, .int 0, .int 0, .int 0, .int 0, .int 0, .int 0]))] 49 [(3, .int 8), (0, .ref q), (1, .ref qa), (2, .ref qb)] []
  refine WN.iinc (v := 9) (lo' := [(3, .int 9), (0, .ref q), (1, .ref qa), (2, .ref qb)]) hx dX0_init_49 0 rfl (by decide) (by decide) rfl ?_
  refine WN.goto (tgt := 28) hx dX0_init_52 (by decide) ?_
  refine WN.iload_n hx dX0_init_28 rfl 0 rfl ?_
  refine WN.bipush (v := 10) hx dX0_init_29 (by decide) ?_
  refine WN.icmp_ge (tgt := 55) hx dX0_init_31 (by decide) (fun h => absurd h (by decide)) (fun _ => ?_)
  refine WN.aload_n hx dX0_init_34 rfl 1 rfl ?_
  refine WN.get (q0 := 0) hx okX0 lf0_11 rfl rfl dX0_init_35 ?_
  show WN G 4 X 11 110 [(q, .inr (0, [.ref qa, .ref a1, .ref a2, .int 0, .int 0, .int 0, .int 0])), (a1, .inl (G.2 4, 10, .inr (.inr (.inr (.inr (va_up (va_up (va_up (va_up (va_up (va_up (va_up (va_up (va_up (fun _ => none) 0 (some a3)) 1 (some a4)) 2 (some a5)) 3 (some a6)) 4 (some a7)) 5 (some a8)) 6 (some a9)) 7 (some a10)) 8 (some a11))))))), (a2, .inl (G.2 0, 10, .inl (fun _ => 0))), (a3, .inr (9, [.ref qa, .ref qb, .int 0, .int 0, .int 0, .int 0, .int 0, .int 0, .int 0, .int 0])), (a4, .inr (9, [.ref qa, .ref qb, .int 0, .int 0, .int 0, .int 0, .int 0, .int 0, .int 0, .int 0])), (a5, .inr (9, [.ref qa, .ref qb, .int 0, .int 0, .int 0, .int 0, .int 0, .int 0, .int 0, .int 0])), (a6, .inr (9, [.ref qa, .ref qb, .int 0, .int 0, .int 0, .int 0, .int 0, .int 0, .int 0, .int 0])), (a7, .inr (9, [.ref qa, .ref qb, .int 0, .int 0, .int 0, .int 0, .int 0, .int 0, .int 0, .int 0])), (a8, .inr (9, [.ref qa, .ref qb, .int 0, .int 0, .int 0, .int 0, .int 0, .int 0, .int 0, .int 0])), (a9, .inr (9, [.ref qa, .ref qb, .int 0, .int 0, .int 0, .int 0, .int 0, .int 0, .int 0, .int 0])), (a10, .inr (9, [.ref qa, .ref qb, .int 0, .int 0, .int 0, .int 0, .int 0, .int 0, .int 0, .int 0])), (a11, .inr (9, [.ref qa, .ref qb, .int 0, .int 0, .int 0, .int 0, .int 0, .int 0, .int 0, .int 0]))] 38 [(3, .int 9), (0, .ref q), (1, .ref qa), (2, .ref qb)] [.ref a1]
  refine WN.iload_n hx dX0_init_38 rfl 0 rfl ?_
  refine WN.new (C := kX9) (fs := [.null, .null, .int 0, .int 0, .int 0, .int 0, .int 0, .int 0, .int 0, .int 0]) hx okX9 lk0_9 iz9 in9 nf9 (Nat.le_of_ble_eq_true rfl) (Nat.le_of_ble_eq_true rfl) dX0_init_39 (fun a12 => ?_)
  show WN G 4 X 12 120 [(q, .inr (0, [.ref qa, .ref a1, .ref a2, .int 0, .int 0, .int 0, .int 0])), (a1, .inl (G.2 4, 10, .inr (.inr (.inr (.inr (va_up (va_up (va_up (va_up (va_up (va_up (va_up (va_up (va_up (fun _ => none) 0 (some a3)) 1 (some a4)) 2 (some a5)) 3 (some a6)) 4 (some a7)) 5 (some a8)) 6 (some a9)) 7 (some a10)) 8 (some a11))))))), (a2, .inl (G.2 0, 10, .inl (fun _ => 0))), (a3, .inr (9, [.ref qa, .ref qb, .int 0, .int 0, .int 0, .int 0, .int 0, .int 0, .int 0, .int 0])), (a4, .inr (9, [.ref qa, .ref qb, .int 0, .int 0, .int 0, .int 0, .int 0, .int 0, .int 0, .int 0])), (a5, .inr (9, [.ref qa, .ref qb, .int 0, .int 0, .int 0, .int 0, .int 0, .int 0, .int 0, .int 0])), (a6, .inr (9, [.ref qa, .ref qb, .int 0, .int 0, .int 0, .int 0, .int 0, .int 0, .int 0, .int 0])), (a7, .inr (9, [.ref qa, .ref qb, .int 0, .int 0, .int 0, .int 0, .int 0, .int 0, .int 0, .int 0])), (a8, .inr (9, [.ref qa, .ref qb, .int 0, .int 0, .int 0, .int 0, .int 0, .int 0, .int 0, .int 0])), (a9, .inr (9, [.ref qa, .ref qb, .int 0, .int 0, .int 0, .int 0, .int 0, .int 0, .int 0, .int 0])), (a10, .inr (9, [.ref qa, .ref qb, .int 0, .int 0, .int 0, .int 0, .int 0, .int 0, .int 0, .int 0])), (a11, .inr (9, [.ref qa, .ref qb, .int 0, .int 0, .int 0, .int 0, .int 0, .int 0, .int 0, .int 0])), (a12, .inr (9, [.null, .null, .int 0, .int 0, .int 0, .int 0, .int 0, .int 0, .int 0, .int 0]))] 42 [(3, .int 9), (0, .ref q), (1, .ref qa), (2, .ref qb)] [.ref a12, .int 9, .ref a1]
  refine WN.dup hx dX0_init_42 rfl ?_
  refine WN.aload_n hx dX0_init_43 rfl 2 rfl ?_
  refine WN.aload_n hx dX0_init_44 rfl 3 rfl ?_
  refine WN.callI (w0 := [(q, .inr (0, [.ref qa, .ref a1, .ref a2, .int 0, .int 0, .int 0, .int 0])), (a1, .inl (G.2 4, 10, .inr (.inr (.inr (.inr (va_up (va_up (va_up (va_up (va_up (va_up (va_up (va_up (va_up (fun _ => none) 0 (some a3)) 1 (some a4)) 2 (some a5)) 3 (some a6)) 4 (some a7)) 5 (some a8)) 6 (some a9)) 7 (some a10)) 8 (some a11))))))), (a2, .inl (G.2 0, 10, .inl (fun _ => 0))), (a3, .inr (9, [.ref qa, .ref qb, .int 0, .int 0, .int 0, .int 0, .int 0, .int 0, .int 0, .int 0])), (a4, .inr (9, [.ref qa, .ref qb, .int 0, .int 0, .int 0, .int 0, .int 0, .int 0, .int 0, .int 0])), (a5, .inr (9, [.ref qa, .ref qb, .int 0, .int 0, .int 0, .int 0, .int 0, .int 0, .int 0, .int 0])), (a6, .inr (9, [.ref qa, .ref qb, .int 0, .int 0, .int 0, .int 0, .int 0, .int 0, .int 0, .int 0])), (a7, .inr (9, [.ref qa, .ref qb, .int 0, .int 0, .int 0, .int 0, .int 0, .int 0, .int 0, .int 0])), (a8, .inr (9, [.ref qa, .ref qb, .int 0, .int 0, .int 0, .int 0, .int 0, .int 0, .int 0, .int 0])), (a9, .inr (9, [.ref qa, .ref qb, .int 0, .int 0, .int 0, .int 0, .int 0, .int 0, .int 0, .int 0])), (a10, .inr (9, [.ref qa, .ref qb, .int 0, .int 0, .int 0, .int 0, .int 0, .int 0, .int 0, .int 0])), (a11, .inr (9, [.ref qa, .ref qb, .int 0, .int 0, .int 0, .int 0, .int 0, .int 0, .int 0, .int 0]))]) (st := [.ref a12, .int 9, .ref a1]) [.ref qa, .ref qb] hx (cn_X9 G a12 qa qb) okX9_init li0_25 rfl rfl rfl (Nat.le_of_ble_eq_true rfl) ⟨(Nat.le_of_ble_eq_true rfl), (Nat.le_of_ble_eq_true rfl)⟩ ⟨(Nat.le_of_ble_eq_true rfl), (Nat.le_of_ble_eq_true rfl)⟩ dX0_init_45 (fun ws9 hw9 => ?_)
  obtain rfl := hw9
  show WN G 4 X 12 120 [(q, .inr (0, [.ref qa, .ref a1, .ref a2, .int 0, .int 0, .int 0, .int 0])), (a1, .inl (G.2 4, 10, .inr (.inr (.inr (.inr (va_up (va_up (va_up (va_up (va_up (va_up (va_up (va_up (va_up (fun _ => none) 0 (some a3)) 1 (some a4)) 2 (some a5)) 3 (some a6)) 4 (some a7)) 5 (some a8)) 6 (some a9)) 7 (some a10)) 8 (some a11))))))), (a2, .inl (G.2 0, 10, .inl (fun _ => 0))), (a3, .inr (9, [.ref qa, .ref qb, .int 0, .int 0, .int 0, .int 0, .int 0, .int 0, .int 0, .int 0])), (a4, .inr (9, [.ref qa, .ref qb, .int 0, .int 0, .int 0, .int 0, .int 0, .int 0, .int 0, .int 0])), (a5, .inr (9, [.ref qa, .ref qb, .int 0, .int 0, .int 0, .int 0, .int 0, .int 0, .int 0, .int 0])), (a6, .inr (9, [.ref qa, .ref qb, .int 0, .int 0, .int 0, .int 0, .int 0, .int 0, .int 0, .int 0])), (a7, .inr (9, [.ref qa, .ref qb, .int 0, .int 0, .int 0, .int 0, .int 0, .int 0, .int 0, .int 0])), (a8, .inr (9, [.ref qa, .ref qb, .int 0, .int 0, .int 0, .int 0, .int 0, .int 0, .int 0, .int 0])), (a9, .inr (9, [.ref qa, .ref qb, .int 0, .int 0, .int 0, .int 0, .int 0, .int 0, .int 0, .int 0])), (a10, .inr (9, [.ref qa, .ref qb, .int 0, .int 0, .int 0, .int 0, .int 0, .int 0, .int 0, .int 0])), (a11, .inr (9, [.ref qa, .ref qb, .int 0, .int 0, .int 0, .int 0, .int 0, .int 0, .int 0, .int 0])), (a12, .inr (9, [.ref qa, .ref qb, .int 0, .int 0, .int 0, .int 0, .int 0, .int 0, .int 0, .int 0]))] 48 [(3, .int 9), (0, .ref q), (1, .ref qa), (2, .ref qb)] [.ref a12, .int 9, .ref a1]
  refine WN.aast (q0 := 1) (qk := 12) (ci := 9) (t0 := 4) hx rfl rfl rfl rfl (vp_dec (by decide)) rfl dX0_init_48 ?_
  show WN G 4 X 12 120 [(q, .inr (0, [.ref qa, .ref a1, .ref a2, .int 0, .int 0, .int 0, .int 0])), (a1, .inl (G.2 4, 10, .inr (.inr (.inr (.inr (va_up (va_up (va_up (va_up (va_up (va_up (va_up (va_up (va_up (va_up (fun _ => none) 0 (some a3)) 1 (some a4)) 2 (some a5)) 3 (some a6)) 4 (some a7)) 5 (some a8)) 6 (some a9)) 7 (some a10)) 8 (some a11)) 9 (some a12))))))), (a2, .inl (G.2 0, 10, .inl (fun _ => 0))), (a3, .inr (9, [.ref qa, .ref qb, .int 0, .int 0, .int 0, .int 0, .int 0, .int 0, .int 0, .int 0])), (a4, .inr (9, [.ref qa, .ref qb, .int 0, .int 0, .int 0, .int 0, .int 0, .int 0, .int 0, .int 0])), (a5, .inr (9, [.ref qa, .ref qb, .int 0, .int 0, .int 0, .int 0, .int 0, .int 0, .int 0, .int 0])), (a6, .inr (9, [.ref qa, .ref qb, .int 0, .int 0, .int 0, .int 0, .int 0, .int 0, .int 0, .int 0])), (a7, .inr (9, [.ref qa, .ref qb, .int 0, .int 0, .int 0, .int 0, .int 0, .int 0, .int 0, .int 0])), (a8, .inr (9, [.ref qa, .ref qb, .int 0, .int 0, .int 0, .int 0, .int 0, .int 0, .int 0, .int 0])), (a9, .inr (9, [.ref qa, .ref qb, .int 0, .int 0, .int 0, .int 0, .int 0, .int 0, .int 0, .int 0])), (a10, .inr (9, [.ref qa, .ref qb, .int 0, .int 0, .int 0, .int 0, .int 0, .int 0, .int 0, .int 0])), (a11, .inr (9, [.ref qa, .ref qb, .int 0, .int 0, .int 0, .int 0, .int 0, .int 0, .int 0, .int 0])), (a12, .inr (9, [.ref qa, .ref qb, .int 0, .int 0, .int 0, .int 0, .int 0, .int 0, .int 0, .int 0]))] 49 [(3, .int 9), (0, .ref q), (1, .ref qa), (2, .ref qb)] []
  refine WN.iinc (v := 10) (lo' := [(3, .int 10), (0, .ref q), (1, .ref qa), (2, .ref qb)]) hx dX0_init_49 0 rfl (by decide) (by decide) rfl ?_
  refine WN.goto (tgt := 28) hx dX0_init_52 (by decide) ?_
  refine WN.iload_n hx dX0_init_28 rfl 0 rfl ?_
  refine WN.bipush (v := 10) hx dX0_init_29 (by decide) ?_
  refine WN.icmp_ge (tgt := 55) hx dX0_init_31 (by decide) (fun _ => ?_) (fun h => absurd (by decide) h)
  exact WN.vret hx he dX0_init_55 rfl rfl ⟨a1, a2, a3, a4, a5, a6, a7, a8, a9, a10, a11, a12, rfl⟩
set_option maxHeartbeats 2000000 in
theorem cn_X3 (G : Gc) (q : Nat) (qa : Nat) (qb : Nat) : CN G mX3_init { frames := 4, cells := 4, slots := 60, locals := 256 } [.ref q, .ref qa, .ref qb] [(q, .inr (3, [.null, .null, .null, .null, .null, .int 0, .int 0, .int 0]))] (fun ws' => ∃ a1 a2 a3 a4 : Nat, ws' = [(q, .inr (3, [.ref qa, .ref a4, .ref a1, .ref a2, .ref a3, .int 0, .int 0, .int 0])), (a1, .inl (G.2 0, 5, .inl (fun _ => 0))), (a2, .inl (G.2 0, 5, .inl (fun _ => 0))), (a3, .inl (G.2 0, 40, .inl (fun _ => 0))), (a4, .inr (9, [.ref qa, .ref qb, .int 0, .int 0, .int 0, .int 0, .int 0, .int 0, .int 0, .int 0]))]) := by
  refine CN.of (own := RX3) rfl rfl rfl (by decide) (Nat.le_of_ble_eq_true rfl) (fun X (hx : OkN G RX3 cX3_init 3 { frames := 4, cells := 4, slots := 60, locals := 256 } X) (hi : InN X) (he : EnN G { frames := 4, cells := 4, slots := 60, locals := 256 } (fun ws' => ∃ a1 a2 a3 a4 : Nat, ws' = [(q, .inr (3, [.ref qa, .ref a4, .ref a1, .ref a2, .ref a3, .int 0, .int 0, .int 0])), (a1, .inl (G.2 0, 5, .inl (fun _ => 0))), (a2, .inl (G.2 0, 5, .inl (fun _ => 0))), (a3, .inl (G.2 0, 40, .inl (fun _ => 0))), (a4, .inr (9, [.ref qa, .ref qb, .int 0, .int 0, .int 0, .int 0, .int 0, .int 0, .int 0, .int 0]))]) X) => ?_)
  change WN G 3 X 0 0 [(q, .inr (3, [.null, .null, .null, .null, .null, .int 0, .int 0, .int 0]))] 0 [(0, .ref q), (1, .ref qa), (2, .ref qb)] []
  refine WN.aload_n hx dX3_init_0 rfl 0 rfl ?_
  refine WN.objInit hx (by decide) (by decide) lo3_3 ob_i ob_c (Nat.le_of_ble_eq_true rfl) dX3_init_1 ?_
  refine WN.aload_n hx dX3_init_4 rfl 0 rfl ?_
  refine WN.iconst (v := 5) hx dX3_init_5 (by decide) ?_
  refine WN.newI (N := 5) hx ax_int (by decide) (by decide) (by decide) (Nat.le_of_ble_eq_true rfl) (Nat.le_of_ble_eq_true rfl) dX3_init_6 (fun a1 => ?_)
  show WN G 3 X 1 5 [(q, .inr (3, [.null, .null, .null, .null, .null, .int 0, .int 0, .int 0])), (a1, .inl (G.2 0, 5, .inl (fun _ => 0)))] 8 [(0, .ref q), (1, .ref qa), (2, .ref qb)] [.ref a1, .ref q]
  refine WN.put (q0 := 0) hx hi okX3 lf3_11 rfl rfl (Nat.le_of_ble_eq_true rfl) rfl rfl rfl rfl dX3_init_8 ?_
  show WN G 3 X 1 5 [(q, .inr (3, [.null, .null, .ref a1, .null, .null, .int 0, .int 0, .int 0])), (a1, .inl (G.2 0, 5, .inl (fun _ => 0)))] 11 [(0, .ref q), (1, .ref qa), (2, .ref qb)] []
  refine WN.aload_n hx dX3_init_11 rfl 0 rfl ?_
  refine WN.iconst (v := 5) hx dX3_init_12 (by decide) ?_
  refine WN.newI (N := 5) hx ax_int (by decide) (by decide) (by decide) (Nat.le_of_ble_eq_true rfl) (Nat.le_of_ble_eq_true rfl) dX3_init_13 (fun a2 => ?_)
  show WN G 3 X 2 10 [(q, .inr (3, [.null, .null, .ref a1, .null, .null, .int 0, .int 0, .int 0])), (a1, .inl (G.2 0, 5, .inl (fun _ => 0))), (a2, .inl (G.2 0, 5, .inl (fun _ => 0)))] 15 [(0, .ref q), (1, .ref qa), (2, .ref qb)] [.ref a2, .ref q]
  refine WN.put (q0 := 0) hx hi okX3 lf3_15 rfl rfl (Nat.le_of_ble_eq_true rfl) rfl rfl rfl rfl dX3_init_15 ?_
  show WN G 3 X 2 10 [(q, .inr (3, [.null, .null, .ref a1, .ref a2, .null, .int 0, .int 0, .int 0])), (a1, .inl (G.2 0, 5, .inl (fun _ => 0))), (a2, .inl (G.2 0, 5, .inl (fun _ => 0)))] 18 [(0, .ref q), (1, .ref qa), (2, .ref qb)] []
  refine WN.aload_n hx dX3_init_18 rfl 0 rfl ?_
  refine WN.bipush (v := 40) hx dX3_init_19 (by decide) ?_
  refine WN.newI (N := 40) hx ax_int (by decide) (by decide) (by decide) (Nat.le_of_ble_eq_true rfl) (Nat.le_of_ble_eq_true rfl) dX3_init_21 (fun a3 => ?_)
  show WN G 3 X 3 50 [(q, .inr (3, [.null, .null, .ref a1, .ref a2, .null, .int 0, .int 0, .int 0])), (a1, .inl (G.2 0, 5, .inl (fun _ => 0))), (a2, .inl (G.2 0, 5, .inl (fun _ => 0))), (a3, .inl (G.2 0, 40, .inl (fun _ => 0)))] 23 [(0, .ref q), (1, .ref qa), (2, .ref qb)] [.ref a3, .ref q]
  refine WN.put (q0 := 0) hx hi okX3 lf3_18 rfl rfl (Nat.le_of_ble_eq_true rfl) rfl rfl rfl rfl dX3_init_23 ?_
  show WN G 3 X 3 50 [(q, .inr (3, [.null, .null, .ref a1, .ref a2, .ref a3, .int 0, .int 0, .int 0])), (a1, .inl (G.2 0, 5, .inl (fun _ => 0))), (a2, .inl (G.2 0, 5, .inl (fun _ => 0))), (a3, .inl (G.2 0, 40, .inl (fun _ => 0)))] 26 [(0, .ref q), (1, .ref qa), (2, .ref qb)] []
  refine WN.aload_n hx dX3_init_26 rfl 0 rfl ?_
  refine WN.aload_n hx dX3_init_27 rfl 1 rfl ?_
  refine WN.put (q0 := 0) hx hi okX3 lf3_21 rfl rfl (Nat.le_of_ble_eq_true rfl) rfl rfl rfl rfl dX3_init_28 ?_
  show WN G 3 X 3 50 [(q, .inr (3, [.ref qa, .null, .ref a1, .ref a2, .ref a3, .int 0, .int 0, .int 0])), (a1, .inl (G.2 0, 5, .inl (fun _ => 0))), (a2, .inl (G.2 0, 5, .inl (fun _ => 0))), (a3, .inl (G.2 0, 40, .inl (fun _ => 0)))] 31 [(0, .ref q), (1, .ref qa), (2, .ref qb)] []
  refine WN.aload_n hx dX3_init_31 rfl 0 rfl ?_
  refine WN.new (C := kX9) (fs := [.null, .null, .int 0, .int 0, .int 0, .int 0, .int 0, .int 0, .int 0, .int 0]) hx okX9 lk3_25 iz9 in9 nf9 (Nat.le_of_ble_eq_true rfl) (Nat.le_of_ble_eq_true rfl) dX3_init_32 (fun a4 => ?_)
  show WN G 3 X 4 60 [(q, .inr (3, [.ref qa, .null, .ref a1, .ref a2, .ref a3, .int 0, .int 0, .int 0])), (a1, .inl (G.2 0, 5, .inl (fun _ => 0))), (a2, .inl (G.2 0, 5, .inl (fun _ => 0))), (a3, .inl (G.2 0, 40, .inl (fun _ => 0))), (a4, .inr (9, [.null, .null, .int 0, .int 0, .int 0, .int 0, .int 0, .int 0, .int 0, .int 0]))] 35 [(0, .ref q), (1, .ref qa), (2, .ref qb)] [.ref a4, .ref q]
  refine WN.dup hx dX3_init_35 rfl ?_
  refine WN.aload_n hx dX3_init_36 rfl 1 rfl ?_
  refine WN.aload_n hx dX3_init_37 rfl 2 rfl ?_
  refine WN.callI (w0 := [(q, .inr (3, [.ref qa, .null, .ref a1, .ref a2, .ref a3, .int 0, .int 0, .int 0])), (a1, .inl (G.2 0, 5, .inl (fun _ => 0))), (a2, .inl (G.2 0, 5, .inl (fun _ => 0))), (a3, .inl (G.2 0, 40, .inl (fun _ => 0)))]) (st := [.ref a4, .ref q]) [.ref qa, .ref qb] hx (cn_X9 G a4 qa qb) okX9_init li3_27 rfl rfl rfl (Nat.le_of_ble_eq_true rfl) ⟨(Nat.le_of_ble_eq_true rfl), (Nat.le_of_ble_eq_true rfl)⟩ ⟨(Nat.le_of_ble_eq_true rfl), (Nat.le_of_ble_eq_true rfl)⟩ dX3_init_38 (fun ws9 hw9 => ?_)
  obtain rfl := hw9
  show WN G 3 X 4 60 [(q, .inr (3, [.ref qa, .null, .ref a1, .ref a2, .ref a3, .int 0, .int 0, .int 0])), (a1, .inl (G.2 0, 5, .inl (fun _ => 0))), (a2, .inl (G.2 0, 5, .inl (fun _ => 0))), (a3, .inl (G.2 0, 40, .inl (fun _ => 0))), (a4, .inr (9, [.ref qa, .ref qb, .int 0, .int 0, .int 0, .int 0, .int 0, .int 0, .int 0, .int 0]))] 41 [(0, .ref q), (1, .ref qa), (2, .ref qb)] [.ref a4, .ref q]
  refine WN.put (q0 := 0) hx hi okX3 lf3_30 rfl rfl (Nat.le_of_ble_eq_true rfl) rfl rfl rfl rfl dX3_init_41 ?_
  show WN G 3 X 4 60 [(q, .inr (3, [.ref qa, .ref a4, .ref a1, .ref a2, .ref a3, .int 0, .int 0, .int 0])), (a1, .inl (G.2 0, 5, .inl (fun _ => 0))), (a2, .inl (G.2 0, 5, .inl (fun _ => 0))), (a3, .inl (G.2 0, 40, .inl (fun _ => 0))), (a4, .inr (9, [.ref qa, .ref qb, .int 0, .int 0, .int 0, .int 0, .int 0, .int 0, .int 0, .int 0]))] 44 [(0, .ref q), (1, .ref qa), (2, .ref qb)] []
  exact WN.vret hx he dX3_init_44 rfl rfl ⟨a1, a2, a3, a4, rfl⟩
set_option maxHeartbeats 2000000 in
theorem cn_X2 (G : Gc) (q : Nat) (qa : Nat) : CN G mX2_init { frames := 2, cells := 4, slots := 160, locals := 128 } [.ref q, .ref qa] [(q, .inr (2, [.null, .null, .null, .null, .null, .int 0, .int 0]))] (fun ws' => ∃ a1 a2 a3 a4 : Nat, ws' = [(q, .inr (2, [.ref qa, .ref a1, .ref a2, .ref a3, .ref a4, .int 0, .int 0])), (a1, .inl (G.2 0, 40, .inl (fun _ => 0))), (a2, .inl (G.2 0, 40, .inl (fun _ => 0))), (a3, .inl (G.2 0, 40, .inl (fun _ => 0))), (a4, .inl (G.2 0, 40, .inl (fun _ => 0)))]) := by
  refine CN.of (own := RX2) rfl rfl rfl (by decide) (Nat.le_of_ble_eq_true rfl) (fun X (hx : OkN G RX2 cX2_init 2 { frames := 2, cells := 4, slots := 160, locals := 128 } X) (hi : InN X) (he : EnN G { frames := 2, cells := 4, slots := 160, locals := 128 } (fun ws' => ∃ a1 a2 a3 a4 : Nat, ws' = [(q, .inr (2, [.ref qa, .ref a1, .ref a2, .ref a3, .ref a4, .int 0, .int 0])), (a1, .inl (G.2 0, 40, .inl (fun _ => 0))), (a2, .inl (G.2 0, 40, .inl (fun _ => 0))), (a3, .inl (G.2 0, 40, .inl (fun _ => 0))), (a4, .inl (G.2 0, 40, .inl (fun _ => 0)))]) X) => ?_)
  change WN G 2 X 0 0 [(q, .inr (2, [.null, .null, .null, .null, .null, .int 0, .int 0]))] 0 [(0, .ref q), (1, .ref qa)] []
  refine WN.aload_n hx dX2_init_0 rfl 0 rfl ?_
  refine WN.objInit hx (by decide) (by decide) lo2_3 ob_i ob_c (Nat.le_of_ble_eq_true rfl) dX2_init_1 ?_
  refine WN.aload_n hx dX2_init_4 rfl 0 rfl ?_
  refine WN.bipush (v := 40) hx dX2_init_5 (by decide) ?_
  refine WN.newI (N := 40) hx ax_int (by decide) (by decide) (by decide) (Nat.le_of_ble_eq_true rfl) (Nat.le_of_ble_eq_true rfl) dX2_init_7 (fun a1 => ?_)
  show WN G 2 X 1 40 [(q, .inr (2, [.null, .null, .null, .null, .null, .int 0, .int 0])), (a1, .inl (G.2 0, 40, .inl (fun _ => 0)))] 9 [(0, .ref q), (1, .ref qa)] [.ref a1, .ref q]
  refine WN.put (q0 := 0) hx hi okX2 lf2_11 rfl rfl (Nat.le_of_ble_eq_true rfl) rfl rfl rfl rfl dX2_init_9 ?_
  show WN G 2 X 1 40 [(q, .inr (2, [.null, .ref a1, .null, .null, .null, .int 0, .int 0])), (a1, .inl (G.2 0, 40, .inl (fun _ => 0)))] 12 [(0, .ref q), (1, .ref qa)] []
  refine WN.aload_n hx dX2_init_12 rfl 0 rfl ?_
  refine WN.bipush (v := 40) hx dX2_init_13 (by decide) ?_
  refine WN.newI (N := 40) hx ax_int (by decide) (by decide) (by decide) (Nat.le_of_ble_eq_true rfl) (Nat.le_of_ble_eq_true rfl) dX2_init_15 (fun a2 => ?_)
  show WN G 2 X 2 80 [(q, .inr (2, [.null, .ref a1, .null, .null, .null, .int 0, .int 0])), (a1, .inl (G.2 0, 40, .inl (fun _ => 0))), (a2, .inl (G.2 0, 40, .inl (fun _ => 0)))] 17 [(0, .ref q), (1, .ref qa)] [.ref a2, .ref q]
  refine WN.put (q0 := 0) hx hi okX2 lf2_15 rfl rfl (Nat.le_of_ble_eq_true rfl) rfl rfl rfl rfl dX2_init_17 ?_
  show WN G 2 X 2 80 [(q, .inr (2, [.null, .ref a1, .ref a2, .null, .null, .int 0, .int 0])), (a1, .inl (G.2 0, 40, .inl (fun _ => 0))), (a2, .inl (G.2 0, 40, .inl (fun _ => 0)))] 20 [(0, .ref q), (1, .ref qa)] []
  refine WN.aload_n hx dX2_init_20 rfl 0 rfl ?_
  refine WN.bipush (v := 40) hx dX2_init_21 (by decide) ?_
  refine WN.newI (N := 40) hx ax_int (by decide) (by decide) (by decide) (Nat.le_of_ble_eq_true rfl) (Nat.le_of_ble_eq_true rfl) dX2_init_23 (fun a3 => ?_)
  show WN G 2 X 3 120 [(q, .inr (2, [.null, .ref a1, .ref a2, .null, .null, .int 0, .int 0])), (a1, .inl (G.2 0, 40, .inl (fun _ => 0))), (a2, .inl (G.2 0, 40, .inl (fun _ => 0))), (a3, .inl (G.2 0, 40, .inl (fun _ => 0)))] 25 [(0, .ref q), (1, .ref qa)] [.ref a3, .ref q]
  refine WN.put (q0 := 0) hx hi okX2 lf2_18 rfl rfl (Nat.le_of_ble_eq_true rfl) rfl rfl rfl rfl dX2_init_25 ?_
  show WN G 2 X 3 120 [(q, .inr (2, [.null, .ref a1, .ref a2, .ref a3, .null, .int 0, .int 0])), (a1, .inl (G.2 0, 40, .inl (fun _ => 0))), (a2, .inl (G.2 0, 40, .inl (fun _ => 0))), (a3, .inl (G.2 0, 40, .inl (fun _ => 0)))] 28 [(0, .ref q), (1, .ref qa)] []
  refine WN.aload_n hx dX2_init_28 rfl 0 rfl ?_
  refine WN.bipush (v := 40) hx dX2_init_29 (by decide) ?_
  refine WN.newI (N := 40) hx ax_int (by decide) (by decide) (by decide) (Nat.le_of_ble_eq_true rfl) (Nat.le_of_ble_eq_true rfl) dX2_init_31 (fun a4 => ?_)
  show WN G 2 X 4 160 [(q, .inr (2, [.null, .ref a1, .ref a2, .ref a3, .null, .int 0, .int 0])), (a1, .inl (G.2 0, 40, .inl (fun _ => 0))), (a2, .inl (G.2 0, 40, .inl (fun _ => 0))), (a3, .inl (G.2 0, 40, .inl (fun _ => 0))), (a4, .inl (G.2 0, 40, .inl (fun _ => 0)))] 33 [(0, .ref q), (1, .ref qa)] [.ref a4, .ref q]
  refine WN.put (q0 := 0) hx hi okX2 lf2_21 rfl rfl (Nat.le_of_ble_eq_true rfl) rfl rfl rfl rfl dX2_init_33 ?_
  show WN G 2 X 4 160 [(q, .inr (2, [.null, .ref a1, .ref a2, .ref a3, .ref a4, .int 0, .int 0])), (a1, .inl (G.2 0, 40, .inl (fun _ => 0))), (a2, .inl (G.2 0, 40, .inl (fun _ => 0))), (a3, .inl (G.2 0, 40, .inl (fun _ => 0))), (a4, .inl (G.2 0, 40, .inl (fun _ => 0)))] 36 [(0, .ref q), (1, .ref qa)] []
  refine WN.aload_n hx dX2_init_36 rfl 0 rfl ?_
  refine WN.aload_n hx dX2_init_37 rfl 1 rfl ?_
  refine WN.put (q0 := 0) hx hi okX2 lf2_24 rfl rfl (Nat.le_of_ble_eq_true rfl) rfl rfl rfl rfl dX2_init_38 ?_
  show WN G 2 X 4 160 [(q, .inr (2, [.ref qa, .ref a1, .ref a2, .ref a3, .ref a4, .int 0, .int 0])), (a1, .inl (G.2 0, 40, .inl (fun _ => 0))), (a2, .inl (G.2 0, 40, .inl (fun _ => 0))), (a3, .inl (G.2 0, 40, .inl (fun _ => 0))), (a4, .inl (G.2 0, 40, .inl (fun _ => 0)))] 41 [(0, .ref q), (1, .ref qa)] []
  exact WN.vret hx he dX2_init_41 rfl rfl ⟨a1, a2, a3, a4, rfl⟩
set_option maxHeartbeats 2000000 in
theorem cn_X1 (G : Gc) (q : Nat) : CN G mX1_init { frames := 2, cells := 2, slots := 74, locals := 128 } [.ref q] [(q, .inr (1, [.null, .null, .int 0, .int 0, .int 0]))] (fun ws' => ∃ a1 a2 : Nat, ws' = [(q, .inr (1, [.ref a1, .ref a2, .int 0, .int 0, .int 0])), (a1, .inl (G.2 0, 50, .inl (fun _ => 0))), (a2, .inl (G.2 0, 24, .inl (fun _ => 0)))]) := by
  refine CN.of (own := RX1) rfl rfl rfl (by decide) (Nat.le_of_ble_eq_true rfl) (fun X (hx : OkN G RX1 cX1_init 1 { frames := 2, cells := 2, slots := 74, locals := 128 } X) (hi : InN X) (he : EnN G { frames := 2, cells := 2, slots := 74, locals := 128 } (fun ws' => ∃ a1 a2 : Nat, ws' = [(q, .inr (1, [.ref a1, .ref a2, .int 0, .int 0, .int 0])), (a1, .inl (G.2 0, 50, .inl (fun _ => 0))), (a2, .inl (G.2 0, 24, .inl (fun _ => 0)))]) X) => ?_)
  change WN G 1 X 0 0 [(q, .inr (1, [.null, .null, .int 0, .int 0, .int 0]))] 0 [(0, .ref q)] []
  refine WN.aload_n hx dX1_init_0 rfl 0 rfl ?_
  refine WN.objInit hx (by decide) (by decide) lo1_3 ob_i ob_c (Nat.le_of_ble_eq_true rfl) dX1_init_1 ?_
  refine WN.aload_n hx dX1_init_4 rfl 0 rfl ?_
  refine WN.bipush (v := 50) hx dX1_init_5 (by decide) ?_
  refine WN.newI (N := 50) hx ax_int (by decide) (by decide) (by decide) (Nat.le_of_ble_eq_true rfl) (Nat.le_of_ble_eq_true rfl) dX1_init_7 (fun a1 => ?_)
  show WN G 1 X 1 50 [(q, .inr (1, [.null, .null, .int 0, .int 0, .int 0])), (a1, .inl (G.2 0, 50, .inl (fun _ => 0)))] 9 [(0, .ref q)] [.ref a1, .ref q]
  refine WN.put (q0 := 0) hx hi okX1 lf1_11 rfl rfl (Nat.le_of_ble_eq_true rfl) rfl rfl rfl rfl dX1_init_9 ?_
  show WN G 1 X 1 50 [(q, .inr (1, [.ref a1, .null, .int 0, .int 0, .int 0])), (a1, .inl (G.2 0, 50, .inl (fun _ => 0)))] 12 [(0, .ref q)] []
  refine WN.aload_n hx dX1_init_12 rfl 0 rfl ?_
  refine WN.bipush (v := 24) hx dX1_init_13 (by decide) ?_
  refine WN.newI (N := 24) hx ax_int (by decide) (by decide) (by decide) (Nat.le_of_ble_eq_true rfl) (Nat.le_of_ble_eq_true rfl) dX1_init_15 (fun a2 => ?_)
  show WN G 1 X 2 74 [(q, .inr (1, [.ref a1, .null, .int 0, .int 0, .int 0])), (a1, .inl (G.2 0, 50, .inl (fun _ => 0))), (a2, .inl (G.2 0, 24, .inl (fun _ => 0)))] 17 [(0, .ref q)] [.ref a2, .ref q]
  refine WN.put (q0 := 0) hx hi okX1 lf1_15 rfl rfl (Nat.le_of_ble_eq_true rfl) rfl rfl rfl rfl dX1_init_17 ?_
  show WN G 1 X 2 74 [(q, .inr (1, [.ref a1, .ref a2, .int 0, .int 0, .int 0])), (a1, .inl (G.2 0, 50, .inl (fun _ => 0))), (a2, .inl (G.2 0, 24, .inl (fun _ => 0)))] 20 [(0, .ref q)] []
  exact WN.vret hx he dX1_init_20 rfl rfl ⟨a1, a2, rfl⟩
def ldF (i : Nat) : Nat → Int32 := fun j => if j < i then nI (min (j + 1) 15) else 0
def wdF (i : Nat) : Nat → Int32 := fun j => if j < i then nI (j % 10) else 0
theorem ldF_s {i : Nat} : upd (ldF i) i (nI (min (i + 1) 15)) = ldF (i + 1) := by
  funext j
  unfold upd ldF
  by_cases e : j = i
  · rw [if_pos e, if_pos (by omega), e]
  · rw [if_neg e]
    by_cases g : j < i
    · rw [if_pos g, if_pos (by omega)]
    · rw [if_neg g, if_neg (by omega)]
theorem wdF_s {i : Nat} : upd (wdF i) i (nI (i % 10)) = wdF (i + 1) := by
  funext j
  unfold upd wdF
  by_cases e : j = i
  · rw [if_pos e, if_pos (by omega), e]
  · rw [if_neg e]
    by_cases g : j < i
    · rw [if_pos g, if_pos (by omega)]
    · rw [if_neg g, if_neg (by omega)]
theorem ldF_0 : ldF 0 = fun _ => 0 := rfl
theorem wdF_0 : wdF 0 = fun _ => 0 := rfl
theorem rem10 {i : Nat} (hi : i < 100) : nI i - nI i / 10 * 10 = nI (i % 10) := by
  have h1 : (nI i).toInt = (i : Int) := nI_c (by omega)
  have h2 : nI i / 10 = nI (i / 10) := pk_div (d := 10) (by omega) (by decide) (by decide)
  have h3 : (nI (i / 10)).toInt = ((i / 10 : Nat) : Int) := nI_c (by omega)
  have h4 : (nI (i / 10) * 10).toInt = ((i / 10 : Nat) : Int) * 10 := by rw [i_mul (by rw [h3, tI_10]; omega) (by rw [h3, tI_10]; omega), h3, tI_10]
  rw [h2, i_eq, i_sub (by rw [h1, h4]; omega) (by rw [h1, h4]; omega), h1, h4, nI_c (by omega)]
  omega
set_option maxHeartbeats 2000000 in
theorem ln_X7 (G : Gc) (q a1 a2 a3 a4 a5 a6 a7 a8 : Nat) (X : Xt) (hx : OkN G RX7 cX7_init 2 { frames := 2, cells := 8, slots := 83, locals := 128 } X) (he : EnN G { frames := 2, cells := 8, slots := 83, locals := 128 } (fun ws' => ∃ a1 a2 a3 a4 a5 a6 a7 a8 : Nat, ws' = [(q, .inr (7, [.ref a1, .ref a2, .ref a3, .ref a4, .ref a5, .ref a6, .ref a7, .ref a8, .int 0])), (a1, .inl (G.2 0, 10, .inl (fun _ => 0))), (a2, .inl (G.2 0, 10, .inl (fun _ => 0))), (a3, .inl (G.2 0, 10, .inl (fun _ => 0))), (a4, .inl (G.2 0, 10, .inl (fun _ => 0))), (a5, .inl (G.2 0, 10, .inl (fun _ => 0))), (a6, .inl (G.2 0, 16, .inl (ldF 16))), (a7, .inl (G.2 0, 16, .inl (wdF 16))), (a8, .inl (G.2 0, 1, .inl (fun _ => 0)))]) X) : ∀ i : Nat, i ≤ 16 → WN G 2 X 8 83 [(q, .inr (7, [.ref a1, .ref a2, .ref a3, .ref a4, .ref a5, .ref a6, .ref a7, .ref a8, .int 0])), (a1, .inl (G.2 0, 10, .inl (fun _ => 0))), (a2, .inl (G.2 0, 10, .inl (fun _ => 0))), (a3, .inl (G.2 0, 10, .inl (fun _ => 0))), (a4, .inl (G.2 0, 10, .inl (fun _ => 0))), (a5, .inl (G.2 0, 10, .inl (fun _ => 0))), (a6, .inl (G.2 0, 16, .inl (ldF i))), (a7, .inl (G.2 0, 16, .inl (wdF i))), (a8, .inl (G.2 0, 1, .inl (fun _ => 0)))] 69 [(1, .int (nI i)), (0, .ref q)] [] := by
  intro i
  induction hm : 16 - i using Nat.strongRecOn generalizing i with
  | _ m9 ih =>
    intro hi
    have hiI : (nI i).toInt = (i : Int) := nI_c (by omega)
    refine WN.iload_n hx dX7_init_69 rfl 0 rfl ?_
    refine WN.bipush (v := 16) hx dX7_init_70 (by decide) ?_
    refine WN.icmp_ge (tgt := 105) hx dX7_init_72 (by decide) (fun c => ?_) (fun c => ?_)
    · have h16 : i = 16 := by rw [i_le, tI_16, hiI] at c; omega
      subst h16
      exact WN.vret hx he dX7_init_105 rfl rfl ⟨a1, a2, a3, a4, a5, a6, a7, a8, rfl⟩
    · have h16 : i < 16 := by rw [i_le, tI_16, hiI] at c; omega
      refine WN.aload_n hx dX7_init_75 rfl 1 rfl ?_
      refine WN.get (q0 := 0) hx okX7 lf7_27 rfl rfl dX7_init_76 ?_
      show WN G 2 X 8 83 [(q, .inr (7, [.ref a1, .ref a2, .ref a3, .ref a4, .ref a5, .ref a6, .ref a7, .ref a8, .int 0])), (a1, .inl (G.2 0, 10, .inl (fun _ => 0))), (a2, .inl (G.2 0, 10, .inl (fun _ => 0))), (a3, .inl (G.2 0, 10, .inl (fun _ => 0))), (a4, .inl (G.2 0, 10, .inl (fun _ => 0))), (a5, .inl (G.2 0, 10, .inl (fun _ => 0))), (a6, .inl (G.2 0, 16, .inl (ldF i))), (a7, .inl (G.2 0, 16, .inl (wdF i))), (a8, .inl (G.2 0, 1, .inl (fun _ => 0)))] 79 [(1, .int (nI i)), (0, .ref q)] [.ref a6]
      refine WN.iload_n hx dX7_init_79 rfl 0 rfl ?_
      refine WN.iload_n hx dX7_init_80 rfl 0 rfl ?_
      refine WN.iconst (v := 1) hx dX7_init_81 (by decide) ?_
      refine WN.iadd hx dX7_init_82 ?_
      refine WN.as rfl rfl (congrArg (fun z => Value.int z :: _) (nI_1 i)) ?_
      refine WN.bipush (v := 15) hx dX7_init_83 (by decide) ?_
      refine WN.mmin hx (by decide) (by decide) lm7_36 (Nat.le_of_ble_eq_true rfl) (Nat.le_of_ble_eq_true rfl) (Nat.le_of_ble_eq_true rfl) dX7_init_85 ?_
      refine WN.as rfl rfl (congrArg (fun z => Value.int z :: _) (show mn (nI (i + 1)) 15 = nI (min (i + 1) 15) from mn_nI (by omega) (by decide))) ?_
      refine WN.iast (q0 := 6) hx rfl (vp_in_nI (by omega) (by decide)) rfl dX7_init_88 ?_
      refine WN.as (ws' := [(q, .inr (7, [.ref a1, .ref a2, .ref a3, .ref a4, .ref a5, .ref a6, .ref a7, .ref a8, .int 0])), (a1, .inl (G.2 0, 10, .inl (fun _ => 0))), (a2, .inl (G.2 0, 10, .inl (fun _ => 0))), (a3, .inl (G.2 0, 10, .inl (fun _ => 0))), (a4, .inl (G.2 0, 10, .inl (fun _ => 0))), (a5, .inl (G.2 0, 10, .inl (fun _ => 0))), (a6, .inl (G.2 0, 16, .inl (ldF (i + 1)))), (a7, .inl (G.2 0, 16, .inl (wdF i))), (a8, .inl (G.2 0, 1, .inl (fun _ => 0)))]) (congrArg (fun f9 => ([(q, .inr (7, [.ref a1, .ref a2, .ref a3, .ref a4, .ref a5, .ref a6, .ref a7, .ref a8, .int 0])), (a1, .inl (G.2 0, 10, .inl (fun _ => 0))), (a2, .inl (G.2 0, 10, .inl (fun _ => 0))), (a3, .inl (G.2 0, 10, .inl (fun _ => 0))), (a4, .inl (G.2 0, 10, .inl (fun _ => 0))), (a5, .inl (G.2 0, 10, .inl (fun _ => 0))), (a6, .inl (G.2 0, 16, .inl (f9))), (a7, .inl (G.2 0, 16, .inl (wdF i))), (a8, .inl (G.2 0, 1, .inl (fun _ => 0)))] : va_W)) (by rw [nI_clamp (show i < 2 ^ 31 by omega)]; exact ldF_s)) rfl rfl ?_
      refine WN.aload_n hx dX7_init_89 rfl 1 rfl ?_
      refine WN.get (q0 := 0) hx okX7 lf7_30 rfl rfl dX7_init_90 ?_
      show WN G 2 X 8 83 [(q, .inr (7, [.ref a1, .ref a2, .ref a3, .ref a4, .ref a5, .ref a6, .ref a7, .ref a8, .int 0])), (a1, .inl (G.2 0, 10, .inl (fun _ => 0))), (a2, .inl (G.2 0, 10, .inl (fun _ => 0))), (a3, .inl (G.2 0, 10, .inl (fun _ => 0))), (a4, .inl (G.2 0, 10, .inl (fun _ => 0))), (a5, .inl (G.2 0, 10, .inl (fun _ => 0))), (a6, .inl (G.2 0, 16, .inl (ldF (i + 1)))), (a7, .inl (G.2 0, 16, .inl (wdF i))), (a8, .inl (G.2 0, 1, .inl (fun _ => 0)))] 93 [(1, .int (nI i)), (0, .ref q)] [.ref a7]
      refine WN.iload_n hx dX7_init_93 rfl 0 rfl ?_
      refine WN.iload_n hx dX7_init_94 rfl 0 rfl ?_
      refine WN.bipush (v := 10) hx dX7_init_95 (by decide) ?_
      refine WN.irem hx dX7_init_97 (by decide) ?_
      refine WN.as rfl rfl (congrArg (fun z => Value.int z :: _) (rem10 (show i < 100 by omega))) ?_
      refine WN.iast (q0 := 7) hx rfl (vp_in_nI (by omega) (by decide)) rfl dX7_init_98 ?_
      refine WN.as (ws' := [(q, .inr (7, [.ref a1, .ref a2, .ref a3, .ref a4, .ref a5, .ref a6, .ref a7, .ref a8, .int 0])), (a1, .inl (G.2 0, 10, .inl (fun _ => 0))), (a2, .inl (G.2 0, 10, .inl (fun _ => 0))), (a3, .inl (G.2 0, 10, .inl (fun _ => 0))), (a4, .inl (G.2 0, 10, .inl (fun _ => 0))), (a5, .inl (G.2 0, 10, .inl (fun _ => 0))), (a6, .inl (G.2 0, 16, .inl (ldF (i + 1)))), (a7, .inl (G.2 0, 16, .inl (wdF (i + 1)))), (a8, .inl (G.2 0, 1, .inl (fun _ => 0)))]) (congrArg (fun f9 => ([(q, .inr (7, [.ref a1, .ref a2, .ref a3, .ref a4, .ref a5, .ref a6, .ref a7, .ref a8, .int 0])), (a1, .inl (G.2 0, 10, .inl (fun _ => 0))), (a2, .inl (G.2 0, 10, .inl (fun _ => 0))), (a3, .inl (G.2 0, 10, .inl (fun _ => 0))), (a4, .inl (G.2 0, 10, .inl (fun _ => 0))), (a5, .inl (G.2 0, 10, .inl (fun _ => 0))), (a6, .inl (G.2 0, 16, .inl (ldF (i + 1)))), (a7, .inl (G.2 0, 16, .inl (f9))), (a8, .inl (G.2 0, 1, .inl (fun _ => 0)))] : va_W)) (by rw [nI_clamp (show i < 2 ^ 31 by omega)]; exact wdF_s)) rfl rfl ?_
      refine WN.iinc (v := nI (i + 1)) (lo' := [(1, .int (nI (i + 1))), (0, .ref q)]) hx dX7_init_99 0 rfl (nI_1 i) (by decide) rfl ?_
      refine WN.goto (tgt := 69) hx dX7_init_102 (by decide) ?_
      exact ih _ (by omega) (i + 1) rfl (by omega)
set_option maxHeartbeats 2000000 in
theorem cn_X7 (G : Gc) (q : Nat) : CN G mX7_init { frames := 2, cells := 8, slots := 83, locals := 128 } [.ref q] [(q, .inr (7, [.null, .null, .null, .null, .null, .null, .null, .null, .int 0]))] (fun ws' => ∃ a1 a2 a3 a4 a5 a6 a7 a8 : Nat, ws' = [(q, .inr (7, [.ref a1, .ref a2, .ref a3, .ref a4, .ref a5, .ref a6, .ref a7, .ref a8, .int 0])), (a1, .inl (G.2 0, 10, .inl (fun _ => 0))), (a2, .inl (G.2 0, 10, .inl (fun _ => 0))), (a3, .inl (G.2 0, 10, .inl (fun _ => 0))), (a4, .inl (G.2 0, 10, .inl (fun _ => 0))), (a5, .inl (G.2 0, 10, .inl (fun _ => 0))), (a6, .inl (G.2 0, 16, .inl (ldF 16))), (a7, .inl (G.2 0, 16, .inl (wdF 16))), (a8, .inl (G.2 0, 1, .inl (fun _ => 0)))]) := by
  refine CN.of (own := RX7) rfl rfl rfl (by decide) (Nat.le_of_ble_eq_true rfl) (fun X (hx : OkN G RX7 cX7_init 2 { frames := 2, cells := 8, slots := 83, locals := 128 } X) (hi : InN X) (he : EnN G { frames := 2, cells := 8, slots := 83, locals := 128 } (fun ws' => ∃ a1 a2 a3 a4 a5 a6 a7 a8 : Nat, ws' = [(q, .inr (7, [.ref a1, .ref a2, .ref a3, .ref a4, .ref a5, .ref a6, .ref a7, .ref a8, .int 0])), (a1, .inl (G.2 0, 10, .inl (fun _ => 0))), (a2, .inl (G.2 0, 10, .inl (fun _ => 0))), (a3, .inl (G.2 0, 10, .inl (fun _ => 0))), (a4, .inl (G.2 0, 10, .inl (fun _ => 0))), (a5, .inl (G.2 0, 10, .inl (fun _ => 0))), (a6, .inl (G.2 0, 16, .inl (ldF 16))), (a7, .inl (G.2 0, 16, .inl (wdF 16))), (a8, .inl (G.2 0, 1, .inl (fun _ => 0)))]) X) => ?_)
  change WN G 2 X 0 0 [(q, .inr (7, [.null, .null, .null, .null, .null, .null, .null, .null, .int 0]))] 0 [(0, .ref q)] []
  refine WN.aload_n hx dX7_init_0 rfl 0 rfl ?_
  refine WN.objInit hx (by decide) (by decide) lo7_3 ob_i ob_c (Nat.le_of_ble_eq_true rfl) dX7_init_1 ?_
  refine WN.aload_n hx dX7_init_4 rfl 0 rfl ?_
  refine WN.bipush (v := 10) hx dX7_init_5 (by decide) ?_
  refine WN.newI (N := 10) hx ax_int (by decide) (by decide) (by decide) (Nat.le_of_ble_eq_true rfl) (Nat.le_of_ble_eq_true rfl) dX7_init_7 (fun a1 => ?_)
  show WN G 2 X 1 10 [(q, .inr (7, [.null, .null, .null, .null, .null, .null, .null, .null, .int 0])), (a1, .inl (G.2 0, 10, .inl (fun _ => 0)))] 9 [(0, .ref q)] [.ref a1, .ref q]
  refine WN.put (q0 := 0) hx hi okX7 lf7_9 rfl rfl (Nat.le_of_ble_eq_true rfl) rfl rfl rfl rfl dX7_init_9 ?_
  show WN G 2 X 1 10 [(q, .inr (7, [.ref a1, .null, .null, .null, .null, .null, .null, .null, .int 0])), (a1, .inl (G.2 0, 10, .inl (fun _ => 0)))] 12 [(0, .ref q)] []
  refine WN.aload_n hx dX7_init_12 rfl 0 rfl ?_
  refine WN.bipush (v := 10) hx dX7_init_13 (by decide) ?_
  refine WN.newI (N := 10) hx ax_int (by decide) (by decide) (by decide) (Nat.le_of_ble_eq_true rfl) (Nat.le_of_ble_eq_true rfl) dX7_init_15 (fun a2 => ?_)
  show WN G 2 X 2 20 [(q, .inr (7, [.ref a1, .null, .null, .null, .null, .null, .null, .null, .int 0])), (a1, .inl (G.2 0, 10, .inl (fun _ => 0))), (a2, .inl (G.2 0, 10, .inl (fun _ => 0)))] 17 [(0, .ref q)] [.ref a2, .ref q]
  refine WN.put (q0 := 0) hx hi okX7 lf7_15 rfl rfl (Nat.le_of_ble_eq_true rfl) rfl rfl rfl rfl dX7_init_17 ?_
  show WN G 2 X 2 20 [(q, .inr (7, [.ref a1, .ref a2, .null, .null, .null, .null, .null, .null, .int 0])), (a1, .inl (G.2 0, 10, .inl (fun _ => 0))), (a2, .inl (G.2 0, 10, .inl (fun _ => 0)))] 20 [(0, .ref q)] []
  refine WN.aload_n hx dX7_init_20 rfl 0 rfl ?_
  refine WN.bipush (v := 10) hx dX7_init_21 (by decide) ?_
  refine WN.newI (N := 10) hx ax_int (by decide) (by decide) (by decide) (Nat.le_of_ble_eq_true rfl) (Nat.le_of_ble_eq_true rfl) dX7_init_23 (fun a3 => ?_)
  show WN G 2 X 3 30 [(q, .inr (7, [.ref a1, .ref a2, .null, .null, .null, .null, .null, .null, .int 0])), (a1, .inl (G.2 0, 10, .inl (fun _ => 0))), (a2, .inl (G.2 0, 10, .inl (fun _ => 0))), (a3, .inl (G.2 0, 10, .inl (fun _ => 0)))] 25 [(0, .ref q)] [.ref a3, .ref q]
  refine WN.put (q0 := 0) hx hi okX7 lf7_18 rfl rfl (Nat.le_of_ble_eq_true rfl) rfl rfl rfl rfl dX7_init_25 ?_
  show WN G 2 X 3 30 [(q, .inr (7, [.ref a1, .ref a2, .ref a3, .null, .null, .null, .null, .null, .int 0])), (a1, .inl (G.2 0, 10, .inl (fun _ => 0))), (a2, .inl (G.2 0, 10, .inl (fun _ => 0))), (a3, .inl (G.2 0, 10, .inl (fun _ => 0)))] 28 [(0, .ref q)] []
  refine WN.aload_n hx dX7_init_28 rfl 0 rfl ?_
  refine WN.bipush (v := 10) hx dX7_init_29 (by decide) ?_
  refine WN.newI (N := 10) hx ax_int (by decide) (by decide) (by decide) (Nat.le_of_ble_eq_true rfl) (Nat.le_of_ble_eq_true rfl) dX7_init_31 (fun a4 => ?_)
  show WN G 2 X 4 40 [(q, .inr (7, [.ref a1, .ref a2, .ref a3, .null, .null, .null, .null, .null, .int 0])), (a1, .inl (G.2 0, 10, .inl (fun _ => 0))), (a2, .inl (G.2 0, 10, .inl (fun _ => 0))), (a3, .inl (G.2 0, 10, .inl (fun _ => 0))), (a4, .inl (G.2 0, 10, .inl (fun _ => 0)))] 33 [(0, .ref q)] [.ref a4, .ref q]
  refine WN.put (q0 := 0) hx hi okX7 lf7_21 rfl rfl (Nat.le_of_ble_eq_true rfl) rfl rfl rfl rfl dX7_init_33 ?_
  show WN G 2 X 4 40 [(q, .inr (7, [.ref a1, .ref a2, .ref a3, .ref a4, .null, .null, .null, .null, .int 0])), (a1, .inl (G.2 0, 10, .inl (fun _ => 0))), (a2, .inl (G.2 0, 10, .inl (fun _ => 0))), (a3, .inl (G.2 0, 10, .inl (fun _ => 0))), (a4, .inl (G.2 0, 10, .inl (fun _ => 0)))] 36 [(0, .ref q)] []
  refine WN.aload_n hx dX7_init_36 rfl 0 rfl ?_
  refine WN.bipush (v := 10) hx dX7_init_37 (by decide) ?_
  refine WN.newI (N := 10) hx ax_int (by decide) (by decide) (by decide) (Nat.le_of_ble_eq_true rfl) (Nat.le_of_ble_eq_true rfl) dX7_init_39 (fun a5 => ?_)
  show WN G 2 X 5 50 [(q, .inr (7, [.ref a1, .ref a2, .ref a3, .ref a4, .null, .null, .null, .null, .int 0])), (a1, .inl (G.2 0, 10, .inl (fun _ => 0))), (a2, .inl (G.2 0, 10, .inl (fun _ => 0))), (a3, .inl (G.2 0, 10, .inl (fun _ => 0))), (a4, .inl (G.2 0, 10, .inl (fun _ => 0))), (a5, .inl (G.2 0, 10, .inl (fun _ => 0)))] 41 [(0, .ref q)] [.ref a5, .ref q]
  refine WN.put (q0 := 0) hx hi okX7 lf7_24 rfl rfl (Nat.le_of_ble_eq_true rfl) rfl rfl rfl rfl dX7_init_41 ?_
  show WN G 2 X 5 50 [(q, .inr (7, [.ref a1, .ref a2, .ref a3, .ref a4, .ref a5, .null, .null, .null, .int 0])), (a1, .inl (G.2 0, 10, .inl (fun _ => 0))), (a2, .inl (G.2 0, 10, .inl (fun _ => 0))), (a3, .inl (G.2 0, 10, .inl (fun _ => 0))), (a4, .inl (G.2 0, 10, .inl (fun _ => 0))), (a5, .inl (G.2 0, 10, .inl (fun _ => 0)))] 44 [(0, .ref q)] []
  refine WN.aload_n hx dX7_init_44 rfl 0 rfl ?_
  refine WN.bipush (v := 16) hx dX7_init_45 (by decide) ?_
  refine WN.newI (N := 16) hx ax_int (by decide) (by decide) (by decide) (Nat.le_of_ble_eq_true rfl) (Nat.le_of_ble_eq_true rfl) dX7_init_47 (fun a6 => ?_)
  show WN G 2 X 6 66 [(q, .inr (7, [.ref a1, .ref a2, .ref a3, .ref a4, .ref a5, .null, .null, .null, .int 0])), (a1, .inl (G.2 0, 10, .inl (fun _ => 0))), (a2, .inl (G.2 0, 10, .inl (fun _ => 0))), (a3, .inl (G.2 0, 10, .inl (fun _ => 0))), (a4, .inl (G.2 0, 10, .inl (fun _ => 0))), (a5, .inl (G.2 0, 10, .inl (fun _ => 0))), (a6, .inl (G.2 0, 16, .inl (fun _ => 0)))] 49 [(0, .ref q)] [.ref a6, .ref q]
  refine WN.put (q0 := 0) hx hi okX7 lf7_27 rfl rfl (Nat.le_of_ble_eq_true rfl) rfl rfl rfl rfl dX7_init_49 ?_
  show WN G 2 X 6 66 [(q, .inr (7, [.ref a1, .ref a2, .ref a3, .ref a4, .ref a5, .ref a6, .null, .null, .int 0])), (a1, .inl (G.2 0, 10, .inl (fun _ => 0))), (a2, .inl (G.2 0, 10, .inl (fun _ => 0))), (a3, .inl (G.2 0, 10, .inl (fun _ => 0))), (a4, .inl (G.2 0, 10, .inl (fun _ => 0))), (a5, .inl (G.2 0, 10, .inl (fun _ => 0))), (a6, .inl (G.2 0, 16, .inl (fun _ => 0)))] 52 [(0, .ref q)] []
  refine WN.aload_n hx dX7_init_52 rfl 0 rfl ?_
  refine WN.bipush (v := 16) hx dX7_init_53 (by decide) ?_
  refine WN.newI (N := 16) hx ax_int (by decide) (by decide) (by decide) (Nat.le_of_ble_eq_true rfl) (Nat.le_of_ble_eq_true rfl) dX7_init_55 (fun a7 => ?_)
  show WN G 2 X 7 82 [(q, .inr (7, [.ref a1, .ref a2, .ref a3, .ref a4, .ref a5, .ref a6, .null, .null, .int 0])), (a1, .inl (G.2 0, 10, .inl (fun _ => 0))), (a2, .inl (G.2 0, 10, .inl (fun _ => 0))), (a3, .inl (G.2 0, 10, .inl (fun _ => 0))), (a4, .inl (G.2 0, 10, .inl (fun _ => 0))), (a5, .inl (G.2 0, 10, .inl (fun _ => 0))), (a6, .inl (G.2 0, 16, .inl (fun _ => 0))), (a7, .inl (G.2 0, 16, .inl (fun _ => 0)))] 57 [(0, .ref q)] [.ref a7, .ref q]
  refine WN.put (q0 := 0) hx hi okX7 lf7_30 rfl rfl (Nat.le_of_ble_eq_true rfl) rfl rfl rfl rfl dX7_init_57 ?_
  show WN G 2 X 7 82 [(q, .inr (7, [.ref a1, .ref a2, .ref a3, .ref a4, .ref a5, .ref a6, .ref a7, .null, .int 0])), (a1, .inl (G.2 0, 10, .inl (fun _ => 0))), (a2, .inl (G.2 0, 10, .inl (fun _ => 0))), (a3, .inl (G.2 0, 10, .inl (fun _ => 0))), (a4, .inl (G.2 0, 10, .inl (fun _ => 0))), (a5, .inl (G.2 0, 10, .inl (fun _ => 0))), (a6, .inl (G.2 0, 16, .inl (fun _ => 0))), (a7, .inl (G.2 0, 16, .inl (fun _ => 0)))] 60 [(0, .ref q)] []
  refine WN.aload_n hx dX7_init_60 rfl 0 rfl ?_
  refine WN.iconst (v := 1) hx dX7_init_61 (by decide) ?_
  refine WN.newI (N := 1) hx ax_int (by decide) (by decide) (by decide) (Nat.le_of_ble_eq_true rfl) (Nat.le_of_ble_eq_true rfl) dX7_init_62 (fun a8 => ?_)
  show WN G 2 X 8 83 [(q, .inr (7, [.ref a1, .ref a2, .ref a3, .ref a4, .ref a5, .ref a6, .ref a7, .null, .int 0])), (a1, .inl (G.2 0, 10, .inl (fun _ => 0))), (a2, .inl (G.2 0, 10, .inl (fun _ => 0))), (a3, .inl (G.2 0, 10, .inl (fun _ => 0))), (a4, .inl (G.2 0, 10, .inl (fun _ => 0))), (a5, .inl (G.2 0, 10, .inl (fun _ => 0))), (a6, .inl (G.2 0, 16, .inl (fun _ => 0))), (a7, .inl (G.2 0, 16, .inl (fun _ => 0))), (a8, .inl (G.2 0, 1, .inl (fun _ => 0)))] 64 [(0, .ref q)] [.ref a8, .ref q]
  refine WN.put (q0 := 0) hx hi okX7 lf7_33 rfl rfl (Nat.le_of_ble_eq_true rfl) rfl rfl rfl rfl dX7_init_64 ?_
  show WN G 2 X 8 83 [(q, .inr (7, [.ref a1, .ref a2, .ref a3, .ref a4, .ref a5, .ref a6, .ref a7, .ref a8, .int 0])), (a1, .inl (G.2 0, 10, .inl (fun _ => 0))), (a2, .inl (G.2 0, 10, .inl (fun _ => 0))), (a3, .inl (G.2 0, 10, .inl (fun _ => 0))), (a4, .inl (G.2 0, 10, .inl (fun _ => 0))), (a5, .inl (G.2 0, 10, .inl (fun _ => 0))), (a6, .inl (G.2 0, 16, .inl (fun _ => 0))), (a7, .inl (G.2 0, 16, .inl (fun _ => 0))), (a8, .inl (G.2 0, 1, .inl (fun _ => 0)))] 67 [(0, .ref q)] []
  refine WN.iconst (v := 0) hx dX7_init_67 (by decide) ?_
  refine WN.istore_n (lo' := [(1, .int 0), (0, .ref q)]) hx dX7_init_68 rfl (by decide) rfl ?_
  exact ln_X7 G q a1 a2 a3 a4 a5 a6 a7 a8 X hx he 0 (Nat.zero_le _)
