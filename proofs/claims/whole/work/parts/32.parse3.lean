set_option maxHeartbeats 1000000 in
theorem lp_X5_readNumber (V : Vt) (d : Nat) (σ0 : Sg) (d9 L : Nat) (hB : PB V σ0 d9 L) (R : Int32 × Ps) (X : Xt) (hx : Ok V RX5 cX5_readNumber 3 (d + 1) X) (he : En layC V none (Rv fun σ' => PS σ0 σ' d9 L (wr R.1 R.2)) X) : ∀ (u i : Nat) (v : Int32) (s : Ps) (τ : Sg), i + u = 4 → PS σ0 τ d9 L s → nbF (σ0.1 3) L u v s = R → WS layC V 3 X τ 4 [(2, .int (nI i)), (1, .int v), (0, rf V 2)] [] := by
  intro u
  induction u with
  | zero =>
    intro i v s τ hiu hS hR
    have hiI : (nI i).toInt = (i : Int) := nI_c (by omega)
    refine WS.iload_n hx dX5_readNumber_4 rfl 0 rfl ?_
    refine WS.iconst (v := 4) hx dX5_readNumber_5 (by decide) ?_
    refine WS.icmp_ge (tgt := 48) hx dX5_readNumber_6 (by decide) (fun c6 => ?_) (fun c6 => by exfalso; (try simp only [i_le, i_lt, i_eq, tI_0, tI_1, tI_4, tI_10, tI_48] at c6); (try simp only [i_le, i_lt, i_eq, tI_0, tI_1, tI_4, tI_10, tI_48]); omega)
    refine WS.aload_n hx dX5_readNumber_48 rfl 2 rfl ?_
    refine WS.iload_n hx dX5_readNumber_49 rfl 1 rfl ?_
    refine WS.callVv (st := []) [.int v] hx (c_X5_write V d τ σ0 d9 L hB s hS v) okX5_write lm5_76 rfl rfl rfl rfl (Nat.le_of_ble_eq_true rfl) dX5_readNumber_50 (fun σ2 h3 => ?_)
    have ps50 := h3
    show WS layC V 3 X σ2 53 [(2, .int (nI i)), (1, .int v), (0, rf V 2)] []
    exact WS.vret hx he dX5_readNumber_53 ⟨rfl, by rw [← hR]; exact ps50⟩
  | succ u ih =>
    intro i v s τ hiu hS hR
    have hiI : (nI i).toInt = (i : Int) := nI_c (by omega)
    unfold nbF at hR
    refine WS.iload_n hx dX5_readNumber_4 rfl 0 rfl ?_
    refine WS.iconst (v := 4) hx dX5_readNumber_5 (by decide) ?_
    refine WS.icmp_ge (tgt := 48) hx dX5_readNumber_6 (by decide) (fun c6 => by exfalso; (try simp only [i_le, i_lt, i_eq, tI_0, tI_1, tI_4, tI_10, tI_48] at c6); (try simp only [i_le, i_lt, i_eq, tI_0, tI_1, tI_4, tI_10, tI_48]); omega) (fun c6 => ?_)
    refine WS.aload_n hx dX5_readNumber_9 rfl 2 rfl ?_
    refine WS.callVi (st := []) [] hx (c_X5_comes V d τ σ0 d9 L hB s hS) okX5_comes lm5_53 rfl rfl rfl rfl (Nat.le_of_ble_eq_true rfl) dX5_readNumber_10 (fun v1 σ2 h3 => ?_)
    obtain ⟨rfl, rfl⟩ := h3
    show WS layC V 3 X τ 13 [(2, .int (nI i)), (1, .int v), (0, rf V 2)] [.int (cm (σ0.1 3) L s)]
    refine WS.callSi (st := []) [.int (cm (σ0.1 3) L s)] hx (c_X5_isDigit V d τ (cm (σ0.1 3) L s)) okX5_isDigit lm5_95 rfl rfl (Nat.le_of_ble_eq_true rfl) dX5_readNumber_13 (fun v4 σ5 h6 => ?_)
    rcases h6 with ⟨rfl, rfl, hb13⟩ | ⟨rfl, rfl, hb13⟩
    · skip
      show WS layC V 3 X τ 16 [(2, .int (nI i)), (1, .int v), (0, rf V 2)] [.int 1]
      rw [if_pos hb13] at hR
      have hlt : s.1 < L := cm_lt (by intro e; rw [e] at hb13; exact absurd hb13 (by decide))
      refine WS.if_eq (tgt := 48) hx dX5_readNumber_16 (by decide) (fun h => absurd h (by decide)) (fun _ => ?_)
      refine WS.iload_n hx dX5_readNumber_19 rfl 1 rfl ?_
      refine WS.bipush (v := 10) hx dX5_readNumber_20 (by decide) ?_
      refine WS.imul hx dX5_readNumber_22 ?_
      refine WS.aload_n hx dX5_readNumber_23 rfl 2 rfl ?_
      refine WS.callVi (st := [.int (v * 10)]) [] hx (c_X5_comes V d τ σ0 d9 L hB s hS) okX5_comes lm5_53 rfl rfl rfl rfl (Nat.le_of_ble_eq_true rfl) dX5_readNumber_24 (fun v7 σ8 h9 => ?_)
      obtain ⟨rfl, rfl⟩ := h9
      show WS layC V 3 X τ 27 [(2, .int (nI i)), (1, .int v), (0, rf V 2)] [.int (cm (σ0.1 3) L s), .int (v * 10)]
      refine WS.iadd hx dX5_readNumber_27 ?_
      refine WS.bipush (v := 48) hx dX5_readNumber_28 (by decide) ?_
      refine WS.isub hx dX5_readNumber_30 ?_
      refine WS.istore_n (lo' := [(1, .int (((v * 10) + (cm (σ0.1 3) L s)) - 48)), (2, .int (nI i)), (0, rf V 2)]) hx dX5_readNumber_31 rfl (by decide) rfl ?_
      refine WS.aload_n hx dX5_readNumber_32 rfl 2 rfl ?_
      refine WS.dup hx dX5_readNumber_33 rfl ?_
      refine WS.getI hx okX5 lf5_40 rfl rfl dX5_readNumber_34 ?_
      refine WS.as rfl rfl (congrArg (fun z => Value.int z :: _) (show τ.1 2 8 = nI s.1 from hS.2.2.1)) ?_
      skip
      refine WS.iconst (v := 1) hx dX5_readNumber_37 (by decide) ?_
      refine WS.iadd hx dX5_readNumber_38 ?_
      refine WS.as rfl rfl (congrArg (fun z => Value.int z :: _) (show (nI s.1) + 1 = nI (s.1 + 1) from nI_1 _)) ?_
      skip
      refine WS.putI hx okX5 lf5_40 rfl rfl rfl rfl dX5_readNumber_39 ?_
      refine WS.iinc (v := nI (i + 1)) (lo' := [(2, .int (nI (i + 1))), (1, .int (((v * 10) + (cm (σ0.1 3) L s)) - 48)), (0, rf V 2)]) hx dX5_readNumber_42 1 rfl (nI_1 i) (by decide) rfl ?_
      refine WS.goto (tgt := 4) hx dX5_readNumber_45 (by decide) ?_
      exact WS.los [0, 1, 2] rfl (ih (i + 1) _ (adv s) _ (by omega) (hS.ad hB hlt) hR)
    · skip
      show WS layC V 3 X τ 16 [(2, .int (nI i)), (1, .int v), (0, rf V 2)] [.int 0]
      rw [if_neg hb13] at hR
      refine WS.if_eq (tgt := 48) hx dX5_readNumber_16 (by decide) (fun _ => ?_) (fun h => absurd (by decide) h)
      refine WS.aload_n hx dX5_readNumber_48 rfl 2 rfl ?_
      refine WS.iload_n hx dX5_readNumber_49 rfl 1 rfl ?_
      refine WS.callVv (st := []) [.int v] hx (c_X5_write V d τ σ0 d9 L hB s hS v) okX5_write lm5_76 rfl rfl rfl rfl (Nat.le_of_ble_eq_true rfl) dX5_readNumber_50 (fun σ11 h12 => ?_)
      have ps50 := h12
      show WS layC V 3 X σ11 53 [(2, .int (nI i)), (1, .int v), (0, rf V 2)] []
      exact WS.vret hx he dX5_readNumber_53 ⟨rfl, by rw [← hR]; exact ps50⟩
set_option maxHeartbeats 1000000 in
theorem c_X5_readNumber (V : Vt) (d : Nat) (σ : Sg) (σ0 : Sg) (d9 L : Nat) (hB : PB V σ0 d9 L) (s : Ps) (hS : PS σ0 σ d9 L s) : CT layC V mX5_readNumber (d + 1) [rf V 2] σ (Rv fun σ' => PS σ0 σ' d9 L (nuF (σ0.1 3) L s)) := by
  refine CT.of (own := RX5) rfl (by decide) (Nat.le_of_ble_eq_true rfl) (fun X (hx : Ok V RX5 cX5_readNumber 3 (d + 1) X) (he : En layC V none (Rv fun σ' => PS σ0 σ' d9 L (nuF (σ0.1 3) L s)) X) => ?_)
  change WS layC V 3 X σ 0 [(0, rf V 2)] []
  refine WS.iconst (v := 0) hx dX5_readNumber_0 (by decide) ?_
  refine WS.istore_n (lo' := [(1, .int 0), (0, rf V 2)]) hx dX5_readNumber_1 rfl (by decide) rfl ?_
  refine WS.iconst (v := 0) hx dX5_readNumber_2 (by decide) ?_
  refine WS.istore_n (lo' := [(2, .int 0), (1, .int 0), (0, rf V 2)]) hx dX5_readNumber_3 rfl (by decide) rfl ?_
  exact WS.los [0, 1, 2] rfl (lp_X5_readNumber V d σ0 d9 L hB _ X hx he 4 0 0 s σ rfl hS rfl)
theorem PS.kb {V : Vt} {σ0 τ : Sg} {d9 L : Nat} {s : Ps} (hB : PB V σ0 d9 L) (h : PS σ0 τ d9 L s) (v : Int32) : PS σ0 (stI τ 2 5 v) d9 L (s.1, s.2.1, s.2.2.1, v) := by
  obtain ⟨h1, h2, h3, h4, h5, h6, h7, h8, h9⟩ := h
  exact ⟨fun q a b => (stI_o _ _ _ _ a).trans (h1 q a b), h2, (stI_k _ _ _ _ (by decide)).trans h3, (stI_k _ _ _ _ (by decide)).trans h4, stI_1 _ _ _ _, by rw [stI_o _ _ _ _ hB.n2]; exact h6, fun j a b c => (stI_k _ _ _ _ b).trans (h7 j a b c), h8, h9⟩
theorem wr_p {c : Int32} {s : Ps} : (wr c s).1 = s.1 := by unfold wr; split <;> rfl
set_option maxHeartbeats 1000000 in
theorem c_X5_readName (V : Vt) (d : Nat) (σ : Sg) (σ0 : Sg) (d9 L : Nat) (hB : PB V σ0 d9 L) (s : Ps) (hS : PS σ0 σ d9 L s) (k : Int32) (hk : 0 ≤ k.toInt ∧ k.toInt ≤ 5) (hlt : s.1 < L) : CT layC V mX5_readName (d + 1) [rf V 2, .int k] σ (Rv fun σ' => PS σ0 σ' d9 L (naF k s)) := by
  refine CT.of (own := RX5) rfl (by decide) (Nat.le_of_ble_eq_true rfl) (fun X (hx : Ok V RX5 cX5_readName 2 (d + 1) X) (he : En layC V none (Rv fun σ' => PS σ0 σ' d9 L (naF k s)) X) => ?_)
  change WS layC V 2 X σ 0 [(0, rf V 2), (1, .int k)] []
  refine WS.aload_n hx dX5_readName_0 rfl 0 rfl ?_
  refine WS.dup hx dX5_readName_1 rfl ?_
  refine WS.getI hx okX5 lf5_46 rfl rfl dX5_readName_2 ?_
  refine WS.as rfl rfl (congrArg (fun z => Value.int z :: _) (show σ.1 2 5 = s.2.2.2 from hS.2.2.2.2.1)) ?_
  skip
  refine WS.gets (k := 1) hx rfl ls5_115 dX5_readName_5 ?_
  refine WS.iload_n hx dX5_readName_8 rfl 1 rfl ?_
  refine WS.tald (k := 1) hx rfl (show vp_in k 6 from (vp_in_iff.mpr (by omega))) dX5_readName_9 ?_
  refine WS.ior hx dX5_readName_10 ?_
  refine WS.putI hx okX5 lf5_46 rfl rfl rfl rfl dX5_readName_11 ?_
  refine WS.aload_n hx dX5_readName_14 rfl 0 rfl ?_
  refine WS.iconst (v := (-1)) hx dX5_readName_15 (by decide) ?_
  refine WS.iload_n hx dX5_readName_16 rfl 1 rfl ?_
  refine WS.isub hx dX5_readName_17 ?_
  refine WS.callVv (st := []) [.int ((-1) - k)] hx (c_X5_write V d (stI σ 2 5 (s.2.2.2 ||| (zt_f 1 (nn k)))) σ0 d9 L hB (s.1, s.2.1, s.2.2.1, s.2.2.2 ||| zt_f 1 (nn k)) (hS.kb hB _) ((-1) - k)) okX5_write lm5_76 rfl rfl rfl rfl (Nat.le_of_ble_eq_true rfl) dX5_readName_18 (fun σ2 h3 => ?_)
  have ps18 := h3
  show WS layC V 2 X σ2 21 [(0, rf V 2), (1, .int k)] []
  refine WS.aload_n hx dX5_readName_21 rfl 0 rfl ?_
  refine WS.dup hx dX5_readName_22 rfl ?_
  refine WS.getI hx okX5 lf5_40 rfl rfl dX5_readName_23 ?_
  refine WS.as rfl rfl (congrArg (fun z => Value.int z :: _) (show σ2.1 2 8 = nI s.1 from by rw [ps18.2.2.1, wr_p])) ?_
  skip
  refine WS.iconst (v := 1) hx dX5_readName_26 (by decide) ?_
  refine WS.iadd hx dX5_readName_27 ?_
  refine WS.as rfl rfl (congrArg (fun z => Value.int z :: _) (show (nI s.1) + 1 = nI (s.1 + 1) from nI_1 _)) ?_
  skip
  refine WS.putI hx okX5 lf5_40 rfl rfl rfl rfl dX5_readName_28 ?_
  exact WS.vret hx he dX5_readName_31 ⟨rfl, by have h9 := ps18.ad hB (by rw [wr_p]; exact hlt); rw [wr_p] at h9; exact h9⟩
set_option maxHeartbeats 1000000 in
theorem c_X5_readOS (V : Vt) (d : Nat) (σ : Sg) (σ0 : Sg) (d9 L : Nat) (hB : PB V σ0 d9 L) (dp : Nat) (hdp : dp < 6) (G : Ps → Bool × Ps) (H : Int32 → Ps → Bool × Ps) (hG : ∀ (s : Ps) (τ : Sg), PS σ0 τ d9 L s → CT layC V mX5_readToBracket (d + 8) [rf V 2, .int (nI (dp + 1))] τ (Ri fun v σ' => bI (G s).1 = v ∧ PS σ0 σ' d9 L (G s).2)) (hH : ∀ (c : Int32) (s : Ps) (τ : Sg), PS σ0 τ d9 L s → CT layC V mX5_readSigned (d + 8) [rf V 2, .int c, .int (nI (dp + 1))] τ (Ri fun v σ' => bI (H c s).1 = v ∧ PS σ0 σ' d9 L (H c s).2)) (s : Ps) (hS : PS σ0 σ d9 L s) : CT layC V mX5_readO (d + 9) [rf V 2, .int (nI dp)] σ (Ri fun v σ' => bI ((if isDg (cm (σ0.1 3) L s) = true then (true, nuF (σ0.1 3) L s) else if nmF (cm (σ0.1 3) L s) = -1 then (if cm (σ0.1 3) L s = 40 then G (adv s) else if cm (σ0.1 3) L s = 33 ∨ cm (σ0.1 3) L s = 45 then H (cm (σ0.1 3) L s) (adv s) else (false, s)) else (true, naF (nmF (cm (σ0.1 3) L s)) s))).1 = v ∧ PS σ0 σ' d9 L ((if isDg (cm (σ0.1 3) L s) = true then (true, nuF (σ0.1 3) L s) else if nmF (cm (σ0.1 3) L s) = -1 then (if cm (σ0.1 3) L s = 40 then G (adv s) else if cm (σ0.1 3) L s = 33 ∨ cm (σ0.1 3) L s = 45 then H (cm (σ0.1 3) L s) (adv s) else (false, s)) else (true, naF (nmF (cm (σ0.1 3) L s)) s))).2) := by
  refine CT.of (own := RX5) rfl (by decide) (Nat.le_of_ble_eq_true rfl) (fun X (hx : Ok V RX5 cX5_readO 3 (d + 9) X) (he : En layC V (some .boolean) (Ri fun v σ' => bI ((if isDg (cm (σ0.1 3) L s) = true then (true, nuF (σ0.1 3) L s) else if nmF (cm (σ0.1 3) L s) = -1 then (if cm (σ0.1 3) L s = 40 then G (adv s) else if cm (σ0.1 3) L s = 33 ∨ cm (σ0.1 3) L s = 45 then H (cm (σ0.1 3) L s) (adv s) else (false, s)) else (true, naF (nmF (cm (σ0.1 3) L s)) s))).1 = v ∧ PS σ0 σ' d9 L ((if isDg (cm (σ0.1 3) L s) = true then (true, nuF (σ0.1 3) L s) else if nmF (cm (σ0.1 3) L s) = -1 then (if cm (σ0.1 3) L s = 40 then G (adv s) else if cm (σ0.1 3) L s = 33 ∨ cm (σ0.1 3) L s = 45 then H (cm (σ0.1 3) L s) (adv s) else (false, s)) else (true, naF (nmF (cm (σ0.1 3) L s)) s))).2) X) => ?_)
  change WS layC V 3 X σ 0 [(0, rf V 2), (1, .int (nI dp))] []
  have hdI : (nI dp).toInt = (dp : Int) := nI_c (by omega)
  refine WS.aload_n hx dX5_readO_0 rfl 0 rfl ?_
  refine WS.callVi (st := []) [] hx (c_X5_comes V (d + 8) σ σ0 d9 L hB s hS) okX5_comes lm5_53 rfl rfl rfl rfl (Nat.le_of_ble_eq_true rfl) dX5_readO_1 (fun v1 σ2 h3 => ?_)
  obtain ⟨rfl, rfl⟩ := h3
  show WS layC V 3 X σ 4 [(0, rf V 2), (1, .int (nI dp))] [.int (cm (σ0.1 3) L s)]
  refine WS.istore_n (lo' := [(2, .int (cm (σ0.1 3) L s)), (0, rf V 2), (1, .int (nI dp))]) hx dX5_readO_4 rfl (by decide) rfl ?_
  refine WS.iload_n hx dX5_readO_5 rfl 0 rfl ?_
  refine WS.callSi (st := []) [.int (cm (σ0.1 3) L s)] hx (c_X5_isDigit V (d + 8) σ (cm (σ0.1 3) L s)) okX5_isDigit lm5_95 rfl rfl (Nat.le_of_ble_eq_true rfl) dX5_readO_6 (fun v4 σ5 h6 => ?_)
  rcases h6 with ⟨rfl, rfl, hb6⟩ | ⟨rfl, rfl, hb6⟩
  · skip
    show WS layC V 3 X σ 9 [(2, .int (cm (σ0.1 3) L s)), (0, rf V 2), (1, .int (nI dp))] [.int 1]
    rw [if_pos hb6] at he
    refine WS.if_eq (tgt := 18) hx dX5_readO_9 (by decide) (fun h => absurd h (by decide)) (fun _ => ?_)
    refine WS.aload_n hx dX5_readO_12 rfl 1 rfl ?_
    refine WS.callVv (st := []) [] hx (c_X5_readNumber V (d + 7) σ σ0 d9 L hB s hS) okX5_readNumber lm5_98 rfl rfl rfl rfl (Nat.le_of_ble_eq_true rfl) dX5_readO_13 (fun σ8 h9 => ?_)
    have ps13 := h9
    show WS layC V 3 X σ8 16 [(2, .int (cm (σ0.1 3) L s)), (0, rf V 2), (1, .int (nI dp))] []
    refine WS.iconst (v := 1) hx dX5_readO_16 (by decide) ?_
    exact WS.zret hx he dX5_readO_17 (Or.inr rfl) ⟨_, rfl, rfl, ps13⟩
  · skip
    show WS layC V 3 X σ 9 [(2, .int (cm (σ0.1 3) L s)), (0, rf V 2), (1, .int (nI dp))] [.int 0]
    rw [if_neg hb6] at he
    refine WS.if_eq (tgt := 18) hx dX5_readO_9 (by decide) (fun _ => ?_) (fun h => absurd (by decide) h)
    refine WS.iload_n hx dX5_readO_18 rfl 0 rfl ?_
    refine WS.callSi (st := []) [.int (cm (σ0.1 3) L s)] hx (c_X5_nameOf V (d + 8) σ (cm (σ0.1 3) L s)) okX5_nameOf lm5_101 rfl rfl (Nat.le_of_ble_eq_true rfl) dX5_readO_19 (fun v10 σ11 h12 => ?_)
    obtain ⟨rfl, rfl⟩ := h12
    show WS layC V 3 X σ 22 [(2, .int (cm (σ0.1 3) L s)), (0, rf V 2), (1, .int (nI dp))] [.int (nmF (cm (σ0.1 3) L s))]
    refine WS.iconst (v := (-1)) hx dX5_readO_22 (by decide) ?_
    refine WS.icmp_eq (tgt := 36) hx dX5_readO_23 (by decide) (fun c23 => ?_) (fun c23 => ?_)
    · skip
      show WS layC V 3 X σ 36 [(2, .int (cm (σ0.1 3) L s)), (0, rf V 2), (1, .int (nI dp))] []
      rw [if_pos c23] at he
      refine WS.iload_n hx dX5_readO_36 rfl 2 rfl ?_
      refine WS.bipush (v := 6) hx dX5_readO_37 (by decide) ?_
      refine WS.icmp_ge (tgt := 60) hx dX5_readO_39 (by decide) (fun c39 => by exfalso; (try simp only [i_le, i_lt, i_eq, tI_m1, tI_0, tI_1, tI_6, tI_40, tI_45] at hb6); (try simp only [i_le, i_lt, i_eq, tI_m1, tI_0, tI_1, tI_6, tI_40, tI_45] at c23); (try simp only [i_le, i_lt, i_eq, tI_m1, tI_0, tI_1, tI_6, tI_40, tI_45] at c39); (try simp only [i_le, i_lt, i_eq, tI_m1, tI_0, tI_1, tI_6, tI_40, tI_45]); omega) (fun c39 => ?_)
      refine WS.iload_n hx dX5_readO_42 rfl 0 rfl ?_
      refine WS.bipush (v := 40) hx dX5_readO_43 (by decide) ?_
      refine WS.icmp_eq (tgt := 62) hx dX5_readO_45 (by decide) (fun c45 => ?_) (fun c45 => ?_)
      · skip
        show WS layC V 3 X σ 62 [(2, .int (cm (σ0.1 3) L s)), (0, rf V 2), (1, .int (nI dp))] []
        have hlt : s.1 < L := cm_lt (by intro e; rw [e] at c45; exact absurd c45 (by decide))
        rw [if_pos c45] at he
        refine WS.aload_n hx dX5_readO_62 rfl 1 rfl ?_
        refine WS.dup hx dX5_readO_63 rfl ?_
        refine WS.getI hx okX5 lf5_40 rfl rfl dX5_readO_64 ?_
        refine WS.as rfl rfl (congrArg (fun z => Value.int z :: _) (show σ.1 2 8 = nI s.1 from hS.2.2.1)) ?_
        skip
        refine WS.iconst (v := 1) hx dX5_readO_67 (by decide) ?_
        refine WS.iadd hx dX5_readO_68 ?_
        refine WS.as rfl rfl (congrArg (fun z => Value.int z :: _) (show (nI s.1) + 1 = nI (s.1 + 1) from nI_1 _)) ?_
        skip
        refine WS.putI hx okX5 lf5_40 rfl rfl rfl rfl dX5_readO_69 ?_
        refine WS.iload_n hx dX5_readO_72 rfl 0 rfl ?_
        refine WS.bipush (v := 40) hx dX5_readO_73 (by decide) ?_
        refine WS.icmp_ne (tgt := 88) hx dX5_readO_75 (by decide) (fun c75 => ?_) (fun c75 => ?_)
        · skip
          show WS layC V 3 X (stI σ 2 8 (nI (s.1 + 1))) 88 [(2, .int (cm (σ0.1 3) L s)), (0, rf V 2), (1, .int (nI dp))] []
          have h40 := c75
          refine WS.aload_n hx dX5_readO_88 rfl 1 rfl ?_
          refine WS.iload_n hx dX5_readO_89 rfl 0 rfl ?_
          refine WS.iload_n hx dX5_readO_90 rfl 2 rfl ?_
          refine WS.iconst (v := 1) hx dX5_readO_91 (by decide) ?_
          refine WS.iadd hx dX5_readO_92 ?_
          refine WS.as rfl rfl (congrArg (fun z => Value.int z :: _) (show (nI dp) + 1 = nI (dp + 1) from nI_1 dp)) ?_
          skip
          refine WS.callVi (st := []) [.int (cm (σ0.1 3) L s), .int (nI (dp + 1))] hx (hH (cm (σ0.1 3) L s) (adv s) _ (hS.ad hB hlt)) okX5_readSigned lm5_111 rfl rfl rfl rfl (Nat.le_of_ble_eq_true rfl) dX5_readO_93 (fun v13 σ14 h15 => ?_)
          obtain ⟨rfl, ps93⟩ := h15
          show WS layC V 3 X σ14 96 [(2, .int (cm (σ0.1 3) L s)), (0, rf V 2), (1, .int (nI dp))] [.int (bI (H (cm (σ0.1 3) L s) (adv s)).1)]
          exact WS.zret hx he dX5_readO_96 (by first | (cases (G (adv s)).1 <;> decide) | (cases (H (cm (σ0.1 3) L s) (adv s)).1 <;> decide)) (absurd c45 c75)
        · skip
          show WS layC V 3 X (stI σ 2 8 (nI (s.1 + 1))) 78 [(2, .int (cm (σ0.1 3) L s)), (0, rf V 2), (1, .int (nI dp))] []
          have h40 := c75
          refine WS.aload_n hx dX5_readO_78 rfl 1 rfl ?_
          refine WS.iload_n hx dX5_readO_79 rfl 2 rfl ?_
          refine WS.iconst (v := 1) hx dX5_readO_80 (by decide) ?_
          refine WS.iadd hx dX5_readO_81 ?_
          refine WS.as rfl rfl (congrArg (fun z => Value.int z :: _) (show (nI dp) + 1 = nI (dp + 1) from nI_1 dp)) ?_
          skip
          refine WS.callVi (st := []) [.int (nI (dp + 1))] hx (hG (adv s) _ (hS.ad hB hlt)) okX5_readToBracket lm5_108 rfl rfl rfl rfl (Nat.le_of_ble_eq_true rfl) dX5_readO_82 (fun v16 σ17 h18 => ?_)
          obtain ⟨rfl, ps82⟩ := h18
          show WS layC V 3 X σ17 85 [(2, .int (cm (σ0.1 3) L s)), (0, rf V 2), (1, .int (nI dp))] [.int (bI (G (adv s)).1)]
          refine WS.goto (tgt := 96) hx dX5_readO_85 (by decide) ?_
          exact WS.zret hx he dX5_readO_96 (by first | (cases (G (adv s)).1 <;> decide) | (cases (H (cm (σ0.1 3) L s) (adv s)).1 <;> decide)) ⟨_, rfl, rfl, ps82⟩
      · skip
        show WS layC V 3 X σ 48 [(2, .int (cm (σ0.1 3) L s)), (0, rf V 2), (1, .int (nI dp))] []
        refine WS.iload_n hx dX5_readO_48 rfl 0 rfl ?_
        refine WS.bipush (v := 33) hx dX5_readO_49 (by decide) ?_
        refine WS.icmp_eq (tgt := 62) hx dX5_readO_51 (by decide) (fun c51 => ?_) (fun c51 => ?_)
        · skip
          show WS layC V 3 X σ 62 [(2, .int (cm (σ0.1 3) L s)), (0, rf V 2), (1, .int (nI dp))] []
          have hlt : s.1 < L := cm_lt (by intro e; rw [e] at c51; exact absurd c51 (by decide))
          rw [if_neg c45, if_pos (Or.inl c51)] at he
          refine WS.aload_n hx dX5_readO_62 rfl 1 rfl ?_
          refine WS.dup hx dX5_readO_63 rfl ?_
          refine WS.getI hx okX5 lf5_40 rfl rfl dX5_readO_64 ?_
          refine WS.as rfl rfl (congrArg (fun z => Value.int z :: _) (show σ.1 2 8 = nI s.1 from hS.2.2.1)) ?_
          skip
          refine WS.iconst (v := 1) hx dX5_readO_67 (by decide) ?_
          refine WS.iadd hx dX5_readO_68 ?_
          refine WS.as rfl rfl (congrArg (fun z => Value.int z :: _) (show (nI s.1) + 1 = nI (s.1 + 1) from nI_1 _)) ?_
          skip
          refine WS.putI hx okX5 lf5_40 rfl rfl rfl rfl dX5_readO_69 ?_
          refine WS.iload_n hx dX5_readO_72 rfl 0 rfl ?_
          refine WS.bipush (v := 40) hx dX5_readO_73 (by decide) ?_
          refine WS.icmp_ne (tgt := 88) hx dX5_readO_75 (by decide) (fun c75 => ?_) (fun c75 => ?_)
          · skip
            show WS layC V 3 X (stI σ 2 8 (nI (s.1 + 1))) 88 [(2, .int (cm (σ0.1 3) L s)), (0, rf V 2), (1, .int (nI dp))] []
            have h40 := c75
            refine WS.aload_n hx dX5_readO_88 rfl 1 rfl ?_
            refine WS.iload_n hx dX5_readO_89 rfl 0 rfl ?_
            refine WS.iload_n hx dX5_readO_90 rfl 2 rfl ?_
            refine WS.iconst (v := 1) hx dX5_readO_91 (by decide) ?_
            refine WS.iadd hx dX5_readO_92 ?_
            refine WS.as rfl rfl (congrArg (fun z => Value.int z :: _) (show (nI dp) + 1 = nI (dp + 1) from nI_1 dp)) ?_
            skip
            refine WS.callVi (st := []) [.int (cm (σ0.1 3) L s), .int (nI (dp + 1))] hx (hH (cm (σ0.1 3) L s) (adv s) _ (hS.ad hB hlt)) okX5_readSigned lm5_111 rfl rfl rfl rfl (Nat.le_of_ble_eq_true rfl) dX5_readO_93 (fun v19 σ20 h21 => ?_)
            obtain ⟨rfl, ps93⟩ := h21
            show WS layC V 3 X σ20 96 [(2, .int (cm (σ0.1 3) L s)), (0, rf V 2), (1, .int (nI dp))] [.int (bI (H (cm (σ0.1 3) L s) (adv s)).1)]
            exact WS.zret hx he dX5_readO_96 (by first | (cases (G (adv s)).1 <;> decide) | (cases (H (cm (σ0.1 3) L s) (adv s)).1 <;> decide)) ⟨_, rfl, rfl, ps93⟩
          · skip
            show WS layC V 3 X (stI σ 2 8 (nI (s.1 + 1))) 78 [(2, .int (cm (σ0.1 3) L s)), (0, rf V 2), (1, .int (nI dp))] []
            have h40 := c75
            refine WS.aload_n hx dX5_readO_78 rfl 1 rfl ?_
            refine WS.iload_n hx dX5_readO_79 rfl 2 rfl ?_
            refine WS.iconst (v := 1) hx dX5_readO_80 (by decide) ?_
            refine WS.iadd hx dX5_readO_81 ?_
            refine WS.as rfl rfl (congrArg (fun z => Value.int z :: _) (show (nI dp) + 1 = nI (dp + 1) from nI_1 dp)) ?_
            skip
            refine WS.callVi (st := []) [.int (nI (dp + 1))] hx (hG (adv s) _ (hS.ad hB hlt)) okX5_readToBracket lm5_108 rfl rfl rfl rfl (Nat.le_of_ble_eq_true rfl) dX5_readO_82 (fun v22 σ23 h24 => ?_)
            obtain ⟨rfl, ps82⟩ := h24
            show WS layC V 3 X σ23 85 [(2, .int (cm (σ0.1 3) L s)), (0, rf V 2), (1, .int (nI dp))] [.int (bI (G (adv s)).1)]
            refine WS.goto (tgt := 96) hx dX5_readO_85 (by decide) ?_
            exact WS.zret hx he dX5_readO_96 (by first | (cases (G (adv s)).1 <;> decide) | (cases (H (cm (σ0.1 3) L s) (adv s)).1 <;> decide)) (absurd c75 c45)
        · skip
          show WS layC V 3 X σ 54 [(2, .int (cm (σ0.1 3) L s)), (0, rf V 2), (1, .int (nI dp))] []
          refine WS.iload_n hx dX5_readO_54 rfl 0 rfl ?_
          refine WS.bipush (v := 45) hx dX5_readO_55 (by decide) ?_
          refine WS.icmp_eq (tgt := 62) hx dX5_readO_57 (by decide) (fun c57 => ?_) (fun c57 => ?_)
          · skip
            show WS layC V 3 X σ 62 [(2, .int (cm (σ0.1 3) L s)), (0, rf V 2), (1, .int (nI dp))] []
            have hlt : s.1 < L := cm_lt (by intro e; rw [e] at c57; exact absurd c57 (by decide))
            rw [if_neg c45, if_pos (Or.inr c57)] at he
            refine WS.aload_n hx dX5_readO_62 rfl 1 rfl ?_
            refine WS.dup hx dX5_readO_63 rfl ?_
            refine WS.getI hx okX5 lf5_40 rfl rfl dX5_readO_64 ?_
            refine WS.as rfl rfl (congrArg (fun z => Value.int z :: _) (show σ.1 2 8 = nI s.1 from hS.2.2.1)) ?_
            skip
            refine WS.iconst (v := 1) hx dX5_readO_67 (by decide) ?_
            refine WS.iadd hx dX5_readO_68 ?_
            refine WS.as rfl rfl (congrArg (fun z => Value.int z :: _) (show (nI s.1) + 1 = nI (s.1 + 1) from nI_1 _)) ?_
            skip
            refine WS.putI hx okX5 lf5_40 rfl rfl rfl rfl dX5_readO_69 ?_
            refine WS.iload_n hx dX5_readO_72 rfl 0 rfl ?_
            refine WS.bipush (v := 40) hx dX5_readO_73 (by decide) ?_
            refine WS.icmp_ne (tgt := 88) hx dX5_readO_75 (by decide) (fun c75 => ?_) (fun c75 => ?_)
            · skip
              show WS layC V 3 X (stI σ 2 8 (nI (s.1 + 1))) 88 [(2, .int (cm (σ0.1 3) L s)), (0, rf V 2), (1, .int (nI dp))] []
              have h40 := c75
              refine WS.aload_n hx dX5_readO_88 rfl 1 rfl ?_
              refine WS.iload_n hx dX5_readO_89 rfl 0 rfl ?_
              refine WS.iload_n hx dX5_readO_90 rfl 2 rfl ?_
              refine WS.iconst (v := 1) hx dX5_readO_91 (by decide) ?_
              refine WS.iadd hx dX5_readO_92 ?_
              refine WS.as rfl rfl (congrArg (fun z => Value.int z :: _) (show (nI dp) + 1 = nI (dp + 1) from nI_1 dp)) ?_
              skip
              refine WS.callVi (st := []) [.int (cm (σ0.1 3) L s), .int (nI (dp + 1))] hx (hH (cm (σ0.1 3) L s) (adv s) _ (hS.ad hB hlt)) okX5_readSigned lm5_111 rfl rfl rfl rfl (Nat.le_of_ble_eq_true rfl) dX5_readO_93 (fun v25 σ26 h27 => ?_)
              obtain ⟨rfl, ps93⟩ := h27
              show WS layC V 3 X σ26 96 [(2, .int (cm (σ0.1 3) L s)), (0, rf V 2), (1, .int (nI dp))] [.int (bI (H (cm (σ0.1 3) L s) (adv s)).1)]
              exact WS.zret hx he dX5_readO_96 (by first | (cases (G (adv s)).1 <;> decide) | (cases (H (cm (σ0.1 3) L s) (adv s)).1 <;> decide)) ⟨_, rfl, rfl, ps93⟩
            · skip
              show WS layC V 3 X (stI σ 2 8 (nI (s.1 + 1))) 78 [(2, .int (cm (σ0.1 3) L s)), (0, rf V 2), (1, .int (nI dp))] []
              have h40 := c75
              refine WS.aload_n hx dX5_readO_78 rfl 1 rfl ?_
              refine WS.iload_n hx dX5_readO_79 rfl 2 rfl ?_
              refine WS.iconst (v := 1) hx dX5_readO_80 (by decide) ?_
              refine WS.iadd hx dX5_readO_81 ?_
              refine WS.as rfl rfl (congrArg (fun z => Value.int z :: _) (show (nI dp) + 1 = nI (dp + 1) from nI_1 dp)) ?_
              skip
              refine WS.callVi (st := []) [.int (nI (dp + 1))] hx (hG (adv s) _ (hS.ad hB hlt)) okX5_readToBracket lm5_108 rfl rfl rfl rfl (Nat.le_of_ble_eq_true rfl) dX5_readO_82 (fun v28 σ29 h30 => ?_)
              obtain ⟨rfl, ps82⟩ := h30
              show WS layC V 3 X σ29 85 [(2, .int (cm (σ0.1 3) L s)), (0, rf V 2), (1, .int (nI dp))] [.int (bI (G (adv s)).1)]
              refine WS.goto (tgt := 96) hx dX5_readO_85 (by decide) ?_
              exact WS.zret hx he dX5_readO_96 (by first | (cases (G (adv s)).1 <;> decide) | (cases (H (cm (σ0.1 3) L s) (adv s)).1 <;> decide)) (absurd c75 c45)
          · skip
            show WS layC V 3 X σ 60 [(2, .int (cm (σ0.1 3) L s)), (0, rf V 2), (1, .int (nI dp))] []
            rw [if_neg c45, if_neg (fun q => q.elim c51 c57)] at he
            refine WS.iconst (v := 0) hx dX5_readO_60 (by decide) ?_
            exact WS.zret hx he dX5_readO_61 (Or.inl rfl) ⟨_, rfl, rfl, hS⟩
    · skip
      show WS layC V 3 X σ 26 [(2, .int (cm (σ0.1 3) L s)), (0, rf V 2), (1, .int (nI dp))] []
      rw [if_neg c23] at he
      have hnr := nmF_r c23
      have hlt : s.1 < L := cm_lt (by intro e; rw [e] at c23; exact absurd rfl c23)
      refine WS.aload_n hx dX5_readO_26 rfl 1 rfl ?_
      refine WS.iload_n hx dX5_readO_27 rfl 0 rfl ?_
      refine WS.callSi (st := [rf V 2]) [.int (cm (σ0.1 3) L s)] hx (c_X5_nameOf V (d + 8) σ (cm (σ0.1 3) L s)) okX5_nameOf lm5_101 rfl rfl (Nat.le_of_ble_eq_true rfl) dX5_readO_28 (fun v31 σ32 h33 => ?_)
      obtain ⟨rfl, rfl⟩ := h33
      show WS layC V 3 X σ 31 [(2, .int (cm (σ0.1 3) L s)), (0, rf V 2), (1, .int (nI dp))] [.int (nmF (cm (σ0.1 3) L s)), rf V 2]
      refine WS.callVv (st := []) [.int (nmF (cm (σ0.1 3) L s))] hx (c_X5_readName V (d + 7) σ σ0 d9 L hB s hS _ hnr hlt) okX5_readName lm5_105 rfl rfl rfl rfl (Nat.le_of_ble_eq_true rfl) dX5_readO_31 (fun σ35 h36 => ?_)
      have ps31 := h36
      show WS layC V 3 X σ35 34 [(2, .int (cm (σ0.1 3) L s)), (0, rf V 2), (1, .int (nI dp))] []
      refine WS.iconst (v := 1) hx dX5_readO_34 (by decide) ?_
      exact WS.zret hx he dX5_readO_35 (Or.inr rfl) ⟨_, rfl, rfl, ps31⟩
set_option maxHeartbeats 1000000 in
theorem c_X5_readO0 (V : Vt) (d : Nat) (σ : Sg) (σ0 : Sg) (d9 L : Nat) (hB : PB V σ0 d9 L) (dp : Nat) (hdp : dp = 6) (s : Ps) (hS : PS σ0 σ d9 L s) : CT layC V mX5_readO (d + 2) [rf V 2, .int (nI dp)] σ (Ri fun v σ' => bI (oF (σ0.1 3) L 0 s).1 = v ∧ PS σ0 σ' d9 L (oF (σ0.1 3) L 0 s).2) := by
  refine CT.of (own := RX5) rfl (by decide) (Nat.le_of_ble_eq_true rfl) (fun X (hx : Ok V RX5 cX5_readO 3 (d + 2) X) (he : En layC V (some .boolean) (Ri fun v σ' => bI (oF (σ0.1 3) L 0 s).1 = v ∧ PS σ0 σ' d9 L (oF (σ0.1 3) L 0 s).2) X) => ?_)
  change WS layC V 3 X σ 0 [(0, rf V 2), (1, .int (nI dp))] []
  have hdI : (nI dp).toInt = (dp : Int) := nI_c (by omega)
  unfold oF at he
  refine WS.aload_n hx dX5_readO_0 rfl 0 rfl ?_
  refine WS.callVi (st := []) [] hx (c_X5_comes V (d + 1) σ σ0 d9 L hB s hS) okX5_comes lm5_53 rfl rfl rfl rfl (Nat.le_of_ble_eq_true rfl) dX5_readO_1 (fun v1 σ2 h3 => ?_)
  obtain ⟨rfl, rfl⟩ := h3
  show WS layC V 3 X σ 4 [(0, rf V 2), (1, .int (nI dp))] [.int (cm (σ0.1 3) L s)]
  refine WS.istore_n (lo' := [(2, .int (cm (σ0.1 3) L s)), (0, rf V 2), (1, .int (nI dp))]) hx dX5_readO_4 rfl (by decide) rfl ?_
  refine WS.iload_n hx dX5_readO_5 rfl 0 rfl ?_
  refine WS.callSi (st := []) [.int (cm (σ0.1 3) L s)] hx (c_X5_isDigit V (d + 1) σ (cm (σ0.1 3) L s)) okX5_isDigit lm5_95 rfl rfl (Nat.le_of_ble_eq_true rfl) dX5_readO_6 (fun v4 σ5 h6 => ?_)
  rcases h6 with ⟨rfl, rfl, hb6⟩ | ⟨rfl, rfl, hb6⟩
  · skip
    show WS layC V 3 X σ 9 [(2, .int (cm (σ0.1 3) L s)), (0, rf V 2), (1, .int (nI dp))] [.int 1]
    rw [if_pos hb6] at he
    refine WS.if_eq (tgt := 18) hx dX5_readO_9 (by decide) (fun h => absurd h (by decide)) (fun _ => ?_)
    refine WS.aload_n hx dX5_readO_12 rfl 1 rfl ?_
    refine WS.callVv (st := []) [] hx (c_X5_readNumber V d σ σ0 d9 L hB s hS) okX5_readNumber lm5_98 rfl rfl rfl rfl (Nat.le_of_ble_eq_true rfl) dX5_readO_13 (fun σ8 h9 => ?_)
    have ps13 := h9
    show WS layC V 3 X σ8 16 [(2, .int (cm (σ0.1 3) L s)), (0, rf V 2), (1, .int (nI dp))] []
    refine WS.iconst (v := 1) hx dX5_readO_16 (by decide) ?_
    exact WS.zret hx he dX5_readO_17 (Or.inr rfl) ⟨_, rfl, rfl, ps13⟩
  · skip
    show WS layC V 3 X σ 9 [(2, .int (cm (σ0.1 3) L s)), (0, rf V 2), (1, .int (nI dp))] [.int 0]
    rw [if_neg hb6] at he
    refine WS.if_eq (tgt := 18) hx dX5_readO_9 (by decide) (fun _ => ?_) (fun h => absurd (by decide) h)
    refine WS.iload_n hx dX5_readO_18 rfl 0 rfl ?_
    refine WS.callSi (st := []) [.int (cm (σ0.1 3) L s)] hx (c_X5_nameOf V (d + 1) σ (cm (σ0.1 3) L s)) okX5_nameOf lm5_101 rfl rfl (Nat.le_of_ble_eq_true rfl) dX5_readO_19 (fun v10 σ11 h12 => ?_)
    obtain ⟨rfl, rfl⟩ := h12
    show WS layC V 3 X σ 22 [(2, .int (cm (σ0.1 3) L s)), (0, rf V 2), (1, .int (nI dp))] [.int (nmF (cm (σ0.1 3) L s))]
    refine WS.iconst (v := (-1)) hx dX5_readO_22 (by decide) ?_
    refine WS.icmp_eq (tgt := 36) hx dX5_readO_23 (by decide) (fun c23 => ?_) (fun c23 => ?_)
    · skip
      show WS layC V 3 X σ 36 [(2, .int (cm (σ0.1 3) L s)), (0, rf V 2), (1, .int (nI dp))] []
      rw [if_pos c23] at he
      refine WS.iload_n hx dX5_readO_36 rfl 2 rfl ?_
      refine WS.bipush (v := 6) hx dX5_readO_37 (by decide) ?_
      refine WS.icmp_ge (tgt := 60) hx dX5_readO_39 (by decide) (fun c39 => ?_) (fun c39 => by exfalso; (try simp only [i_le, i_lt, i_eq, tI_m1, tI_0, tI_1, tI_6, tI_40, tI_45] at hb6); (try simp only [i_le, i_lt, i_eq, tI_m1, tI_0, tI_1, tI_6, tI_40, tI_45] at c23); (try simp only [i_le, i_lt, i_eq, tI_m1, tI_0, tI_1, tI_6, tI_40, tI_45] at c39); (try simp only [i_le, i_lt, i_eq, tI_m1, tI_0, tI_1, tI_6, tI_40, tI_45]); omega)
      refine WS.iconst (v := 0) hx dX5_readO_60 (by decide) ?_
      exact WS.zret hx he dX5_readO_61 (Or.inl rfl) ⟨_, rfl, rfl, hS⟩
    · skip
      show WS layC V 3 X σ 26 [(2, .int (cm (σ0.1 3) L s)), (0, rf V 2), (1, .int (nI dp))] []
      rw [if_neg c23] at he
      have hnr := nmF_r c23
      have hlt : s.1 < L := cm_lt (by intro e; rw [e] at c23; exact absurd rfl c23)
      refine WS.aload_n hx dX5_readO_26 rfl 1 rfl ?_
      refine WS.iload_n hx dX5_readO_27 rfl 0 rfl ?_
      refine WS.callSi (st := [rf V 2]) [.int (cm (σ0.1 3) L s)] hx (c_X5_nameOf V (d + 1) σ (cm (σ0.1 3) L s)) okX5_nameOf lm5_101 rfl rfl (Nat.le_of_ble_eq_true rfl) dX5_readO_28 (fun v13 σ14 h15 => ?_)
      obtain ⟨rfl, rfl⟩ := h15
      show WS layC V 3 X σ 31 [(2, .int (cm (σ0.1 3) L s)), (0, rf V 2), (1, .int (nI dp))] [.int (nmF (cm (σ0.1 3) L s)), rf V 2]
      refine WS.callVv (st := []) [.int (nmF (cm (σ0.1 3) L s))] hx (c_X5_readName V d σ σ0 d9 L hB s hS _ hnr hlt) okX5_readName lm5_105 rfl rfl rfl rfl (Nat.le_of_ble_eq_true rfl) dX5_readO_31 (fun σ17 h18 => ?_)
      have ps31 := h18
      show WS layC V 3 X σ17 34 [(2, .int (cm (σ0.1 3) L s)), (0, rf V 2), (1, .int (nI dp))] []
      refine WS.iconst (v := 1) hx dX5_readO_34 (by decide) ?_
      exact WS.zret hx he dX5_readO_35 (Or.inr rfl) ⟨_, rfl, rfl, ps31⟩
theorem oF_s {t : Nat → Int32} {L k : Nat} {s : Ps} : oF t L (k + 1) s = (if isDg (cm t L s) = true then (true, nuF t L s) else if nmF (cm t L s) = -1 then (if cm t L s = 40 then brF t L (oF t L k) (adv s) else if cm t L s = 33 ∨ cm t L s = 45 then sgF (oF t L k) (cm t L s) (adv s) else (false, s)) else (true, naF (nmF (cm t L s)) s)) := by rw [oF]
theorem c_X5_readOK (V : Vt) (σ0 : Sg) (d9 L : Nat) (hB : PB V σ0 d9 L) : ∀ (k d dp : Nat), dp + k = 6 → ∀ (s : Ps) (τ : Sg), PS σ0 τ d9 L s → CT layC V mX5_readO (d + 7 * k + 2) [rf V 2, .int (nI dp)] τ (Ri fun v σ' => bI (oF (σ0.1 3) L k s).1 = v ∧ PS σ0 σ' d9 L (oF (σ0.1 3) L k s).2)
  | 0, d, dp, hdp, s, τ, hS => c_X5_readO0 V (d + 7 * 0) τ σ0 d9 L hB dp hdp s hS
  | k + 1, d, dp, hdp, s, τ, hS => by
    have hO : ∀ (e : Nat) (s : Ps) (τ : Sg), PS σ0 τ d9 L s → CT layC V mX5_readO (e + 7 * k + 2) [rf V 2, .int (nI (dp + 1))] τ (Ri fun v σ' => bI (oF (σ0.1 3) L k s).1 = v ∧ PS σ0 σ' d9 L (oF (σ0.1 3) L k s).2) := fun e s τ hS => c_X5_readOK V σ0 d9 L hB k e (dp + 1) (by omega) s τ hS
    have hP := fun (s : Ps) (τ : Sg) (hS : PS σ0 τ d9 L s) => c_X5_readP V (d + 7 * k) τ σ0 d9 L hB (dp + 1) (oF (σ0.1 3) L k) (hO d) s hS
    have hSS := fun (s : Ps) (τ : Sg) (hS : PS σ0 τ d9 L s) => c_X5_readS V (d + 7 * k) τ σ0 d9 L hB (dp + 1) (pPF (σ0.1 3) L (oF (σ0.1 3) L k)) hP s hS
    have hBB := fun (s : Ps) (τ : Sg) (hS : PS σ0 τ d9 L s) => c_X5_readB V (d + 7 * k) τ σ0 d9 L hB (dp + 1) (pSF (σ0.1 3) L (oF (σ0.1 3) L k)) hSS s hS
    have hA := fun (s : Ps) (τ : Sg) (hS : PS σ0 τ d9 L s) => c_X5_readA V (d + 7 * k) τ σ0 d9 L hB (dp + 1) (pBF (σ0.1 3) L (oF (σ0.1 3) L k)) hBB s hS
    have hE := fun (s : Ps) (τ : Sg) (hS : PS σ0 τ d9 L s) => c_X5_readE V (d + 7 * k) τ σ0 d9 L hB (dp + 1) (pAF (σ0.1 3) L (oF (σ0.1 3) L k)) hA s hS
    have hG := fun (s : Ps) (τ : Sg) (hS : PS σ0 τ d9 L s) => c_X5_readToBracket V (d + 7 * k) τ σ0 d9 L hB (dp + 1) (pEF (σ0.1 3) L (oF (σ0.1 3) L k)) hE s hS
    have hO5 : ∀ (s : Ps) (τ : Sg), PS σ0 τ d9 L s → CT layC V mX5_readO (d + 7 * k + 7) [rf V 2, .int (nI (dp + 1))] τ (Ri fun v σ' => bI (oF (σ0.1 3) L k s).1 = v ∧ PS σ0 σ' d9 L (oF (σ0.1 3) L k s).2) := fun s τ hS => by
      have h := hO (d + 5) s τ hS
      rw [show d + 5 + 7 * k + 2 = d + 7 * k + 7 by omega] at h
      exact h
    have hH := fun (c : Int32) (s : Ps) (τ : Sg) (hS : PS σ0 τ d9 L s) => c_X5_readSigned V (d + 7 * k) τ σ0 d9 L hB (dp + 1) (oF (σ0.1 3) L k) hO5 c s hS
    have h := c_X5_readOS V (d + 7 * k) τ σ0 d9 L hB dp (by omega) (brF (σ0.1 3) L (oF (σ0.1 3) L k)) (sgF (oF (σ0.1 3) L k)) hG hH s hS
    rw [show d + 7 * k + 9 = d + 7 * (k + 1) + 2 by omega] at h
    rw [oF_s]
    exact h
/-- reading from the outermost on: a sum of alternatives -/
def E0 (t : Nat → Int32) (L : Nat) (s : Ps) : Bool × Ps := pEF t L (oF t L 6) s
theorem c_X5_readEK (V : Vt) (d : Nat) (σ0 : Sg) (d9 L : Nat) (hB : PB V σ0 d9 L) (s : Ps) (τ : Sg) (hS : PS σ0 τ d9 L s) : CT layC V mX5_readE (d + 49) [rf V 2, .int (nI 0)] τ (Ri fun v σ' => bI (E0 (σ0.1 3) L s).1 = v ∧ PS σ0 σ' d9 L (E0 (σ0.1 3) L s).2) := by
  have hO : ∀ (s : Ps) (τ : Sg), PS σ0 τ d9 L s → CT layC V mX5_readO (d + 42 + 2) [rf V 2, .int (nI 0)] τ (Ri fun v σ' => bI (oF (σ0.1 3) L 6 s).1 = v ∧ PS σ0 σ' d9 L (oF (σ0.1 3) L 6 s).2) := fun s τ hS => c_X5_readOK V σ0 d9 L hB 6 d 0 rfl s τ hS
  have hP := fun (s : Ps) (τ : Sg) (hS : PS σ0 τ d9 L s) => c_X5_readP V (d + 42) τ σ0 d9 L hB 0 (oF (σ0.1 3) L 6) hO s hS
  have hSS := fun (s : Ps) (τ : Sg) (hS : PS σ0 τ d9 L s) => c_X5_readS V (d + 42) τ σ0 d9 L hB 0 (pPF (σ0.1 3) L (oF (σ0.1 3) L 6)) hP s hS
  have hBB := fun (s : Ps) (τ : Sg) (hS : PS σ0 τ d9 L s) => c_X5_readB V (d + 42) τ σ0 d9 L hB 0 (pSF (σ0.1 3) L (oF (σ0.1 3) L 6)) hSS s hS
  have hA := fun (s : Ps) (τ : Sg) (hS : PS σ0 τ d9 L s) => c_X5_readA V (d + 42) τ σ0 d9 L hB 0 (pBF (σ0.1 3) L (oF (σ0.1 3) L 6)) hBB s hS
  exact c_X5_readE V (d + 42) τ σ0 d9 L hB 0 (pAF (σ0.1 3) L (oF (σ0.1 3) L 6)) hA s hS
