/-- a line; lines; what becomes of a text -/
def liF (t : Nat → Int32) (L : Nat) (s : Ps) : Bool × Ps := if (E0 t L s).1 = true ∧ cm t L (E0 t L s).2 = 63 then ((E0 t L (wr (-63) (adv (E0 t L s).2))).1, wr (-59) (E0 t L (wr (-63) (adv (E0 t L s).2))).2) else ((E0 t L s).1, wr (-59) (E0 t L s).2)
def lnL (t : Nat → Int32) (L : Nat) : Nat → Bool × Ps → Bool × Ps
  | 0, r => r
  | u + 1, r => if r.1 = true ∧ cm t L r.2 = 59 then lnL t L u (liF t L (adv r.2)) else r
def txF (t : Nat → Int32) (L : Nat) (g : Nat → Int32) : Bool × Ps := lnL t L 120 (liF t L (0, 0, g, 0))
set_option maxHeartbeats 1000000 in
theorem c_X5_readLine (V : Vt) (d : Nat) (σ : Sg) (σ0 : Sg) (d9 L : Nat) (hB : PB V σ0 d9 L) (s : Ps) (hS : PS σ0 σ d9 L s) : CT layC V mX5_readLine (d + 50) [rf V 2] σ (Ri fun v σ' => bI (liF (σ0.1 3) L s).1 = v ∧ PS σ0 σ' d9 L (liF (σ0.1 3) L s).2) := by
  refine CT.of (own := RX5) rfl (by decide) (Nat.le_of_ble_eq_true rfl) (fun X (hx : Ok V RX5 cX5_readLine 2 (d + 50) X) (he : En layC V (some .boolean) (Ri fun v σ' => bI (liF (σ0.1 3) L s).1 = v ∧ PS σ0 σ' d9 L (liF (σ0.1 3) L s).2) X) => ?_)
  change WS layC V 2 X σ 0 [(0, rf V 2)] []
  refine WS.aload_n hx dX5_readLine_0 rfl 0 rfl ?_
  refine WS.iconst (v := 0) hx dX5_readLine_1 (by decide) ?_
  refine WS.callVi (st := []) [.int 0] hx (c_X5_readEK V d σ0 d9 L hB s _ hS) okX5_readE lm5_72 rfl rfl rfl rfl (Nat.le_of_ble_eq_true rfl) dX5_readLine_2 (fun v1 σ2 h3 => ?_)
  obtain ⟨rfl, ps2⟩ := h3
  show WS layC V 2 X σ2 5 [(0, rf V 2)] [.int (bI (E0 (σ0.1 3) L s).1)]
  refine WS.istore_n (lo' := [(1, .int (bI (E0 (σ0.1 3) L s).1)), (0, rf V 2)]) hx dX5_readLine_5 rfl (by decide) rfl ?_
  refine WS.iload_n hx dX5_readLine_6 rfl 0 rfl ?_
  refine WS.if_eq (tgt := 41) hx dX5_readLine_7 (by decide) (fun c7 => ?_) (fun c7 => ?_)
  · skip
    show WS layC V 2 X σ2 41 [(1, .int (bI (E0 (σ0.1 3) L s).1)), (0, rf V 2)] []
    rw [show liF (σ0.1 3) L s = _ from if_neg (fun q => by have h8 := q.1; rw [h8] at c7; exact absurd c7 (by decide))] at he
    have ps40 := ps2
    refine WS.aload_n hx dX5_readLine_41 rfl 1 rfl ?_
    refine WS.bipush (v := (-59)) hx dX5_readLine_42 (by decide) ?_
    refine WS.callVv (st := []) [.int (-59)] hx (c_X5_write V (d + 49) σ2 σ0 d9 L hB _ ps40 (-59)) okX5_write lm5_76 rfl rfl rfl rfl (Nat.le_of_ble_eq_true rfl) dX5_readLine_44 (fun σ5 h6 => ?_)
    have ps44 := h6
    show WS layC V 2 X σ5 47 [(1, .int (bI (E0 (σ0.1 3) L s).1)), (0, rf V 2)] []
    refine WS.iload_n hx dX5_readLine_47 rfl 0 rfl ?_
    exact WS.zret hx he dX5_readLine_48 (by first | (cases (E0 (σ0.1 3) L s).1 <;> decide) | (cases (E0 (σ0.1 3) L (wr (-63) (adv (E0 (σ0.1 3) L s).2))).1 <;> decide)) ⟨_, rfl, rfl, ps44⟩
  · skip
    show WS layC V 2 X σ2 10 [(1, .int (bI (E0 (σ0.1 3) L s).1)), (0, rf V 2)] []
    refine WS.aload_n hx dX5_readLine_10 rfl 1 rfl ?_
    refine WS.callVi (st := []) [] hx (c_X5_comes V (d + 49) σ2 σ0 d9 L hB (E0 (σ0.1 3) L s).2 ps2) okX5_comes lm5_53 rfl rfl rfl rfl (Nat.le_of_ble_eq_true rfl) dX5_readLine_11 (fun v7 σ8 h9 => ?_)
    obtain ⟨rfl, rfl⟩ := h9
    show WS layC V 2 X σ2 14 [(1, .int (bI (E0 (σ0.1 3) L s).1)), (0, rf V 2)] [.int (cm (σ0.1 3) L (E0 (σ0.1 3) L s).2)]
    refine WS.bipush (v := 63) hx dX5_readLine_14 (by decide) ?_
    refine WS.icmp_ne (tgt := 41) hx dX5_readLine_16 (by decide) (fun c16 => ?_) (fun c16 => ?_)
    · skip
      show WS layC V 2 X σ2 41 [(1, .int (bI (E0 (σ0.1 3) L s).1)), (0, rf V 2)] []
      rw [show liF (σ0.1 3) L s = _ from if_neg (fun q => by exact c16 q.2)] at he
      have ps40 := ps2
      refine WS.aload_n hx dX5_readLine_41 rfl 1 rfl ?_
      refine WS.bipush (v := (-59)) hx dX5_readLine_42 (by decide) ?_
      refine WS.callVv (st := []) [.int (-59)] hx (c_X5_write V (d + 49) σ2 σ0 d9 L hB _ ps40 (-59)) okX5_write lm5_76 rfl rfl rfl rfl (Nat.le_of_ble_eq_true rfl) dX5_readLine_44 (fun σ11 h12 => ?_)
      have ps44 := h12
      show WS layC V 2 X σ11 47 [(1, .int (bI (E0 (σ0.1 3) L s).1)), (0, rf V 2)] []
      refine WS.iload_n hx dX5_readLine_47 rfl 0 rfl ?_
      exact WS.zret hx he dX5_readLine_48 (by first | (cases (E0 (σ0.1 3) L s).1 <;> decide) | (cases (E0 (σ0.1 3) L (wr (-63) (adv (E0 (σ0.1 3) L s).2))).1 <;> decide)) ⟨_, rfl, rfl, ps44⟩
    · skip
      show WS layC V 2 X σ2 19 [(1, .int (bI (E0 (σ0.1 3) L s).1)), (0, rf V 2)] []
      have hok : (E0 (σ0.1 3) L s).1 = true := by cases h : (E0 (σ0.1 3) L s).1; rw [h] at c7; exact absurd rfl c7; rfl
      have hlt : (E0 (σ0.1 3) L s).2.1 < L := cm_lt (by intro e; rw [e] at c16; exact absurd c16 (by decide))
      rw [show liF (σ0.1 3) L s = _ from if_pos ⟨hok, c16⟩] at he
      refine WS.aload_n hx dX5_readLine_19 rfl 1 rfl ?_
      refine WS.dup hx dX5_readLine_20 rfl ?_
      refine WS.getI hx okX5 lf5_40 rfl rfl dX5_readLine_21 ?_
      refine WS.as rfl rfl (congrArg (fun z => Value.int z :: _) (show σ2.1 2 8 = nI (E0 (σ0.1 3) L s).2.1 from ps2.2.2.1)) ?_
      skip
      refine WS.iconst (v := 1) hx dX5_readLine_24 (by decide) ?_
      refine WS.iadd hx dX5_readLine_25 ?_
      refine WS.as rfl rfl (congrArg (fun z => Value.int z :: _) (show (nI (E0 (σ0.1 3) L s).2.1) + 1 = nI ((E0 (σ0.1 3) L s).2.1 + 1) from nI_1 _)) ?_
      skip
      refine WS.putI hx okX5 lf5_40 rfl rfl rfl rfl dX5_readLine_26 ?_
      refine WS.aload_n hx dX5_readLine_29 rfl 1 rfl ?_
      refine WS.bipush (v := (-63)) hx dX5_readLine_30 (by decide) ?_
      refine WS.callVv (st := []) [.int (-63)] hx (c_X5_write V (d + 49) (stI σ2 2 8 (nI ((E0 (σ0.1 3) L s).2.1 + 1))) σ0 d9 L hB (adv (E0 (σ0.1 3) L s).2) (ps2.ad hB hlt) (-63)) okX5_write lm5_76 rfl rfl rfl rfl (Nat.le_of_ble_eq_true rfl) dX5_readLine_32 (fun σ14 h15 => ?_)
      have ps32 := h15
      show WS layC V 2 X σ14 35 [(1, .int (bI (E0 (σ0.1 3) L s).1)), (0, rf V 2)] []
      refine WS.aload_n hx dX5_readLine_35 rfl 1 rfl ?_
      refine WS.iconst (v := 0) hx dX5_readLine_36 (by decide) ?_
      refine WS.callVi (st := []) [.int 0] hx (c_X5_readEK V d σ0 d9 L hB (wr (-63) (adv (E0 (σ0.1 3) L s).2)) _ ps32) okX5_readE lm5_72 rfl rfl rfl rfl (Nat.le_of_ble_eq_true rfl) dX5_readLine_37 (fun v16 σ17 h18 => ?_)
      obtain ⟨rfl, ps37⟩ := h18
      have ps40 := ps37
      show WS layC V 2 X σ17 40 [(1, .int (bI (E0 (σ0.1 3) L s).1)), (0, rf V 2)] [.int (bI (E0 (σ0.1 3) L (wr (-63) (adv (E0 (σ0.1 3) L s).2))).1)]
      refine WS.istore_n (lo' := [(1, .int (bI (E0 (σ0.1 3) L (wr (-63) (adv (E0 (σ0.1 3) L s).2))).1)), (0, rf V 2)]) hx dX5_readLine_40 rfl (by decide) rfl ?_
      refine WS.aload_n hx dX5_readLine_41 rfl 1 rfl ?_
      refine WS.bipush (v := (-59)) hx dX5_readLine_42 (by decide) ?_
      refine WS.callVv (st := []) [.int (-59)] hx (c_X5_write V (d + 49) σ17 σ0 d9 L hB _ ps40 (-59)) okX5_write lm5_76 rfl rfl rfl rfl (Nat.le_of_ble_eq_true rfl) dX5_readLine_44 (fun σ20 h21 => ?_)
      have ps44 := h21
      show WS layC V 2 X σ20 47 [(1, .int (bI (E0 (σ0.1 3) L (wr (-63) (adv (E0 (σ0.1 3) L s).2))).1)), (0, rf V 2)] []
      refine WS.iload_n hx dX5_readLine_47 rfl 0 rfl ?_
      exact WS.zret hx he dX5_readLine_48 (by first | (cases (E0 (σ0.1 3) L s).1 <;> decide) | (cases (E0 (σ0.1 3) L (wr (-63) (adv (E0 (σ0.1 3) L s).2))).1 <;> decide)) ⟨_, rfl, rfl, ps44⟩
def adpQ (V : Vt) (τ : Sg) (c d9 : Nat) : Sg := stR (stI (stI (stT (stT τ 2 0 (rf V d9)) 2 1 (rf V c)) 2 2 (τ.1 2 3)) 2 4 (τ.1 2 5)) 23 (fillF 2048 (-1) (τ.1 23))
set_option maxHeartbeats 1000000 in
theorem c_X5_adoptDraft (V : Vt) (d : Nat) (σ : Sg) (c d9 : Nat) (hc : σ.2.2 2 0 = rf V c) (hd : σ.2.2 2 1 = rf V d9) : CT layC V mX5_adoptDraft (d + 1) [rf V 2] σ (Rvo (adpQ V σ c d9)) := by
  refine CT.of (own := RX5) rfl (by decide) (Nat.le_of_ble_eq_true rfl) (fun X (hx : Ok V RX5 cX5_adoptDraft 2 (d + 1) X) (he : En layC V none (Rvo (adpQ V σ c d9)) X) => ?_)
  change WS layC V 2 X σ 0 [(0, rf V 2)] []
  refine WS.aload_n hx dX5_adoptDraft_0 rfl 0 rfl ?_
  refine WS.getT hx okX5 lf5_11 rfl rfl dX5_adoptDraft_1 ?_
  refine WS.as rfl rfl (congrArg (· :: _) (show σ.2.2 2 0 = rf V c from hc)) ?_
  refine WS.astore_n (lo' := [(1, rf V c), (0, rf V 2)]) hx dX5_adoptDraft_4 rfl (by decide) rfl ?_
  refine WS.aload_n hx dX5_adoptDraft_5 rfl 1 rfl ?_
  refine WS.aload_n hx dX5_adoptDraft_6 rfl 1 rfl ?_
  refine WS.getT hx okX5 lf5_15 rfl rfl dX5_adoptDraft_7 ?_
  refine WS.as rfl rfl (congrArg (· :: _) (show σ.2.2 2 1 = rf V d9 from hd)) ?_
  refine WS.putT hx okX5 lf5_11 rfl rfl rfl rfl rfl rfl dX5_adoptDraft_10 ?_
  refine WS.aload_n hx dX5_adoptDraft_13 rfl 1 rfl ?_
  refine WS.aload_n hx dX5_adoptDraft_14 rfl 0 rfl ?_
  refine WS.putT hx okX5 lf5_15 rfl rfl rfl rfl rfl rfl dX5_adoptDraft_15 ?_
  refine WS.aload_n hx dX5_adoptDraft_18 rfl 1 rfl ?_
  refine WS.aload_n hx dX5_adoptDraft_19 rfl 1 rfl ?_
  refine WS.getI hx okX5 lf5_43 rfl rfl dX5_adoptDraft_20 ?_
  refine WS.putI hx okX5 lf5_60 rfl rfl rfl rfl dX5_adoptDraft_23 ?_
  refine WS.aload_n hx dX5_adoptDraft_26 rfl 1 rfl ?_
  refine WS.aload_n hx dX5_adoptDraft_27 rfl 1 rfl ?_
  refine WS.getI hx okX5 lf5_46 rfl rfl dX5_adoptDraft_28 ?_
  refine WS.putI hx okX5 lf5_63 rfl rfl rfl rfl dX5_adoptDraft_31 ?_
  refine WS.aload_n hx dX5_adoptDraft_34 rfl 1 rfl ?_
  refine WS.getR hx okX5 lf5_24 rfl rfl dX5_adoptDraft_35 ?_
  refine WS.iconst (v := (-1)) hx dX5_adoptDraft_38 (by decide) ?_
  refine WS.callSv (st := []) [rf V 23, .int (-1)] hx (c_J_fillI V d (stI (stI (stT (stT σ 2 0 (rf V d9)) 2 1 (rf V c)) 2 2 ((stT (stT σ 2 0 (rf V d9)) 2 1 (rf V c)).1 2 3)) 2 4 ((stI (stT (stT σ 2 0 (rf V d9)) 2 1 (rf V c)) 2 2 ((stT (stT σ 2 0 (rf V d9)) 2 1 (rf V c)).1 2 3)).1 2 5)) 23 (-1) 2048 (by decide) rfl) okJ_fillI lm5_66 rfl rfl (Nat.le_of_ble_eq_true rfl) dX5_adoptDraft_39 (fun σ2 h3 => ?_)
  obtain rfl := h3
  show WS layC V 2 X (stR (stI (stI (stT (stT σ 2 0 (rf V d9)) 2 1 (rf V c)) 2 2 ((stT (stT σ 2 0 (rf V d9)) 2 1 (rf V c)).1 2 3)) 2 4 ((stI (stT (stT σ 2 0 (rf V d9)) 2 1 (rf V c)) 2 2 ((stT (stT σ 2 0 (rf V d9)) 2 1 (rf V c)).1 2 3)).1 2 5)) 23 (fillF 2048 (-1) ((stI (stI (stT (stT σ 2 0 (rf V d9)) 2 1 (rf V c)) 2 2 ((stT (stT σ 2 0 (rf V d9)) 2 1 (rf V c)).1 2 3)) 2 4 ((stI (stT (stT σ 2 0 (rf V d9)) 2 1 (rf V c)) 2 2 ((stT (stT σ 2 0 (rf V d9)) 2 1 (rf V c)).1 2 3)).1 2 5)).1 23))) 42 [(1, rf V c), (0, rf V 2)] []
  exact WS.vret hx he dX5_adoptDraft_42 (Rvo.s rfl)
set_option maxHeartbeats 1000000 in
theorem lp_X5_take (V : Vt) (d : Nat) (σ0 : Sg) (d9 L : Nat) (hB : PB V σ0 d9 L) (c : Nat) (hc : σ0.2.2 2 0 = rf V c) (R : Bool × Ps) (X : Xt) (hx : Ok V RX5 cX5_take 5 (d + 51) X) (he : En layC V (some .int) (Ri fun v σ' => (¬ (R.1 = true ∧ ¬ R.2.1 < L) → v = nI R.2.1 ∧ PS σ0 σ' d9 L R.2) ∧ ((R.1 = true ∧ ¬ R.2.1 < L) → v = -1 ∧ ∃ τ, PS σ0 τ d9 L R.2 ∧ σ' = adpQ V τ c d9)) X) : ∀ (u i : Nat) (r : Bool × Ps) (τ : Sg), i + u = 120 → PS σ0 τ d9 L r.2 → lnL (σ0.1 3) L u r = R → WS layC V 5 X τ 38 [(4, .int (nI i)), (3, .int (bI r.1)), (0, rf V 2), (1, rf V 3), (2, .int (nI L))] [] := by
  intro u
  induction u with
  | zero =>
    intro i r τ hiu hS hR
    have hiI : (nI i).toInt = (i : Int) := nI_c (by omega)
    have hrl := hS.2.2.2.2.2.2.2.1
    have hL120 := hB.2.1
    have hpI : (nI r.2.1).toInt = (r.2.1 : Int) := nI_c (by omega)
    have hLI : (nI L).toInt = (L : Int) := nI_c (by omega)
    have hRR : r = R := hR
    refine WS.iload hx dX5_take_38 0 rfl ?_
    refine WS.bipush (v := 120) hx dX5_take_40 (by decide) ?_
    refine WS.icmp_ge (tgt := 79) hx dX5_take_42 (by decide) (fun c42 => ?_) (fun c42 => by exfalso; (try simp only [i_le, i_lt, i_eq, tI_m1, tI_0, tI_1, tI_59, tI_120] at c42); (try simp only [i_le, i_lt, i_eq, tI_m1, tI_0, tI_1, tI_59, tI_120]); omega)
    refine WS.iload_n hx dX5_take_79 rfl 1 rfl ?_
    refine WS.if_eq (tgt := 94) hx dX5_take_80 (by decide) (fun c80 => ?_) (fun c80 => ?_)
    · skip
      show WS layC V 5 X τ 94 [(4, .int (nI i)), (3, .int (bI r.1)), (0, rf V 2), (1, rf V 3), (2, .int (nI L))] []
      have hfail : ¬ (R.1 = true ∧ ¬ R.2.1 < L) := fun q => by rw [← hRR] at q; have h8 := q.1; rw [h8] at c80; exact absurd c80 (by decide)
      refine WS.aload_n hx dX5_take_94 rfl 2 rfl ?_
      refine WS.getI hx okX5 lf5_40 rfl rfl dX5_take_95 ?_
      refine WS.as rfl rfl (congrArg (fun z => Value.int z :: _) (show τ.1 2 8 = nI r.2.1 from hS.2.2.1)) ?_
      skip
      exact WS.iret hx he dX5_take_98 ⟨_, rfl, fun _ => ⟨by rw [← hRR], by rw [← hRR]; exact hS⟩, fun h => absurd h hfail⟩
    · skip
      show WS layC V 5 X τ 83 [(4, .int (nI i)), (3, .int (bI r.1)), (0, rf V 2), (1, rf V 3), (2, .int (nI L))] []
      refine WS.aload_n hx dX5_take_83 rfl 2 rfl ?_
      refine WS.getI hx okX5 lf5_40 rfl rfl dX5_take_84 ?_
      refine WS.as rfl rfl (congrArg (fun z => Value.int z :: _) (show τ.1 2 8 = nI r.2.1 from hS.2.2.1)) ?_
      skip
      refine WS.aload_n hx dX5_take_87 rfl 2 rfl ?_
      refine WS.getI hx okX5 lf5_36 rfl rfl dX5_take_88 ?_
      refine WS.as rfl rfl (congrArg (fun z => Value.int z :: _) (show τ.1 2 7 = nI L from (hS.2.2.2.2.2.2.1 7 (by decide) (by decide) (by decide)).trans hB.2.2.1)) ?_
      skip
      refine WS.icmp_ge (tgt := 99) hx dX5_take_91 (by decide) (fun c91 => ?_) (fun c91 => ?_)
      · skip
        show WS layC V 5 X τ 99 [(4, .int (nI i)), (3, .int (bI r.1)), (0, rf V 2), (1, rf V 3), (2, .int (nI L))] []
        have hgood : R.1 = true ∧ ¬ R.2.1 < L := by
          rw [← hRR]
          exact ⟨by cases h : r.1; rw [h] at c80; exact absurd rfl c80; rfl, by (try simp only [i_le, i_lt, i_eq, tI_m1, tI_0, tI_1, tI_59, tI_120] at c42); (try simp only [i_le, i_lt, i_eq, tI_m1, tI_0, tI_1, tI_59, tI_120] at c80); (try simp only [i_le, i_lt, i_eq, tI_m1, tI_0, tI_1, tI_59, tI_120] at c91); (try simp only [i_le, i_lt, i_eq, tI_m1, tI_0, tI_1, tI_59, tI_120]); omega⟩
        refine WS.aload_n hx dX5_take_99 rfl 2 rfl ?_
        refine WS.callVv (st := []) [] hx (c_X5_adoptDraft V (d + 49) τ c d9 (by rw [hS.2.1]; exact hc) (by rw [hS.2.1]; exact hB.2.2.2.2)) okX5_adoptDraft lm5_57 rfl rfl rfl rfl (Nat.le_of_ble_eq_true rfl) dX5_take_100 (fun σ2 h3 => ?_)
        obtain rfl := h3
        show WS layC V 5 X (adpQ V τ c d9) 103 [(4, .int (nI i)), (3, .int (bI r.1)), (0, rf V 2), (1, rf V 3), (2, .int (nI L))] []
        refine WS.iconst (v := (-1)) hx dX5_take_103 (by decide) ?_
        exact WS.iret hx he dX5_take_104 ⟨_, rfl, fun h => absurd hgood h, fun _ => ⟨rfl, τ, by rw [← hRR]; exact hS, rfl⟩⟩
      · skip
        show WS layC V 5 X τ 94 [(4, .int (nI i)), (3, .int (bI r.1)), (0, rf V 2), (1, rf V 3), (2, .int (nI L))] []
        have hfail : ¬ (R.1 = true ∧ ¬ R.2.1 < L) := fun q => by rw [← hRR] at q; exact q.2 (by (try simp only [i_le, i_lt, i_eq, tI_m1, tI_0, tI_1, tI_59, tI_120] at c42); (try simp only [i_le, i_lt, i_eq, tI_m1, tI_0, tI_1, tI_59, tI_120] at c80); (try simp only [i_le, i_lt, i_eq, tI_m1, tI_0, tI_1, tI_59, tI_120] at c91); (try simp only [i_le, i_lt, i_eq, tI_m1, tI_0, tI_1, tI_59, tI_120]); omega)
        refine WS.aload_n hx dX5_take_94 rfl 2 rfl ?_
        refine WS.getI hx okX5 lf5_40 rfl rfl dX5_take_95 ?_
        refine WS.as rfl rfl (congrArg (fun z => Value.int z :: _) (show τ.1 2 8 = nI r.2.1 from hS.2.2.1)) ?_
        skip
        exact WS.iret hx he dX5_take_98 ⟨_, rfl, fun _ => ⟨by rw [← hRR], by rw [← hRR]; exact hS⟩, fun h => absurd h hfail⟩
  | succ u ih =>
    intro i r τ hiu hS hR
    have hiI : (nI i).toInt = (i : Int) := nI_c (by omega)
    have hrl := hS.2.2.2.2.2.2.2.1
    have hL120 := hB.2.1
    have hpI : (nI r.2.1).toInt = (r.2.1 : Int) := nI_c (by omega)
    have hLI : (nI L).toInt = (L : Int) := nI_c (by omega)
    unfold lnL at hR
    refine WS.iload hx dX5_take_38 0 rfl ?_
    refine WS.bipush (v := 120) hx dX5_take_40 (by decide) ?_
    refine WS.icmp_ge (tgt := 79) hx dX5_take_42 (by decide) (fun c42 => by exfalso; (try simp only [i_le, i_lt, i_eq, tI_m1, tI_0, tI_1, tI_59, tI_120] at c42); (try simp only [i_le, i_lt, i_eq, tI_m1, tI_0, tI_1, tI_59, tI_120]); omega) (fun c42 => ?_)
    refine WS.iload_n hx dX5_take_45 rfl 1 rfl ?_
    refine WS.if_eq (tgt := 79) hx dX5_take_46 (by decide) (fun c46 => ?_) (fun c46 => ?_)
    · skip
      show WS layC V 5 X τ 79 [(4, .int (nI i)), (3, .int (bI r.1)), (0, rf V 2), (1, rf V 3), (2, .int (nI L))] []
      rw [if_neg (fun q => by have h8 := q.1; rw [h8] at c46; exact absurd c46 (by decide))] at hR
      have hRR : r = R := hR
      refine WS.iload_n hx dX5_take_79 rfl 1 rfl ?_
      refine WS.if_eq (tgt := 94) hx dX5_take_80 (by decide) (fun c80 => ?_) (fun c80 => ?_)
      · skip
        show WS layC V 5 X τ 94 [(4, .int (nI i)), (3, .int (bI r.1)), (0, rf V 2), (1, rf V 3), (2, .int (nI L))] []
        have hfail : ¬ (R.1 = true ∧ ¬ R.2.1 < L) := fun q => by rw [← hRR] at q; have h8 := q.1; rw [h8] at c80; exact absurd c80 (by decide)
        refine WS.aload_n hx dX5_take_94 rfl 2 rfl ?_
        refine WS.getI hx okX5 lf5_40 rfl rfl dX5_take_95 ?_
        refine WS.as rfl rfl (congrArg (fun z => Value.int z :: _) (show τ.1 2 8 = nI r.2.1 from hS.2.2.1)) ?_
        skip
        exact WS.iret hx he dX5_take_98 ⟨_, rfl, fun _ => ⟨by rw [← hRR], by rw [← hRR]; exact hS⟩, fun h => absurd h hfail⟩
      · skip
        show WS layC V 5 X τ 83 [(4, .int (nI i)), (3, .int (bI r.1)), (0, rf V 2), (1, rf V 3), (2, .int (nI L))] []
        refine WS.aload_n hx dX5_take_83 rfl 2 rfl ?_
        refine WS.getI hx okX5 lf5_40 rfl rfl dX5_take_84 ?_
        refine WS.as rfl rfl (congrArg (fun z => Value.int z :: _) (show τ.1 2 8 = nI r.2.1 from hS.2.2.1)) ?_
        skip
        refine WS.aload_n hx dX5_take_87 rfl 2 rfl ?_
        refine WS.getI hx okX5 lf5_36 rfl rfl dX5_take_88 ?_
        refine WS.as rfl rfl (congrArg (fun z => Value.int z :: _) (show τ.1 2 7 = nI L from (hS.2.2.2.2.2.2.1 7 (by decide) (by decide) (by decide)).trans hB.2.2.1)) ?_
        skip
        refine WS.icmp_ge (tgt := 99) hx dX5_take_91 (by decide) (fun c91 => ?_) (fun c91 => ?_)
        · skip
          show WS layC V 5 X τ 99 [(4, .int (nI i)), (3, .int (bI r.1)), (0, rf V 2), (1, rf V 3), (2, .int (nI L))] []
          have hgood : R.1 = true ∧ ¬ R.2.1 < L := by
            rw [← hRR]
            exact ⟨by cases h : r.1; rw [h] at c80; exact absurd rfl c80; rfl, by (try simp only [i_le, i_lt, i_eq, tI_m1, tI_0, tI_1, tI_59, tI_120] at c42); (try simp only [i_le, i_lt, i_eq, tI_m1, tI_0, tI_1, tI_59, tI_120] at c46); (try simp only [i_le, i_lt, i_eq, tI_m1, tI_0, tI_1, tI_59, tI_120] at c80); (try simp only [i_le, i_lt, i_eq, tI_m1, tI_0, tI_1, tI_59, tI_120] at c91); (try simp only [i_le, i_lt, i_eq, tI_m1, tI_0, tI_1, tI_59, tI_120]); omega⟩
          refine WS.aload_n hx dX5_take_99 rfl 2 rfl ?_
          refine WS.callVv (st := []) [] hx (c_X5_adoptDraft V (d + 49) τ c d9 (by rw [hS.2.1]; exact hc) (by rw [hS.2.1]; exact hB.2.2.2.2)) okX5_adoptDraft lm5_57 rfl rfl rfl rfl (Nat.le_of_ble_eq_true rfl) dX5_take_100 (fun σ2 h3 => ?_)
          obtain rfl := h3
          show WS layC V 5 X (adpQ V τ c d9) 103 [(4, .int (nI i)), (3, .int (bI r.1)), (0, rf V 2), (1, rf V 3), (2, .int (nI L))] []
          refine WS.iconst (v := (-1)) hx dX5_take_103 (by decide) ?_
          exact WS.iret hx he dX5_take_104 ⟨_, rfl, fun h => absurd hgood h, fun _ => ⟨rfl, τ, by rw [← hRR]; exact hS, rfl⟩⟩
        · skip
          show WS layC V 5 X τ 94 [(4, .int (nI i)), (3, .int (bI r.1)), (0, rf V 2), (1, rf V 3), (2, .int (nI L))] []
          have hfail : ¬ (R.1 = true ∧ ¬ R.2.1 < L) := fun q => by rw [← hRR] at q; exact q.2 (by (try simp only [i_le, i_lt, i_eq, tI_m1, tI_0, tI_1, tI_59, tI_120] at c42); (try simp only [i_le, i_lt, i_eq, tI_m1, tI_0, tI_1, tI_59, tI_120] at c46); (try simp only [i_le, i_lt, i_eq, tI_m1, tI_0, tI_1, tI_59, tI_120] at c80); (try simp only [i_le, i_lt, i_eq, tI_m1, tI_0, tI_1, tI_59, tI_120] at c91); (try simp only [i_le, i_lt, i_eq, tI_m1, tI_0, tI_1, tI_59, tI_120]); omega)
          refine WS.aload_n hx dX5_take_94 rfl 2 rfl ?_
          refine WS.getI hx okX5 lf5_40 rfl rfl dX5_take_95 ?_
          refine WS.as rfl rfl (congrArg (fun z => Value.int z :: _) (show τ.1 2 8 = nI r.2.1 from hS.2.2.1)) ?_
          skip
          exact WS.iret hx he dX5_take_98 ⟨_, rfl, fun _ => ⟨by rw [← hRR], by rw [← hRR]; exact hS⟩, fun h => absurd h hfail⟩
    · skip
      show WS layC V 5 X τ 49 [(4, .int (nI i)), (3, .int (bI r.1)), (0, rf V 2), (1, rf V 3), (2, .int (nI L))] []
      refine WS.aload_n hx dX5_take_49 rfl 2 rfl ?_
      refine WS.callVi (st := []) [] hx (c_X5_comes V (d + 50) τ σ0 d9 L hB r.2 hS) okX5_comes lm5_53 rfl rfl rfl rfl (Nat.le_of_ble_eq_true rfl) dX5_take_50 (fun v4 σ5 h6 => ?_)
      obtain ⟨rfl, rfl⟩ := h6
      show WS layC V 5 X τ 53 [(4, .int (nI i)), (3, .int (bI r.1)), (0, rf V 2), (1, rf V 3), (2, .int (nI L))] [.int (cm (σ0.1 3) L r.2)]
      refine WS.bipush (v := 59) hx dX5_take_53 (by decide) ?_
      refine WS.icmp_ne (tgt := 79) hx dX5_take_55 (by decide) (fun c55 => ?_) (fun c55 => ?_)
      · skip
        show WS layC V 5 X τ 79 [(4, .int (nI i)), (3, .int (bI r.1)), (0, rf V 2), (1, rf V 3), (2, .int (nI L))] []
        rw [if_neg (fun q => c55 q.2)] at hR
        have hRR : r = R := hR
        refine WS.iload_n hx dX5_take_79 rfl 1 rfl ?_
        refine WS.if_eq (tgt := 94) hx dX5_take_80 (by decide) (fun c80 => ?_) (fun c80 => ?_)
        · skip
          show WS layC V 5 X τ 94 [(4, .int (nI i)), (3, .int (bI r.1)), (0, rf V 2), (1, rf V 3), (2, .int (nI L))] []
          have hfail : ¬ (R.1 = true ∧ ¬ R.2.1 < L) := fun q => by rw [← hRR] at q; have h8 := q.1; rw [h8] at c80; exact absurd c80 (by decide)
          refine WS.aload_n hx dX5_take_94 rfl 2 rfl ?_
          refine WS.getI hx okX5 lf5_40 rfl rfl dX5_take_95 ?_
          refine WS.as rfl rfl (congrArg (fun z => Value.int z :: _) (show τ.1 2 8 = nI r.2.1 from hS.2.2.1)) ?_
          skip
          exact WS.iret hx he dX5_take_98 ⟨_, rfl, fun _ => ⟨by rw [← hRR], by rw [← hRR]; exact hS⟩, fun h => absurd h hfail⟩
        · skip
          show WS layC V 5 X τ 83 [(4, .int (nI i)), (3, .int (bI r.1)), (0, rf V 2), (1, rf V 3), (2, .int (nI L))] []
          refine WS.aload_n hx dX5_take_83 rfl 2 rfl ?_
          refine WS.getI hx okX5 lf5_40 rfl rfl dX5_take_84 ?_
          refine WS.as rfl rfl (congrArg (fun z => Value.int z :: _) (show τ.1 2 8 = nI r.2.1 from hS.2.2.1)) ?_
          skip
          refine WS.aload_n hx dX5_take_87 rfl 2 rfl ?_
          refine WS.getI hx okX5 lf5_36 rfl rfl dX5_take_88 ?_
          refine WS.as rfl rfl (congrArg (fun z => Value.int z :: _) (show τ.1 2 7 = nI L from (hS.2.2.2.2.2.2.1 7 (by decide) (by decide) (by decide)).trans hB.2.2.1)) ?_
          skip
          refine WS.icmp_ge (tgt := 99) hx dX5_take_91 (by decide) (fun c91 => ?_) (fun c91 => ?_)
          · skip
            show WS layC V 5 X τ 99 [(4, .int (nI i)), (3, .int (bI r.1)), (0, rf V 2), (1, rf V 3), (2, .int (nI L))] []
            have hgood : R.1 = true ∧ ¬ R.2.1 < L := by
              rw [← hRR]
              exact ⟨by cases h : r.1; rw [h] at c80; exact absurd rfl c80; rfl, by (try simp only [i_le, i_lt, i_eq, tI_m1, tI_0, tI_1, tI_59, tI_120] at c42); (try simp only [i_le, i_lt, i_eq, tI_m1, tI_0, tI_1, tI_59, tI_120] at c46); (try simp only [i_le, i_lt, i_eq, tI_m1, tI_0, tI_1, tI_59, tI_120] at c55); (try simp only [i_le, i_lt, i_eq, tI_m1, tI_0, tI_1, tI_59, tI_120] at c80); (try simp only [i_le, i_lt, i_eq, tI_m1, tI_0, tI_1, tI_59, tI_120] at c91); (try simp only [i_le, i_lt, i_eq, tI_m1, tI_0, tI_1, tI_59, tI_120]); omega⟩
            refine WS.aload_n hx dX5_take_99 rfl 2 rfl ?_
            refine WS.callVv (st := []) [] hx (c_X5_adoptDraft V (d + 49) τ c d9 (by rw [hS.2.1]; exact hc) (by rw [hS.2.1]; exact hB.2.2.2.2)) okX5_adoptDraft lm5_57 rfl rfl rfl rfl (Nat.le_of_ble_eq_true rfl) dX5_take_100 (fun σ8 h9 => ?_)
            obtain rfl := h9
            show WS layC V 5 X (adpQ V τ c d9) 103 [(4, .int (nI i)), (3, .int (bI r.1)), (0, rf V 2), (1, rf V 3), (2, .int (nI L))] []
            refine WS.iconst (v := (-1)) hx dX5_take_103 (by decide) ?_
            exact WS.iret hx he dX5_take_104 ⟨_, rfl, fun h => absurd hgood h, fun _ => ⟨rfl, τ, by rw [← hRR]; exact hS, rfl⟩⟩
          · skip
            show WS layC V 5 X τ 94 [(4, .int (nI i)), (3, .int (bI r.1)), (0, rf V 2), (1, rf V 3), (2, .int (nI L))] []
            have hfail : ¬ (R.1 = true ∧ ¬ R.2.1 < L) := fun q => by rw [← hRR] at q; exact q.2 (by (try simp only [i_le, i_lt, i_eq, tI_m1, tI_0, tI_1, tI_59, tI_120] at c42); (try simp only [i_le, i_lt, i_eq, tI_m1, tI_0, tI_1, tI_59, tI_120] at c46); (try simp only [i_le, i_lt, i_eq, tI_m1, tI_0, tI_1, tI_59, tI_120] at c55); (try simp only [i_le, i_lt, i_eq, tI_m1, tI_0, tI_1, tI_59, tI_120] at c80); (try simp only [i_le, i_lt, i_eq, tI_m1, tI_0, tI_1, tI_59, tI_120] at c91); (try simp only [i_le, i_lt, i_eq, tI_m1, tI_0, tI_1, tI_59, tI_120]); omega)
            refine WS.aload_n hx dX5_take_94 rfl 2 rfl ?_
            refine WS.getI hx okX5 lf5_40 rfl rfl dX5_take_95 ?_
            refine WS.as rfl rfl (congrArg (fun z => Value.int z :: _) (show τ.1 2 8 = nI r.2.1 from hS.2.2.1)) ?_
            skip
            exact WS.iret hx he dX5_take_98 ⟨_, rfl, fun _ => ⟨by rw [← hRR], by rw [← hRR]; exact hS⟩, fun h => absurd h hfail⟩
      · skip
        show WS layC V 5 X τ 58 [(4, .int (nI i)), (3, .int (bI r.1)), (0, rf V 2), (1, rf V 3), (2, .int (nI L))] []
        have hlt : r.2.1 < L := cm_lt (by intro e; rw [e] at c55; exact absurd c55 (by decide))
        rw [if_pos ⟨by cases h : r.1; rw [h] at c46; exact absurd rfl c46; rfl, c55⟩] at hR
        refine WS.aload_n hx dX5_take_58 rfl 2 rfl ?_
        refine WS.dup hx dX5_take_59 rfl ?_
        refine WS.getI hx okX5 lf5_40 rfl rfl dX5_take_60 ?_
        refine WS.as rfl rfl (congrArg (fun z => Value.int z :: _) (show τ.1 2 8 = nI r.2.1 from hS.2.2.1)) ?_
        skip
        refine WS.iconst (v := 1) hx dX5_take_63 (by decide) ?_
        refine WS.iadd hx dX5_take_64 ?_
        refine WS.as rfl rfl (congrArg (fun z => Value.int z :: _) (show (nI r.2.1) + 1 = nI (r.2.1 + 1) from nI_1 _)) ?_
        skip
        refine WS.putI hx okX5 lf5_40 rfl rfl rfl rfl dX5_take_65 ?_
        refine WS.aload_n hx dX5_take_68 rfl 2 rfl ?_
        refine WS.callVi (st := []) [] hx (c_X5_readLine V d (stI τ 2 8 (nI (r.2.1 + 1))) σ0 d9 L hB (adv r.2) (hS.ad hB hlt)) okX5_readLine lm5_49 rfl rfl rfl rfl (Nat.le_of_ble_eq_true rfl) dX5_take_69 (fun v10 σ11 h12 => ?_)
        obtain ⟨rfl, ps69⟩ := h12
        show WS layC V 5 X σ11 72 [(4, .int (nI i)), (3, .int (bI r.1)), (0, rf V 2), (1, rf V 3), (2, .int (nI L))] [.int (bI (liF (σ0.1 3) L (adv r.2)).1)]
        refine WS.istore_n (lo' := [(3, .int (bI (liF (σ0.1 3) L (adv r.2)).1)), (4, .int (nI i)), (0, rf V 2), (1, rf V 3), (2, .int (nI L))]) hx dX5_take_72 rfl (by decide) rfl ?_
        refine WS.iinc (v := nI (i + 1)) (lo' := [(4, .int (nI (i + 1))), (3, .int (bI (liF (σ0.1 3) L (adv r.2)).1)), (0, rf V 2), (1, rf V 3), (2, .int (nI L))]) hx dX5_take_73 1 rfl (nI_1 i) (by decide) rfl ?_
        refine WS.goto (tgt := 38) hx dX5_take_76 (by decide) ?_
        exact WS.los [0, 1, 2, 3, 4] rfl (ih (i + 1) _ σ11 (by omega) ps69 hR)
set_option maxHeartbeats 1000000 in
theorem c_X5_take (V : Vt) (d : Nat) (σ : Sg) (d9 c : Nat) (hd9 : d9 = 19 ∨ d9 = 20) (hc : σ.2.2 2 0 = rf V c) (hd : σ.2.2 2 1 = rf V d9) (L : Nat) (hL : L ≤ 120) : CT layC V mX5_take (d + 51) [rf V 2, rf V 3, .int (nI L)] σ (Ri fun v σ' => (¬ ((txF (σ.1 3) L (σ.1 d9)).1 = true ∧ ¬ (txF (σ.1 3) L (σ.1 d9)).2.1 < L) → v = nI (txF (σ.1 3) L (σ.1 d9)).2.1 ∧ PS (stI (stI (stI (stI (stT σ 2 6 (rf V 3)) 2 7 (nI L)) 2 8 0) 2 3 0) 2 5 0) σ' d9 L (txF (σ.1 3) L (σ.1 d9)).2) ∧ (((txF (σ.1 3) L (σ.1 d9)).1 = true ∧ ¬ (txF (σ.1 3) L (σ.1 d9)).2.1 < L) → v = -1 ∧ ∃ τ, PS (stI (stI (stI (stI (stT σ 2 6 (rf V 3)) 2 7 (nI L)) 2 8 0) 2 3 0) 2 5 0) τ d9 L (txF (σ.1 3) L (σ.1 d9)).2 ∧ σ' = adpQ V τ c d9)) := by
  refine CT.of (own := RX5) rfl (by decide) (Nat.le_of_ble_eq_true rfl) (fun X (hx : Ok V RX5 cX5_take 5 (d + 51) X) (he : En layC V (some .int) (Ri fun v σ' => (¬ ((txF (σ.1 3) L (σ.1 d9)).1 = true ∧ ¬ (txF (σ.1 3) L (σ.1 d9)).2.1 < L) → v = nI (txF (σ.1 3) L (σ.1 d9)).2.1 ∧ PS (stI (stI (stI (stI (stT σ 2 6 (rf V 3)) 2 7 (nI L)) 2 8 0) 2 3 0) 2 5 0) σ' d9 L (txF (σ.1 3) L (σ.1 d9)).2) ∧ (((txF (σ.1 3) L (σ.1 d9)).1 = true ∧ ¬ (txF (σ.1 3) L (σ.1 d9)).2.1 < L) → v = -1 ∧ ∃ τ, PS (stI (stI (stI (stI (stT σ 2 6 (rf V 3)) 2 7 (nI L)) 2 8 0) 2 3 0) 2 5 0) τ d9 L (txF (σ.1 3) L (σ.1 d9)).2 ∧ σ' = adpQ V τ c d9)) X) => ?_)
  change WS layC V 5 X σ 0 [(0, rf V 2), (1, rf V 3), (2, .int (nI L))] []
  have hB : PB V (stI (stI (stI (stI (stT σ 2 6 (rf V 3)) 2 7 (nI L)) 2 8 0) 2 3 0) 2 5 0) d9 L := ⟨hd9, hL, rfl, rfl, hd⟩
  have hS0 : PS (stI (stI (stI (stI (stT σ 2 6 (rf V 3)) 2 7 (nI L)) 2 8 0) 2 3 0) 2 5 0) (stI (stI (stI (stI (stT σ 2 6 (rf V 3)) 2 7 (nI L)) 2 8 0) 2 3 0) 2 5 0) d9 L (0, 0, σ.1 d9, 0) := ⟨fun _ _ _ => rfl, rfl, rfl, rfl, rfl, by rcases hd9 with rfl | rfl <;> rfl, fun _ _ _ _ => rfl, Nat.zero_le _, Nat.zero_le _⟩
  refine WS.aload_n hx dX5_take_0 rfl 0 rfl ?_
  refine WS.aload_n hx dX5_take_1 rfl 1 rfl ?_
  refine WS.putT hx okX5 lf5_27 rfl rfl rfl rfl rfl rfl dX5_take_2 ?_
  refine WS.aload_n hx dX5_take_5 rfl 0 rfl ?_
  refine WS.iload_n hx dX5_take_6 rfl 2 rfl ?_
  refine WS.aload_n hx dX5_take_7 rfl 1 rfl ?_
  refine WS.alen (v := 120) hx rfl rfl rfl dX5_take_8 ?_
  refine WS.mmin hx lm5_30 (Nat.le_of_ble_eq_true rfl) dX5_take_9 ?_
  refine WS.as rfl rfl (congrArg (fun z => Value.int z :: _) (show mn (nI L) 120 = nI L from (mn_nI (by omega) (by decide)).trans (by rw [show min L 120 = L by omega]))) ?_
  skip
  refine WS.putI hx okX5 lf5_36 rfl rfl rfl rfl dX5_take_12 ?_
  refine WS.aload_n hx dX5_take_15 rfl 0 rfl ?_
  refine WS.iconst (v := 0) hx dX5_take_16 (by decide) ?_
  refine WS.putI hx okX5 lf5_40 rfl rfl rfl rfl dX5_take_17 ?_
  refine WS.aload_n hx dX5_take_20 rfl 0 rfl ?_
  refine WS.iconst (v := 0) hx dX5_take_21 (by decide) ?_
  refine WS.putI hx okX5 lf5_43 rfl rfl rfl rfl dX5_take_22 ?_
  refine WS.aload_n hx dX5_take_25 rfl 0 rfl ?_
  refine WS.iconst (v := 0) hx dX5_take_26 (by decide) ?_
  refine WS.putI hx okX5 lf5_46 rfl rfl rfl rfl dX5_take_27 ?_
  refine WS.aload_n hx dX5_take_30 rfl 0 rfl ?_
  refine WS.callVi (st := []) [] hx (c_X5_readLine V d (stI (stI (stI (stI (stT σ 2 6 (rf V 3)) 2 7 (nI L)) 2 8 0) 2 3 0) 2 5 0) (stI (stI (stI (stI (stT σ 2 6 (rf V 3)) 2 7 (nI L)) 2 8 0) 2 3 0) 2 5 0) d9 L hB (0, 0, σ.1 d9, 0) hS0) okX5_readLine lm5_49 rfl rfl rfl rfl (Nat.le_of_ble_eq_true rfl) dX5_take_31 (fun v1 σ2 h3 => ?_)
  obtain ⟨rfl, ps31⟩ := h3
  show WS layC V 5 X σ2 34 [(0, rf V 2), (1, rf V 3), (2, .int (nI L))] [.int (bI (liF (σ.1 3) L (0, 0, σ.1 d9, 0)).1)]
  refine WS.istore_n (lo' := [(3, .int (bI (liF (σ.1 3) L (0, 0, σ.1 d9, 0)).1)), (0, rf V 2), (1, rf V 3), (2, .int (nI L))]) hx dX5_take_34 rfl (by decide) rfl ?_
  refine WS.iconst (v := 0) hx dX5_take_35 (by decide) ?_
  refine WS.istore (lo' := [(4, .int 0), (3, .int (bI (liF (σ.1 3) L (0, 0, σ.1 d9, 0)).1)), (0, rf V 2), (1, rf V 3), (2, .int (nI L))]) hx dX5_take_36 (by decide) rfl ?_
  exact WS.los [0, 1, 2, 3, 4] rfl (lp_X5_take V d (stI (stI (stI (stI (stT σ 2 6 (rf V 3)) 2 7 (nI L)) 2 8 0) 2 3 0) 2 5 0) d9 L hB c hc (txF (σ.1 3) L (σ.1 d9)) X hx he 120 0 _ σ2 (by decide) ps31 rfl)
