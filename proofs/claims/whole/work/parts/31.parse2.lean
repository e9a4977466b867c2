set_option maxHeartbeats 1000000 in
theorem lp_X5_readP (V : Vt) (d : Nat) (σ0 : Sg) (d9 L : Nat) (hB : PB V σ0 d9 L) (dp : Nat) (F : Ps → Bool × Ps) (hF : ∀ (s : Ps) (τ : Sg), PS σ0 τ d9 L s → CT layC V mX5_readO (d + 2) [rf V 2, .int (nI dp)] τ (Ri fun v σ' => bI (F s).1 = v ∧ PS σ0 σ' d9 L (F s).2)) (R : Bool × Ps) (X : Xt) (hx : Ok V RX5 cX5_readP 5 (d + 3) X) (he : En layC V (some .boolean) (Ri fun v σ' => bI R.1 = v ∧ PS σ0 σ' d9 L R.2) X) : ∀ (u i : Nat) (r : Bool × Ps) (τ : Sg), i + u = 120 → PS σ0 τ d9 L r.2 → lpF (σ0.1 3) L tP F u r = R → WS layC V 5 X τ 8 [(3, .int (nI i)), (2, .int (bI r.1)), (0, rf V 2), (1, .int (nI dp))] [] := by
  intro u
  induction u with
  | zero =>
    intro i r τ hiu hS hR
    have hiI : (nI i).toInt = (i : Int) := nI_c (by omega)
    refine WS.iload_n hx dX5_readP_8 rfl 0 rfl ?_
    refine WS.bipush (v := 120) hx dX5_readP_9 (by decide) ?_
    refine WS.icmp_ge (tgt := 80) hx dX5_readP_11 (by decide) (fun c11 => ?_) (fun c11 => by exfalso; (try simp only [i_le, i_lt, i_eq, tI_0, tI_1, tI_37, tI_42, tI_47, tI_120] at c11); (try simp only [i_le, i_lt, i_eq, tI_0, tI_1, tI_37, tI_42, tI_47, tI_120]); omega)
    refine WS.iload_n hx dX5_readP_80 rfl 1 rfl ?_
    exact WS.zret hx he dX5_readP_81 (by cases r.1 <;> decide) ⟨_, rfl, by rw [← hR]; rfl, by rw [← hR]; exact hS⟩
  | succ u ih =>
    intro i r τ hiu hS hR
    have hiI : (nI i).toInt = (i : Int) := nI_c (by omega)
    unfold lpF at hR
    refine WS.iload_n hx dX5_readP_8 rfl 0 rfl ?_
    refine WS.bipush (v := 120) hx dX5_readP_9 (by decide) ?_
    refine WS.icmp_ge (tgt := 80) hx dX5_readP_11 (by decide) (fun c11 => by exfalso; (try simp only [i_le, i_lt, i_eq, tI_0, tI_1, tI_37, tI_42, tI_47, tI_120] at c11); (try simp only [i_le, i_lt, i_eq, tI_0, tI_1, tI_37, tI_42, tI_47, tI_120]); omega) (fun c11 => ?_)
    refine WS.iload_n hx dX5_readP_14 rfl 1 rfl ?_
    refine WS.if_eq (tgt := 80) hx dX5_readP_15 (by decide) (fun c15 => ?_) (fun c15 => ?_)
    · skip
      show WS layC V 5 X τ 80 [(3, .int (nI i)), (2, .int (bI r.1)), (0, rf V 2), (1, .int (nI dp))] []
      refine WS.iload_n hx dX5_readP_80 rfl 1 rfl ?_
      exact WS.zret hx he dX5_readP_81 (by cases r.1 <;> decide) (by rw [if_neg (fun q => by have h8 := q.1; rw [h8] at c15; exact absurd c15 (by decide))] at hR; exact ⟨_, rfl, by rw [← hR], by rw [← hR]; exact hS⟩)
    · skip
      show WS layC V 5 X τ 18 [(3, .int (nI i)), (2, .int (bI r.1)), (0, rf V 2), (1, .int (nI dp))] []
      refine WS.aload_n hx dX5_readP_18 rfl 2 rfl ?_
      refine WS.callVi (st := []) [] hx (c_X5_comes V (d + 2) τ σ0 d9 L hB r.2 hS) okX5_comes lm5_53 rfl rfl rfl rfl (Nat.le_of_ble_eq_true rfl) dX5_readP_19 (fun v1 σ2 h3 => ?_)
      obtain ⟨rfl, rfl⟩ := h3
      show WS layC V 5 X τ 22 [(3, .int (nI i)), (2, .int (bI r.1)), (0, rf V 2), (1, .int (nI dp))] [.int (cm (σ0.1 3) L r.2)]
      refine WS.bipush (v := 42) hx dX5_readP_22 (by decide) ?_
      refine WS.icmp_eq (tgt := 45) hx dX5_readP_24 (by decide) (fun c24 => ?_) (fun c24 => ?_)
      · skip
        show WS layC V 5 X τ 45 [(3, .int (nI i)), (2, .int (bI r.1)), (0, rf V 2), (1, .int (nI dp))] []
        have htest : tP (cm (σ0.1 3) L r.2) = true := by unfold tP; rw [decide_eq_true_eq]; simp_all
        have hlt : r.2.1 < L := cm_lt (by intro e; rw [e] at htest; exact absurd htest (by decide))
        refine WS.aload_n hx dX5_readP_45 rfl 2 rfl ?_
        refine WS.callVi (st := []) [] hx (c_X5_comes V (d + 2) τ σ0 d9 L hB r.2 hS) okX5_comes lm5_53 rfl rfl rfl rfl (Nat.le_of_ble_eq_true rfl) dX5_readP_46 (fun v4 σ5 h6 => ?_)
        obtain ⟨rfl, rfl⟩ := h6
        show WS layC V 5 X τ 49 [(3, .int (nI i)), (2, .int (bI r.1)), (0, rf V 2), (1, .int (nI dp))] [.int (cm (σ0.1 3) L r.2)]
        refine WS.istore (lo' := [(4, .int (cm (σ0.1 3) L r.2)), (3, .int (nI i)), (2, .int (bI r.1)), (0, rf V 2), (1, .int (nI dp))]) hx dX5_readP_49 (by decide) rfl ?_
        refine WS.aload_n hx dX5_readP_51 rfl 3 rfl ?_
        refine WS.dup hx dX5_readP_52 rfl ?_
        refine WS.getI hx okX5 lf5_40 rfl rfl dX5_readP_53 ?_
        refine WS.as rfl rfl (congrArg (fun z => Value.int z :: _) (show τ.1 2 8 = nI r.2.1 from hS.2.2.1)) ?_
        skip
        refine WS.iconst (v := 1) hx dX5_readP_56 (by decide) ?_
        refine WS.iadd hx dX5_readP_57 ?_
        refine WS.as rfl rfl (congrArg (fun z => Value.int z :: _) (show (nI r.2.1) + 1 = nI (r.2.1 + 1) from nI_1 _)) ?_
        skip
        refine WS.putI hx okX5 lf5_40 rfl rfl rfl rfl dX5_readP_58 ?_
        refine WS.aload_n hx dX5_readP_61 rfl 3 rfl ?_
        refine WS.iload_n hx dX5_readP_62 rfl 4 rfl ?_
        refine WS.callVi (st := []) [.int (nI dp)] hx (hF (adv r.2) _ (hS.ad hB hlt)) okX5_readO lm5_92 rfl rfl rfl rfl (Nat.le_of_ble_eq_true rfl) dX5_readP_63 (fun v7 σ8 h9 => ?_)
        obtain ⟨rfl, ps63⟩ := h9
        show WS layC V 5 X σ8 66 [(4, .int (cm (σ0.1 3) L r.2)), (3, .int (nI i)), (2, .int (bI r.1)), (0, rf V 2), (1, .int (nI dp))] [.int (bI (F (adv r.2)).1)]
        refine WS.istore_n (lo' := [(2, .int (bI (F (adv r.2)).1)), (4, .int (cm (σ0.1 3) L r.2)), (3, .int (nI i)), (0, rf V 2), (1, .int (nI dp))]) hx dX5_readP_66 rfl (by decide) rfl ?_
        refine WS.aload_n hx dX5_readP_67 rfl 3 rfl ?_
        refine WS.iload hx dX5_readP_68 1 rfl ?_
        refine WS.ineg hx dX5_readP_70 ?_
        refine WS.as rfl rfl (congrArg (fun z => Value.int z :: _) (show -(cm (σ0.1 3) L r.2) = -(cm (σ0.1 3) L r.2) from rfl)) ?_
        skip
        refine WS.callVv (st := []) [.int (-(cm (σ0.1 3) L r.2))] hx (c_X5_write V (d + 2) σ8 σ0 d9 L hB _ ps63 (-(cm (σ0.1 3) L r.2))) okX5_write lm5_76 rfl rfl rfl rfl (Nat.le_of_ble_eq_true rfl) dX5_readP_71 (fun σ11 h12 => ?_)
        have ps71 := h12
        show WS layC V 5 X σ11 74 [(2, .int (bI (F (adv r.2)).1)), (4, .int (cm (σ0.1 3) L r.2)), (3, .int (nI i)), (0, rf V 2), (1, .int (nI dp))] []
        refine WS.iinc (v := nI (i + 1)) (lo' := [(3, .int (nI (i + 1))), (2, .int (bI (F (adv r.2)).1)), (4, .int (cm (σ0.1 3) L r.2)), (0, rf V 2), (1, .int (nI dp))]) hx dX5_readP_74 2 rfl (nI_1 i) (by decide) rfl ?_
        refine WS.goto (tgt := 8) hx dX5_readP_77 (by decide) ?_
        have hok : r.1 = true := by cases h : r.1; rw [h] at c15; exact absurd rfl c15; rfl
        rw [if_pos ⟨hok, htest⟩] at hR
        exact WS.los [0, 1, 3, 4] rfl (ih (i + 1) ((F (adv r.2)).1, wr (-(cm (σ0.1 3) L r.2)) (F (adv r.2)).2) σ11 (by omega) ps71 hR)
      · skip
        show WS layC V 5 X τ 27 [(3, .int (nI i)), (2, .int (bI r.1)), (0, rf V 2), (1, .int (nI dp))] []
        refine WS.aload_n hx dX5_readP_27 rfl 2 rfl ?_
        refine WS.callVi (st := []) [] hx (c_X5_comes V (d + 2) τ σ0 d9 L hB r.2 hS) okX5_comes lm5_53 rfl rfl rfl rfl (Nat.le_of_ble_eq_true rfl) dX5_readP_28 (fun v13 σ14 h15 => ?_)
        obtain ⟨rfl, rfl⟩ := h15
        show WS layC V 5 X τ 31 [(3, .int (nI i)), (2, .int (bI r.1)), (0, rf V 2), (1, .int (nI dp))] [.int (cm (σ0.1 3) L r.2)]
        refine WS.bipush (v := 47) hx dX5_readP_31 (by decide) ?_
        refine WS.icmp_eq (tgt := 45) hx dX5_readP_33 (by decide) (fun c33 => ?_) (fun c33 => ?_)
        · skip
          show WS layC V 5 X τ 45 [(3, .int (nI i)), (2, .int (bI r.1)), (0, rf V 2), (1, .int (nI dp))] []
          have htest : tP (cm (σ0.1 3) L r.2) = true := by unfold tP; rw [decide_eq_true_eq]; simp_all
          have hlt : r.2.1 < L := cm_lt (by intro e; rw [e] at htest; exact absurd htest (by decide))
          refine WS.aload_n hx dX5_readP_45 rfl 2 rfl ?_
          refine WS.callVi (st := []) [] hx (c_X5_comes V (d + 2) τ σ0 d9 L hB r.2 hS) okX5_comes lm5_53 rfl rfl rfl rfl (Nat.le_of_ble_eq_true rfl) dX5_readP_46 (fun v16 σ17 h18 => ?_)
          obtain ⟨rfl, rfl⟩ := h18
          show WS layC V 5 X τ 49 [(3, .int (nI i)), (2, .int (bI r.1)), (0, rf V 2), (1, .int (nI dp))] [.int (cm (σ0.1 3) L r.2)]
          refine WS.istore (lo' := [(4, .int (cm (σ0.1 3) L r.2)), (3, .int (nI i)), (2, .int (bI r.1)), (0, rf V 2), (1, .int (nI dp))]) hx dX5_readP_49 (by decide) rfl ?_
          refine WS.aload_n hx dX5_readP_51 rfl 3 rfl ?_
          refine WS.dup hx dX5_readP_52 rfl ?_
          refine WS.getI hx okX5 lf5_40 rfl rfl dX5_readP_53 ?_
          refine WS.as rfl rfl (congrArg (fun z => Value.int z :: _) (show τ.1 2 8 = nI r.2.1 from hS.2.2.1)) ?_
          skip
          refine WS.iconst (v := 1) hx dX5_readP_56 (by decide) ?_
          refine WS.iadd hx dX5_readP_57 ?_
          refine WS.as rfl rfl (congrArg (fun z => Value.int z :: _) (show (nI r.2.1) + 1 = nI (r.2.1 + 1) from nI_1 _)) ?_
          skip
          refine WS.putI hx okX5 lf5_40 rfl rfl rfl rfl dX5_readP_58 ?_
          refine WS.aload_n hx dX5_readP_61 rfl 3 rfl ?_
          refine WS.iload_n hx dX5_readP_62 rfl 4 rfl ?_
          refine WS.callVi (st := []) [.int (nI dp)] hx (hF (adv r.2) _ (hS.ad hB hlt)) okX5_readO lm5_92 rfl rfl rfl rfl (Nat.le_of_ble_eq_true rfl) dX5_readP_63 (fun v19 σ20 h21 => ?_)
          obtain ⟨rfl, ps63⟩ := h21
          show WS layC V 5 X σ20 66 [(4, .int (cm (σ0.1 3) L r.2)), (3, .int (nI i)), (2, .int (bI r.1)), (0, rf V 2), (1, .int (nI dp))] [.int (bI (F (adv r.2)).1)]
          refine WS.istore_n (lo' := [(2, .int (bI (F (adv r.2)).1)), (4, .int (cm (σ0.1 3) L r.2)), (3, .int (nI i)), (0, rf V 2), (1, .int (nI dp))]) hx dX5_readP_66 rfl (by decide) rfl ?_
          refine WS.aload_n hx dX5_readP_67 rfl 3 rfl ?_
          refine WS.iload hx dX5_readP_68 1 rfl ?_
          refine WS.ineg hx dX5_readP_70 ?_
          refine WS.as rfl rfl (congrArg (fun z => Value.int z :: _) (show -(cm (σ0.1 3) L r.2) = -(cm (σ0.1 3) L r.2) from rfl)) ?_
          skip
          refine WS.callVv (st := []) [.int (-(cm (σ0.1 3) L r.2))] hx (c_X5_write V (d + 2) σ20 σ0 d9 L hB _ ps63 (-(cm (σ0.1 3) L r.2))) okX5_write lm5_76 rfl rfl rfl rfl (Nat.le_of_ble_eq_true rfl) dX5_readP_71 (fun σ23 h24 => ?_)
          have ps71 := h24
          show WS layC V 5 X σ23 74 [(2, .int (bI (F (adv r.2)).1)), (4, .int (cm (σ0.1 3) L r.2)), (3, .int (nI i)), (0, rf V 2), (1, .int (nI dp))] []
          refine WS.iinc (v := nI (i + 1)) (lo' := [(3, .int (nI (i + 1))), (2, .int (bI (F (adv r.2)).1)), (4, .int (cm (σ0.1 3) L r.2)), (0, rf V 2), (1, .int (nI dp))]) hx dX5_readP_74 2 rfl (nI_1 i) (by decide) rfl ?_
          refine WS.goto (tgt := 8) hx dX5_readP_77 (by decide) ?_
          have hok : r.1 = true := by cases h : r.1; rw [h] at c15; exact absurd rfl c15; rfl
          rw [if_pos ⟨hok, htest⟩] at hR
          exact WS.los [0, 1, 3, 4] rfl (ih (i + 1) ((F (adv r.2)).1, wr (-(cm (σ0.1 3) L r.2)) (F (adv r.2)).2) σ23 (by omega) ps71 hR)
        · skip
          show WS layC V 5 X τ 36 [(3, .int (nI i)), (2, .int (bI r.1)), (0, rf V 2), (1, .int (nI dp))] []
          refine WS.aload_n hx dX5_readP_36 rfl 2 rfl ?_
          refine WS.callVi (st := []) [] hx (c_X5_comes V (d + 2) τ σ0 d9 L hB r.2 hS) okX5_comes lm5_53 rfl rfl rfl rfl (Nat.le_of_ble_eq_true rfl) dX5_readP_37 (fun v25 σ26 h27 => ?_)
          obtain ⟨rfl, rfl⟩ := h27
          show WS layC V 5 X τ 40 [(3, .int (nI i)), (2, .int (bI r.1)), (0, rf V 2), (1, .int (nI dp))] [.int (cm (σ0.1 3) L r.2)]
          refine WS.bipush (v := 37) hx dX5_readP_40 (by decide) ?_
          refine WS.icmp_ne (tgt := 80) hx dX5_readP_42 (by decide) (fun c42 => ?_) (fun c42 => ?_)
          · skip
            show WS layC V 5 X τ 80 [(3, .int (nI i)), (2, .int (bI r.1)), (0, rf V 2), (1, .int (nI dp))] []
            refine WS.iload_n hx dX5_readP_80 rfl 1 rfl ?_
            exact WS.zret hx he dX5_readP_81 (by cases r.1 <;> decide) (by rw [if_neg (fun q => by have h8 := q.2; unfold tP at h8; rw [decide_eq_true_eq] at h8; simp_all)] at hR; exact ⟨_, rfl, by rw [← hR], by rw [← hR]; exact hS⟩)
          · skip
            show WS layC V 5 X τ 45 [(3, .int (nI i)), (2, .int (bI r.1)), (0, rf V 2), (1, .int (nI dp))] []
            have htest : tP (cm (σ0.1 3) L r.2) = true := by unfold tP; rw [decide_eq_true_eq]; simp_all
            have hlt : r.2.1 < L := cm_lt (by intro e; rw [e] at htest; exact absurd htest (by decide))
            refine WS.aload_n hx dX5_readP_45 rfl 2 rfl ?_
            refine WS.callVi (st := []) [] hx (c_X5_comes V (d + 2) τ σ0 d9 L hB r.2 hS) okX5_comes lm5_53 rfl rfl rfl rfl (Nat.le_of_ble_eq_true rfl) dX5_readP_46 (fun v28 σ29 h30 => ?_)
            obtain ⟨rfl, rfl⟩ := h30
            show WS layC V 5 X τ 49 [(3, .int (nI i)), (2, .int (bI r.1)), (0, rf V 2), (1, .int (nI dp))] [.int (cm (σ0.1 3) L r.2)]
            refine WS.istore (lo' := [(4, .int (cm (σ0.1 3) L r.2)), (3, .int (nI i)), (2, .int (bI r.1)), (0, rf V 2), (1, .int (nI dp))]) hx dX5_readP_49 (by decide) rfl ?_
            refine WS.aload_n hx dX5_readP_51 rfl 3 rfl ?_
            refine WS.dup hx dX5_readP_52 rfl ?_
            refine WS.getI hx okX5 lf5_40 rfl rfl dX5_readP_53 ?_
            refine WS.as rfl rfl (congrArg (fun z => Value.int z :: _) (show τ.1 2 8 = nI r.2.1 from hS.2.2.1)) ?_
            skip
            refine WS.iconst (v := 1) hx dX5_readP_56 (by decide) ?_
            refine WS.iadd hx dX5_readP_57 ?_
            refine WS.as rfl rfl (congrArg (fun z => Value.int z :: _) (show (nI r.2.1) + 1 = nI (r.2.1 + 1) from nI_1 _)) ?_
            skip
            refine WS.putI hx okX5 lf5_40 rfl rfl rfl rfl dX5_readP_58 ?_
            refine WS.aload_n hx dX5_readP_61 rfl 3 rfl ?_
            refine WS.iload_n hx dX5_readP_62 rfl 4 rfl ?_
            refine WS.callVi (st := []) [.int (nI dp)] hx (hF (adv r.2) _ (hS.ad hB hlt)) okX5_readO lm5_92 rfl rfl rfl rfl (Nat.le_of_ble_eq_true rfl) dX5_readP_63 (fun v31 σ32 h33 => ?_)
            obtain ⟨rfl, ps63⟩ := h33
            show WS layC V 5 X σ32 66 [(4, .int (cm (σ0.1 3) L r.2)), (3, .int (nI i)), (2, .int (bI r.1)), (0, rf V 2), (1, .int (nI dp))] [.int (bI (F (adv r.2)).1)]
            refine WS.istore_n (lo' := [(2, .int (bI (F (adv r.2)).1)), (4, .int (cm (σ0.1 3) L r.2)), (3, .int (nI i)), (0, rf V 2), (1, .int (nI dp))]) hx dX5_readP_66 rfl (by decide) rfl ?_
            refine WS.aload_n hx dX5_readP_67 rfl 3 rfl ?_
            refine WS.iload hx dX5_readP_68 1 rfl ?_
            refine WS.ineg hx dX5_readP_70 ?_
            refine WS.as rfl rfl (congrArg (fun z => Value.int z :: _) (show -(cm (σ0.1 3) L r.2) = -(cm (σ0.1 3) L r.2) from rfl)) ?_
            skip
            refine WS.callVv (st := []) [.int (-(cm (σ0.1 3) L r.2))] hx (c_X5_write V (d + 2) σ32 σ0 d9 L hB _ ps63 (-(cm (σ0.1 3) L r.2))) okX5_write lm5_76 rfl rfl rfl rfl (Nat.le_of_ble_eq_true rfl) dX5_readP_71 (fun σ35 h36 => ?_)
            have ps71 := h36
            show WS layC V 5 X σ35 74 [(2, .int (bI (F (adv r.2)).1)), (4, .int (cm (σ0.1 3) L r.2)), (3, .int (nI i)), (0, rf V 2), (1, .int (nI dp))] []
            refine WS.iinc (v := nI (i + 1)) (lo' := [(3, .int (nI (i + 1))), (2, .int (bI (F (adv r.2)).1)), (4, .int (cm (σ0.1 3) L r.2)), (0, rf V 2), (1, .int (nI dp))]) hx dX5_readP_74 2 rfl (nI_1 i) (by decide) rfl ?_
            refine WS.goto (tgt := 8) hx dX5_readP_77 (by decide) ?_
            have hok : r.1 = true := by cases h : r.1; rw [h] at c15; exact absurd rfl c15; rfl
            rw [if_pos ⟨hok, htest⟩] at hR
            exact WS.los [0, 1, 3, 4] rfl (ih (i + 1) ((F (adv r.2)).1, wr (-(cm (σ0.1 3) L r.2)) (F (adv r.2)).2) σ35 (by omega) ps71 hR)
set_option maxHeartbeats 1000000 in
theorem c_X5_readP (V : Vt) (d : Nat) (σ : Sg) (σ0 : Sg) (d9 L : Nat) (hB : PB V σ0 d9 L) (dp : Nat) (F : Ps → Bool × Ps) (hF : ∀ (s : Ps) (τ : Sg), PS σ0 τ d9 L s → CT layC V mX5_readO (d + 2) [rf V 2, .int (nI dp)] τ (Ri fun v σ' => bI (F s).1 = v ∧ PS σ0 σ' d9 L (F s).2)) (s : Ps) (hS : PS σ0 σ d9 L s) : CT layC V mX5_readP (d + 3) [rf V 2, .int (nI dp)] σ (Ri fun v σ' => bI (lpF (σ0.1 3) L tP F 120 (F s)).1 = v ∧ PS σ0 σ' d9 L (lpF (σ0.1 3) L tP F 120 (F s)).2) := by
  refine CT.of (own := RX5) rfl (by decide) (Nat.le_of_ble_eq_true rfl) (fun X (hx : Ok V RX5 cX5_readP 5 (d + 3) X) (he : En layC V (some .boolean) (Ri fun v σ' => bI (lpF (σ0.1 3) L tP F 120 (F s)).1 = v ∧ PS σ0 σ' d9 L (lpF (σ0.1 3) L tP F 120 (F s)).2) X) => ?_)
  change WS layC V 5 X σ 0 [(0, rf V 2), (1, .int (nI dp))] []
  refine WS.aload_n hx dX5_readP_0 rfl 0 rfl ?_
  refine WS.iload_n hx dX5_readP_1 rfl 1 rfl ?_
  refine WS.callVi (st := []) [.int (nI dp)] hx (hF s _ hS) okX5_readO lm5_92 rfl rfl rfl rfl (Nat.le_of_ble_eq_true rfl) dX5_readP_2 (fun v1 σ2 h3 => ?_)
  obtain ⟨rfl, ps2⟩ := h3
  show WS layC V 5 X σ2 5 [(0, rf V 2), (1, .int (nI dp))] [.int (bI (F s).1)]
  refine WS.istore_n (lo' := [(2, .int (bI (F s).1)), (0, rf V 2), (1, .int (nI dp))]) hx dX5_readP_5 rfl (by decide) rfl ?_
  refine WS.iconst (v := 0) hx dX5_readP_6 (by decide) ?_
  refine WS.istore_n (lo' := [(3, .int 0), (2, .int (bI (F s).1)), (0, rf V 2), (1, .int (nI dp))]) hx dX5_readP_7 rfl (by decide) rfl ?_
  exact WS.los [0, 1, 2, 3] rfl (lp_X5_readP V d σ0 d9 L hB dp F hF _ X hx he 120 0 (F s) σ2 (by decide) ps2 rfl)
set_option maxHeartbeats 1000000 in
theorem lp_X5_readS (V : Vt) (d : Nat) (σ0 : Sg) (d9 L : Nat) (hB : PB V σ0 d9 L) (dp : Nat) (F : Ps → Bool × Ps) (hF : ∀ (s : Ps) (τ : Sg), PS σ0 τ d9 L s → CT layC V mX5_readP (d + 3) [rf V 2, .int (nI dp)] τ (Ri fun v σ' => bI (F s).1 = v ∧ PS σ0 σ' d9 L (F s).2)) (R : Bool × Ps) (X : Xt) (hx : Ok V RX5 cX5_readS 5 (d + 4) X) (he : En layC V (some .boolean) (Ri fun v σ' => bI R.1 = v ∧ PS σ0 σ' d9 L R.2) X) : ∀ (u i : Nat) (r : Bool × Ps) (τ : Sg), i + u = 120 → PS σ0 τ d9 L r.2 → lpF (σ0.1 3) L tS F u r = R → WS layC V 5 X τ 8 [(3, .int (nI i)), (2, .int (bI r.1)), (0, rf V 2), (1, .int (nI dp))] [] := by
  intro u
  induction u with
  | zero =>
    intro i r τ hiu hS hR
    have hiI : (nI i).toInt = (i : Int) := nI_c (by omega)
    refine WS.iload_n hx dX5_readS_8 rfl 0 rfl ?_
    refine WS.bipush (v := 120) hx dX5_readS_9 (by decide) ?_
    refine WS.icmp_ge (tgt := 71) hx dX5_readS_11 (by decide) (fun c11 => ?_) (fun c11 => by exfalso; (try simp only [i_le, i_lt, i_eq, tI_0, tI_1, tI_43, tI_45, tI_120] at c11); (try simp only [i_le, i_lt, i_eq, tI_0, tI_1, tI_43, tI_45, tI_120]); omega)
    refine WS.iload_n hx dX5_readS_71 rfl 1 rfl ?_
    exact WS.zret hx he dX5_readS_72 (by cases r.1 <;> decide) ⟨_, rfl, by rw [← hR]; rfl, by rw [← hR]; exact hS⟩
  | succ u ih =>
    intro i r τ hiu hS hR
    have hiI : (nI i).toInt = (i : Int) := nI_c (by omega)
    unfold lpF at hR
    refine WS.iload_n hx dX5_readS_8 rfl 0 rfl ?_
    refine WS.bipush (v := 120) hx dX5_readS_9 (by decide) ?_
    refine WS.icmp_ge (tgt := 71) hx dX5_readS_11 (by decide) (fun c11 => by exfalso; (try simp only [i_le, i_lt, i_eq, tI_0, tI_1, tI_43, tI_45, tI_120] at c11); (try simp only [i_le, i_lt, i_eq, tI_0, tI_1, tI_43, tI_45, tI_120]); omega) (fun c11 => ?_)
    refine WS.iload_n hx dX5_readS_14 rfl 1 rfl ?_
    refine WS.if_eq (tgt := 71) hx dX5_readS_15 (by decide) (fun c15 => ?_) (fun c15 => ?_)
    · skip
      show WS layC V 5 X τ 71 [(3, .int (nI i)), (2, .int (bI r.1)), (0, rf V 2), (1, .int (nI dp))] []
      refine WS.iload_n hx dX5_readS_71 rfl 1 rfl ?_
      exact WS.zret hx he dX5_readS_72 (by cases r.1 <;> decide) (by rw [if_neg (fun q => by have h8 := q.1; rw [h8] at c15; exact absurd c15 (by decide))] at hR; exact ⟨_, rfl, by rw [← hR], by rw [← hR]; exact hS⟩)
    · skip
      show WS layC V 5 X τ 18 [(3, .int (nI i)), (2, .int (bI r.1)), (0, rf V 2), (1, .int (nI dp))] []
      refine WS.aload_n hx dX5_readS_18 rfl 2 rfl ?_
      refine WS.callVi (st := []) [] hx (c_X5_comes V (d + 3) τ σ0 d9 L hB r.2 hS) okX5_comes lm5_53 rfl rfl rfl rfl (Nat.le_of_ble_eq_true rfl) dX5_readS_19 (fun v1 σ2 h3 => ?_)
      obtain ⟨rfl, rfl⟩ := h3
      show WS layC V 5 X τ 22 [(3, .int (nI i)), (2, .int (bI r.1)), (0, rf V 2), (1, .int (nI dp))] [.int (cm (σ0.1 3) L r.2)]
      refine WS.bipush (v := 43) hx dX5_readS_22 (by decide) ?_
      refine WS.icmp_eq (tgt := 36) hx dX5_readS_24 (by decide) (fun c24 => ?_) (fun c24 => ?_)
      · skip
        show WS layC V 5 X τ 36 [(3, .int (nI i)), (2, .int (bI r.1)), (0, rf V 2), (1, .int (nI dp))] []
        have htest : tS (cm (σ0.1 3) L r.2) = true := by unfold tS; rw [decide_eq_true_eq]; simp_all
        have hlt : r.2.1 < L := cm_lt (by intro e; rw [e] at htest; exact absurd htest (by decide))
        refine WS.aload_n hx dX5_readS_36 rfl 2 rfl ?_
        refine WS.callVi (st := []) [] hx (c_X5_comes V (d + 3) τ σ0 d9 L hB r.2 hS) okX5_comes lm5_53 rfl rfl rfl rfl (Nat.le_of_ble_eq_true rfl) dX5_readS_37 (fun v4 σ5 h6 => ?_)
        obtain ⟨rfl, rfl⟩ := h6
        show WS layC V 5 X τ 40 [(3, .int (nI i)), (2, .int (bI r.1)), (0, rf V 2), (1, .int (nI dp))] [.int (cm (σ0.1 3) L r.2)]
        refine WS.istore (lo' := [(4, .int (cm (σ0.1 3) L r.2)), (3, .int (nI i)), (2, .int (bI r.1)), (0, rf V 2), (1, .int (nI dp))]) hx dX5_readS_40 (by decide) rfl ?_
        refine WS.aload_n hx dX5_readS_42 rfl 3 rfl ?_
        refine WS.dup hx dX5_readS_43 rfl ?_
        refine WS.getI hx okX5 lf5_40 rfl rfl dX5_readS_44 ?_
        refine WS.as rfl rfl (congrArg (fun z => Value.int z :: _) (show τ.1 2 8 = nI r.2.1 from hS.2.2.1)) ?_
        skip
        refine WS.iconst (v := 1) hx dX5_readS_47 (by decide) ?_
        refine WS.iadd hx dX5_readS_48 ?_
        refine WS.as rfl rfl (congrArg (fun z => Value.int z :: _) (show (nI r.2.1) + 1 = nI (r.2.1 + 1) from nI_1 _)) ?_
        skip
        refine WS.putI hx okX5 lf5_40 rfl rfl rfl rfl dX5_readS_49 ?_
        refine WS.aload_n hx dX5_readS_52 rfl 3 rfl ?_
        refine WS.iload_n hx dX5_readS_53 rfl 4 rfl ?_
        refine WS.callVi (st := []) [.int (nI dp)] hx (hF (adv r.2) _ (hS.ad hB hlt)) okX5_readP lm5_89 rfl rfl rfl rfl (Nat.le_of_ble_eq_true rfl) dX5_readS_54 (fun v7 σ8 h9 => ?_)
        obtain ⟨rfl, ps54⟩ := h9
        show WS layC V 5 X σ8 57 [(4, .int (cm (σ0.1 3) L r.2)), (3, .int (nI i)), (2, .int (bI r.1)), (0, rf V 2), (1, .int (nI dp))] [.int (bI (F (adv r.2)).1)]
        refine WS.istore_n (lo' := [(2, .int (bI (F (adv r.2)).1)), (4, .int (cm (σ0.1 3) L r.2)), (3, .int (nI i)), (0, rf V 2), (1, .int (nI dp))]) hx dX5_readS_57 rfl (by decide) rfl ?_
        refine WS.aload_n hx dX5_readS_58 rfl 3 rfl ?_
        refine WS.iload hx dX5_readS_59 1 rfl ?_
        refine WS.ineg hx dX5_readS_61 ?_
        refine WS.as rfl rfl (congrArg (fun z => Value.int z :: _) (show -(cm (σ0.1 3) L r.2) = -(cm (σ0.1 3) L r.2) from rfl)) ?_
        skip
        refine WS.callVv (st := []) [.int (-(cm (σ0.1 3) L r.2))] hx (c_X5_write V (d + 3) σ8 σ0 d9 L hB _ ps54 (-(cm (σ0.1 3) L r.2))) okX5_write lm5_76 rfl rfl rfl rfl (Nat.le_of_ble_eq_true rfl) dX5_readS_62 (fun σ11 h12 => ?_)
        have ps62 := h12
        show WS layC V 5 X σ11 65 [(2, .int (bI (F (adv r.2)).1)), (4, .int (cm (σ0.1 3) L r.2)), (3, .int (nI i)), (0, rf V 2), (1, .int (nI dp))] []
        refine WS.iinc (v := nI (i + 1)) (lo' := [(3, .int (nI (i + 1))), (2, .int (bI (F (adv r.2)).1)), (4, .int (cm (σ0.1 3) L r.2)), (0, rf V 2), (1, .int (nI dp))]) hx dX5_readS_65 2 rfl (nI_1 i) (by decide) rfl ?_
        refine WS.goto (tgt := 8) hx dX5_readS_68 (by decide) ?_
        have hok : r.1 = true := by cases h : r.1; rw [h] at c15; exact absurd rfl c15; rfl
        rw [if_pos ⟨hok, htest⟩] at hR
        exact WS.los [0, 1, 3, 4] rfl (ih (i + 1) ((F (adv r.2)).1, wr (-(cm (σ0.1 3) L r.2)) (F (adv r.2)).2) σ11 (by omega) ps62 hR)
      · skip
        show WS layC V 5 X τ 27 [(3, .int (nI i)), (2, .int (bI r.1)), (0, rf V 2), (1, .int (nI dp))] []
        refine WS.aload_n hx dX5_readS_27 rfl 2 rfl ?_
        refine WS.callVi (st := []) [] hx (c_X5_comes V (d + 3) τ σ0 d9 L hB r.2 hS) okX5_comes lm5_53 rfl rfl rfl rfl (Nat.le_of_ble_eq_true rfl) dX5_readS_28 (fun v13 σ14 h15 => ?_)
        obtain ⟨rfl, rfl⟩ := h15
        show WS layC V 5 X τ 31 [(3, .int (nI i)), (2, .int (bI r.1)), (0, rf V 2), (1, .int (nI dp))] [.int (cm (σ0.1 3) L r.2)]
        refine WS.bipush (v := 45) hx dX5_readS_31 (by decide) ?_
        refine WS.icmp_ne (tgt := 71) hx dX5_readS_33 (by decide) (fun c33 => ?_) (fun c33 => ?_)
        · skip
          show WS layC V 5 X τ 71 [(3, .int (nI i)), (2, .int (bI r.1)), (0, rf V 2), (1, .int (nI dp))] []
          refine WS.iload_n hx dX5_readS_71 rfl 1 rfl ?_
          exact WS.zret hx he dX5_readS_72 (by cases r.1 <;> decide) (by rw [if_neg (fun q => by have h8 := q.2; unfold tS at h8; rw [decide_eq_true_eq] at h8; simp_all)] at hR; exact ⟨_, rfl, by rw [← hR], by rw [← hR]; exact hS⟩)
        · skip
          show WS layC V 5 X τ 36 [(3, .int (nI i)), (2, .int (bI r.1)), (0, rf V 2), (1, .int (nI dp))] []
          have htest : tS (cm (σ0.1 3) L r.2) = true := by unfold tS; rw [decide_eq_true_eq]; simp_all
          have hlt : r.2.1 < L := cm_lt (by intro e; rw [e] at htest; exact absurd htest (by decide))
          refine WS.aload_n hx dX5_readS_36 rfl 2 rfl ?_
          refine WS.callVi (st := []) [] hx (c_X5_comes V (d + 3) τ σ0 d9 L hB r.2 hS) okX5_comes lm5_53 rfl rfl rfl rfl (Nat.le_of_ble_eq_true rfl) dX5_readS_37 (fun v16 σ17 h18 => ?_)
          obtain ⟨rfl, rfl⟩ := h18
          show WS layC V 5 X τ 40 [(3, .int (nI i)), (2, .int (bI r.1)), (0, rf V 2), (1, .int (nI dp))] [.int (cm (σ0.1 3) L r.2)]
          refine WS.istore (lo' := [(4, .int (cm (σ0.1 3) L r.2)), (3, .int (nI i)), (2, .int (bI r.1)), (0, rf V 2), (1, .int (nI dp))]) hx dX5_readS_40 (by decide) rfl ?_
          refine WS.aload_n hx dX5_readS_42 rfl 3 rfl ?_
          refine WS.dup hx dX5_readS_43 rfl ?_
          refine WS.getI hx okX5 lf5_40 rfl rfl dX5_readS_44 ?_
          refine WS.as rfl rfl (congrArg (fun z => Value.int z :: _) (show τ.1 2 8 = nI r.2.1 from hS.2.2.1)) ?_
          skip
          refine WS.iconst (v := 1) hx dX5_readS_47 (by decide) ?_
          refine WS.iadd hx dX5_readS_48 ?_
          refine WS.as rfl rfl (congrArg (fun z => Value.int z :: _) (show (nI r.2.1) + 1 = nI (r.2.1 + 1) from nI_1 _)) ?_
          skip
          refine WS.putI hx okX5 lf5_40 rfl rfl rfl rfl dX5_readS_49 ?_
          refine WS.aload_n hx dX5_readS_52 rfl 3 rfl ?_
          refine WS.iload_n hx dX5_readS_53 rfl 4 rfl ?_
          refine WS.callVi (st := []) [.int (nI dp)] hx (hF (adv r.2) _ (hS.ad hB hlt)) okX5_readP lm5_89 rfl rfl rfl rfl (Nat.le_of_ble_eq_true rfl) dX5_readS_54 (fun v19 σ20 h21 => ?_)
          obtain ⟨rfl, ps54⟩ := h21
          show WS layC V 5 X σ20 57 [(4, .int (cm (σ0.1 3) L r.2)), (3, .int (nI i)), (2, .int (bI r.1)), (0, rf V 2), (1, .int (nI dp))] [.int (bI (F (adv r.2)).1)]
          refine WS.istore_n (lo' := [(2, .int (bI (F (adv r.2)).1)), (4, .int (cm (σ0.1 3) L r.2)), (3, .int (nI i)), (0, rf V 2), (1, .int (nI dp))]) hx dX5_readS_57 rfl (by decide) rfl ?_
          refine WS.aload_n hx dX5_readS_58 rfl 3 rfl ?_
          refine WS.iload hx dX5_readS_59 1 rfl ?_
          refine WS.ineg hx dX5_readS_61 ?_
          refine WS.as rfl rfl (congrArg (fun z => Value.int z :: _) (show -(cm (σ0.1 3) L r.2) = -(cm (σ0.1 3) L r.2) from rfl)) ?_
          skip
          refine WS.callVv (st := []) [.int (-(cm (σ0.1 3) L r.2))] hx (c_X5_write V (d + 3) σ20 σ0 d9 L hB _ ps54 (-(cm (σ0.1 3) L r.2))) okX5_write lm5_76 rfl rfl rfl rfl (Nat.le_of_ble_eq_true rfl) dX5_readS_62 (fun σ23 h24 => ?_)
          have ps62 := h24
          show WS layC V 5 X σ23 65 [(2, .int (bI (F (adv r.2)).1)), (4, .int (cm (σ0.1 3) L r.2)), (3, .int (nI i)), (0, rf V 2), (1, .int (nI dp))] []
          refine WS.iinc (v := nI (i + 1)) (lo' := [(3, .int (nI (i + 1))), (2, .int (bI (F (adv r.2)).1)), (4, .int (cm (σ0.1 3) L r.2)), (0, rf V 2), (1, .int (nI dp))]) hx dX5_readS_65 2 rfl (nI_1 i) (by decide) rfl ?_
          refine WS.goto (tgt := 8) hx dX5_readS_68 (by decide) ?_
          have hok : r.1 = true := by cases h : r.1; rw [h] at c15; exact absurd rfl c15; rfl
          rw [if_pos ⟨hok, htest⟩] at hR
          exact WS.los [0, 1, 3, 4] rfl (ih (i + 1) ((F (adv r.2)).1, wr (-(cm (σ0.1 3) L r.2)) (F (adv r.2)).2) σ23 (by omega) ps62 hR)
set_option maxHeartbeats 1000000 in
theorem c_X5_readS (V : Vt) (d : Nat) (σ : Sg) (σ0 : Sg) (d9 L : Nat) (hB : PB V σ0 d9 L) (dp : Nat) (F : Ps → Bool × Ps) (hF : ∀ (s : Ps) (τ : Sg), PS σ0 τ d9 L s → CT layC V mX5_readP (d + 3) [rf V 2, .int (nI dp)] τ (Ri fun v σ' => bI (F s).1 = v ∧ PS σ0 σ' d9 L (F s).2)) (s : Ps) (hS : PS σ0 σ d9 L s) : CT layC V mX5_readS (d + 4) [rf V 2, .int (nI dp)] σ (Ri fun v σ' => bI (lpF (σ0.1 3) L tS F 120 (F s)).1 = v ∧ PS σ0 σ' d9 L (lpF (σ0.1 3) L tS F 120 (F s)).2) := by
  refine CT.of (own := RX5) rfl (by decide) (Nat.le_of_ble_eq_true rfl) (fun X (hx : Ok V RX5 cX5_readS 5 (d + 4) X) (he : En layC V (some .boolean) (Ri fun v σ' => bI (lpF (σ0.1 3) L tS F 120 (F s)).1 = v ∧ PS σ0 σ' d9 L (lpF (σ0.1 3) L tS F 120 (F s)).2) X) => ?_)
  change WS layC V 5 X σ 0 [(0, rf V 2), (1, .int (nI dp))] []
  refine WS.aload_n hx dX5_readS_0 rfl 0 rfl ?_
  refine WS.iload_n hx dX5_readS_1 rfl 1 rfl ?_
  refine WS.callVi (st := []) [.int (nI dp)] hx (hF s _ hS) okX5_readP lm5_89 rfl rfl rfl rfl (Nat.le_of_ble_eq_true rfl) dX5_readS_2 (fun v1 σ2 h3 => ?_)
  obtain ⟨rfl, ps2⟩ := h3
  show WS layC V 5 X σ2 5 [(0, rf V 2), (1, .int (nI dp))] [.int (bI (F s).1)]
  refine WS.istore_n (lo' := [(2, .int (bI (F s).1)), (0, rf V 2), (1, .int (nI dp))]) hx dX5_readS_5 rfl (by decide) rfl ?_
  refine WS.iconst (v := 0) hx dX5_readS_6 (by decide) ?_
  refine WS.istore_n (lo' := [(3, .int 0), (2, .int (bI (F s).1)), (0, rf V 2), (1, .int (nI dp))]) hx dX5_readS_7 rfl (by decide) rfl ?_
  exact WS.los [0, 1, 2, 3] rfl (lp_X5_readS V d σ0 d9 L hB dp F hF _ X hx he 120 0 (F s) σ2 (by decide) ps2 rfl)
set_option maxHeartbeats 1000000 in
theorem c_X5_readB (V : Vt) (d : Nat) (σ : Sg) (σ0 : Sg) (d9 L : Nat) (hB : PB V σ0 d9 L) (dp : Nat) (F : Ps → Bool × Ps) (hF : ∀ (s : Ps) (τ : Sg), PS σ0 τ d9 L s → CT layC V mX5_readS (d + 4) [rf V 2, .int (nI dp)] τ (Ri fun v σ' => bI (F s).1 = v ∧ PS σ0 σ' d9 L (F s).2)) (s : Ps) (hS : PS σ0 σ d9 L s) : CT layC V mX5_readB (d + 5) [rf V 2, .int (nI dp)] σ (Ri fun v σ' => bI ((if (F s).1 = true ∧ tB (cm (σ0.1 3) L (F s).2) = true then ((F (adv (F s).2)).1, wr (-(cm (σ0.1 3) L (F s).2)) (F (adv (F s).2)).2) else F s)).1 = v ∧ PS σ0 σ' d9 L ((if (F s).1 = true ∧ tB (cm (σ0.1 3) L (F s).2) = true then ((F (adv (F s).2)).1, wr (-(cm (σ0.1 3) L (F s).2)) (F (adv (F s).2)).2) else F s)).2) := by
  refine CT.of (own := RX5) rfl (by decide) (Nat.le_of_ble_eq_true rfl) (fun X (hx : Ok V RX5 cX5_readB 4 (d + 5) X) (he : En layC V (some .boolean) (Ri fun v σ' => bI ((if (F s).1 = true ∧ tB (cm (σ0.1 3) L (F s).2) = true then ((F (adv (F s).2)).1, wr (-(cm (σ0.1 3) L (F s).2)) (F (adv (F s).2)).2) else F s)).1 = v ∧ PS σ0 σ' d9 L ((if (F s).1 = true ∧ tB (cm (σ0.1 3) L (F s).2) = true then ((F (adv (F s).2)).1, wr (-(cm (σ0.1 3) L (F s).2)) (F (adv (F s).2)).2) else F s)).2) X) => ?_)
  change WS layC V 4 X σ 0 [(0, rf V 2), (1, .int (nI dp))] []
  refine WS.aload_n hx dX5_readB_0 rfl 0 rfl ?_
  refine WS.iload_n hx dX5_readB_1 rfl 1 rfl ?_
  refine WS.callVi (st := []) [.int (nI dp)] hx (hF s _ hS) okX5_readS lm5_86 rfl rfl rfl rfl (Nat.le_of_ble_eq_true rfl) dX5_readB_2 (fun v1 σ2 h3 => ?_)
  obtain ⟨rfl, ps2⟩ := h3
  show WS layC V 4 X σ2 5 [(0, rf V 2), (1, .int (nI dp))] [.int (bI (F s).1)]
  refine WS.istore_n (lo' := [(2, .int (bI (F s).1)), (0, rf V 2), (1, .int (nI dp))]) hx dX5_readB_5 rfl (by decide) rfl ?_
  refine WS.aload_n hx dX5_readB_6 rfl 1 rfl ?_
  refine WS.callVi (st := []) [] hx (c_X5_comes V (d + 4) σ2 σ0 d9 L hB (F s).2 ps2) okX5_comes lm5_53 rfl rfl rfl rfl (Nat.le_of_ble_eq_true rfl) dX5_readB_7 (fun v4 σ5 h6 => ?_)
  obtain ⟨rfl, rfl⟩ := h6
  show WS layC V 4 X σ2 10 [(2, .int (bI (F s).1)), (0, rf V 2), (1, .int (nI dp))] [.int (cm (σ0.1 3) L (F s).2)]
  refine WS.istore_n (lo' := [(3, .int (cm (σ0.1 3) L (F s).2)), (2, .int (bI (F s).1)), (0, rf V 2), (1, .int (nI dp))]) hx dX5_readB_10 rfl (by decide) rfl ?_
  refine WS.iload_n hx dX5_readB_11 rfl 1 rfl ?_
  refine WS.if_eq (tgt := 55) hx dX5_readB_12 (by decide) (fun c12 => ?_) (fun c12 => ?_)
  · skip
    show WS layC V 4 X σ2 55 [(3, .int (cm (σ0.1 3) L (F s).2)), (2, .int (bI (F s).1)), (0, rf V 2), (1, .int (nI dp))] []
    rw [if_neg (fun q => by have h8 := q.1; rw [h8] at c12; exact absurd c12 (by decide))] at he
    refine WS.iload_n hx dX5_readB_55 rfl 1 rfl ?_
    exact WS.zret hx he dX5_readB_56 (by first | (cases (F s).1 <;> decide) | (cases (F (adv (F s).2)).1 <;> decide)) ⟨_, rfl, rfl, ps2⟩
  · skip
    show WS layC V 4 X σ2 15 [(3, .int (cm (σ0.1 3) L (F s).2)), (2, .int (bI (F s).1)), (0, rf V 2), (1, .int (nI dp))] []
    refine WS.iload_n hx dX5_readB_15 rfl 0 rfl ?_
    refine WS.bipush (v := 60) hx dX5_readB_16 (by decide) ?_
    refine WS.icmp_eq (tgt := 33) hx dX5_readB_18 (by decide) (fun c18 => ?_) (fun c18 => ?_)
    · skip
      show WS layC V 4 X σ2 33 [(3, .int (cm (σ0.1 3) L (F s).2)), (2, .int (bI (F s).1)), (0, rf V 2), (1, .int (nI dp))] []
      have hok : (F s).1 = true := by cases h : (F s).1; rw [h] at c12; exact absurd rfl c12; rfl
      have htest : tB (cm (σ0.1 3) L (F s).2) = true := by unfold tB; rw [decide_eq_true_eq]; simp_all
      have hlt : (F s).2.1 < L := cm_lt (by intro e; rw [e] at htest; exact absurd htest (by decide))
      rw [if_pos ⟨hok, htest⟩] at he
      refine WS.aload_n hx dX5_readB_33 rfl 2 rfl ?_
      refine WS.dup hx dX5_readB_34 rfl ?_
      refine WS.getI hx okX5 lf5_40 rfl rfl dX5_readB_35 ?_
      refine WS.as rfl rfl (congrArg (fun z => Value.int z :: _) (show σ2.1 2 8 = nI (F s).2.1 from ps2.2.2.1)) ?_
      skip
      refine WS.iconst (v := 1) hx dX5_readB_38 (by decide) ?_
      refine WS.iadd hx dX5_readB_39 ?_
      refine WS.as rfl rfl (congrArg (fun z => Value.int z :: _) (show (nI (F s).2.1) + 1 = nI ((F s).2.1 + 1) from nI_1 _)) ?_
      skip
      refine WS.putI hx okX5 lf5_40 rfl rfl rfl rfl dX5_readB_40 ?_
      refine WS.aload_n hx dX5_readB_43 rfl 2 rfl ?_
      refine WS.iload_n hx dX5_readB_44 rfl 3 rfl ?_
      refine WS.callVi (st := []) [.int (nI dp)] hx (hF (adv (F s).2) _ (ps2.ad hB hlt)) okX5_readS lm5_86 rfl rfl rfl rfl (Nat.le_of_ble_eq_true rfl) dX5_readB_45 (fun v7 σ8 h9 => ?_)
      obtain ⟨rfl, ps45⟩ := h9
      show WS layC V 4 X σ8 48 [(3, .int (cm (σ0.1 3) L (F s).2)), (2, .int (bI (F s).1)), (0, rf V 2), (1, .int (nI dp))] [.int (bI (F (adv (F s).2)).1)]
      refine WS.istore_n (lo' := [(2, .int (bI (F (adv (F s).2)).1)), (3, .int (cm (σ0.1 3) L (F s).2)), (0, rf V 2), (1, .int (nI dp))]) hx dX5_readB_48 rfl (by decide) rfl ?_
      refine WS.aload_n hx dX5_readB_49 rfl 2 rfl ?_
      refine WS.iload_n hx dX5_readB_50 rfl 1 rfl ?_
      refine WS.ineg hx dX5_readB_51 ?_
      refine WS.as rfl rfl (congrArg (fun z => Value.int z :: _) (show -(cm (σ0.1 3) L (F s).2) = -(cm (σ0.1 3) L (F s).2) from rfl)) ?_
      skip
      refine WS.callVv (st := []) [.int (-(cm (σ0.1 3) L (F s).2))] hx (c_X5_write V (d + 4) σ8 σ0 d9 L hB _ ps45 (-(cm (σ0.1 3) L (F s).2))) okX5_write lm5_76 rfl rfl rfl rfl (Nat.le_of_ble_eq_true rfl) dX5_readB_52 (fun σ11 h12 => ?_)
      have ps52 := h12
      show WS layC V 4 X σ11 55 [(2, .int (bI (F (adv (F s).2)).1)), (3, .int (cm (σ0.1 3) L (F s).2)), (0, rf V 2), (1, .int (nI dp))] []
      refine WS.iload_n hx dX5_readB_55 rfl 0 rfl ?_
      exact WS.zret hx he dX5_readB_56 (by first | (cases (F s).1 <;> decide) | (cases (F (adv (F s).2)).1 <;> decide)) ⟨_, rfl, rfl, ps52⟩
    · skip
      show WS layC V 4 X σ2 21 [(3, .int (cm (σ0.1 3) L (F s).2)), (2, .int (bI (F s).1)), (0, rf V 2), (1, .int (nI dp))] []
      refine WS.iload_n hx dX5_readB_21 rfl 0 rfl ?_
      refine WS.bipush (v := 61) hx dX5_readB_22 (by decide) ?_
      refine WS.icmp_eq (tgt := 33) hx dX5_readB_24 (by decide) (fun c24 => ?_) (fun c24 => ?_)
      · skip
        show WS layC V 4 X σ2 33 [(3, .int (cm (σ0.1 3) L (F s).2)), (2, .int (bI (F s).1)), (0, rf V 2), (1, .int (nI dp))] []
        have hok : (F s).1 = true := by cases h : (F s).1; rw [h] at c12; exact absurd rfl c12; rfl
        have htest : tB (cm (σ0.1 3) L (F s).2) = true := by unfold tB; rw [decide_eq_true_eq]; simp_all
        have hlt : (F s).2.1 < L := cm_lt (by intro e; rw [e] at htest; exact absurd htest (by decide))
        rw [if_pos ⟨hok, htest⟩] at he
        refine WS.aload_n hx dX5_readB_33 rfl 2 rfl ?_
        refine WS.dup hx dX5_readB_34 rfl ?_
        refine WS.getI hx okX5 lf5_40 rfl rfl dX5_readB_35 ?_
        refine WS.as rfl rfl (congrArg (fun z => Value.int z :: _) (show σ2.1 2 8 = nI (F s).2.1 from ps2.2.2.1)) ?_
        skip
        refine WS.iconst (v := 1) hx dX5_readB_38 (by decide) ?_
        refine WS.iadd hx dX5_readB_39 ?_
        refine WS.as rfl rfl (congrArg (fun z => Value.int z :: _) (show (nI (F s).2.1) + 1 = nI ((F s).2.1 + 1) from nI_1 _)) ?_
        skip
        refine WS.putI hx okX5 lf5_40 rfl rfl rfl rfl dX5_readB_40 ?_
        refine WS.aload_n hx dX5_readB_43 rfl 2 rfl ?_
        refine WS.iload_n hx dX5_readB_44 rfl 3 rfl ?_
        refine WS.callVi (st := []) [.int (nI dp)] hx (hF (adv (F s).2) _ (ps2.ad hB hlt)) okX5_readS lm5_86 rfl rfl rfl rfl (Nat.le_of_ble_eq_true rfl) dX5_readB_45 (fun v13 σ14 h15 => ?_)
        obtain ⟨rfl, ps45⟩ := h15
        show WS layC V 4 X σ14 48 [(3, .int (cm (σ0.1 3) L (F s).2)), (2, .int (bI (F s).1)), (0, rf V 2), (1, .int (nI dp))] [.int (bI (F (adv (F s).2)).1)]
        refine WS.istore_n (lo' := [(2, .int (bI (F (adv (F s).2)).1)), (3, .int (cm (σ0.1 3) L (F s).2)), (0, rf V 2), (1, .int (nI dp))]) hx dX5_readB_48 rfl (by decide) rfl ?_
        refine WS.aload_n hx dX5_readB_49 rfl 2 rfl ?_
        refine WS.iload_n hx dX5_readB_50 rfl 1 rfl ?_
        refine WS.ineg hx dX5_readB_51 ?_
        refine WS.as rfl rfl (congrArg (fun z => Value.int z :: _) (show -(cm (σ0.1 3) L (F s).2) = -(cm (σ0.1 3) L (F s).2) from rfl)) ?_
        skip
        refine WS.callVv (st := []) [.int (-(cm (σ0.1 3) L (F s).2))] hx (c_X5_write V (d + 4) σ14 σ0 d9 L hB _ ps45 (-(cm (σ0.1 3) L (F s).2))) okX5_write lm5_76 rfl rfl rfl rfl (Nat.le_of_ble_eq_true rfl) dX5_readB_52 (fun σ17 h18 => ?_)
        have ps52 := h18
        show WS layC V 4 X σ17 55 [(2, .int (bI (F (adv (F s).2)).1)), (3, .int (cm (σ0.1 3) L (F s).2)), (0, rf V 2), (1, .int (nI dp))] []
        refine WS.iload_n hx dX5_readB_55 rfl 0 rfl ?_
        exact WS.zret hx he dX5_readB_56 (by first | (cases (F s).1 <;> decide) | (cases (F (adv (F s).2)).1 <;> decide)) ⟨_, rfl, rfl, ps52⟩
      · skip
        show WS layC V 4 X σ2 27 [(3, .int (cm (σ0.1 3) L (F s).2)), (2, .int (bI (F s).1)), (0, rf V 2), (1, .int (nI dp))] []
        refine WS.iload_n hx dX5_readB_27 rfl 0 rfl ?_
        refine WS.bipush (v := 62) hx dX5_readB_28 (by decide) ?_
        refine WS.icmp_ne (tgt := 55) hx dX5_readB_30 (by decide) (fun c30 => ?_) (fun c30 => ?_)
        · skip
          show WS layC V 4 X σ2 55 [(3, .int (cm (σ0.1 3) L (F s).2)), (2, .int (bI (F s).1)), (0, rf V 2), (1, .int (nI dp))] []
          rw [if_neg (fun q => by have h8 := q.2; unfold tB at h8; rw [decide_eq_true_eq] at h8; simp_all)] at he
          refine WS.iload_n hx dX5_readB_55 rfl 1 rfl ?_
          exact WS.zret hx he dX5_readB_56 (by first | (cases (F s).1 <;> decide) | (cases (F (adv (F s).2)).1 <;> decide)) ⟨_, rfl, rfl, ps2⟩
        · skip
          show WS layC V 4 X σ2 33 [(3, .int (cm (σ0.1 3) L (F s).2)), (2, .int (bI (F s).1)), (0, rf V 2), (1, .int (nI dp))] []
          have hok : (F s).1 = true := by cases h : (F s).1; rw [h] at c12; exact absurd rfl c12; rfl
          have htest : tB (cm (σ0.1 3) L (F s).2) = true := by unfold tB; rw [decide_eq_true_eq]; simp_all
          have hlt : (F s).2.1 < L := cm_lt (by intro e; rw [e] at htest; exact absurd htest (by decide))
          rw [if_pos ⟨hok, htest⟩] at he
          refine WS.aload_n hx dX5_readB_33 rfl 2 rfl ?_
          refine WS.dup hx dX5_readB_34 rfl ?_
          refine WS.getI hx okX5 lf5_40 rfl rfl dX5_readB_35 ?_
          refine WS.as rfl rfl (congrArg (fun z => Value.int z :: _) (show σ2.1 2 8 = nI (F s).2.1 from ps2.2.2.1)) ?_
          skip
          refine WS.iconst (v := 1) hx dX5_readB_38 (by decide) ?_
          refine WS.iadd hx dX5_readB_39 ?_
          refine WS.as rfl rfl (congrArg (fun z => Value.int z :: _) (show (nI (F s).2.1) + 1 = nI ((F s).2.1 + 1) from nI_1 _)) ?_
          skip
          refine WS.putI hx okX5 lf5_40 rfl rfl rfl rfl dX5_readB_40 ?_
          refine WS.aload_n hx dX5_readB_43 rfl 2 rfl ?_
          refine WS.iload_n hx dX5_readB_44 rfl 3 rfl ?_
          refine WS.callVi (st := []) [.int (nI dp)] hx (hF (adv (F s).2) _ (ps2.ad hB hlt)) okX5_readS lm5_86 rfl rfl rfl rfl (Nat.le_of_ble_eq_true rfl) dX5_readB_45 (fun v19 σ20 h21 => ?_)
          obtain ⟨rfl, ps45⟩ := h21
          show WS layC V 4 X σ20 48 [(3, .int (cm (σ0.1 3) L (F s).2)), (2, .int (bI (F s).1)), (0, rf V 2), (1, .int (nI dp))] [.int (bI (F (adv (F s).2)).1)]
          refine WS.istore_n (lo' := [(2, .int (bI (F (adv (F s).2)).1)), (3, .int (cm (σ0.1 3) L (F s).2)), (0, rf V 2), (1, .int (nI dp))]) hx dX5_readB_48 rfl (by decide) rfl ?_
          refine WS.aload_n hx dX5_readB_49 rfl 2 rfl ?_
          refine WS.iload_n hx dX5_readB_50 rfl 1 rfl ?_
          refine WS.ineg hx dX5_readB_51 ?_
          refine WS.as rfl rfl (congrArg (fun z => Value.int z :: _) (show -(cm (σ0.1 3) L (F s).2) = -(cm (σ0.1 3) L (F s).2) from rfl)) ?_
          skip
          refine WS.callVv (st := []) [.int (-(cm (σ0.1 3) L (F s).2))] hx (c_X5_write V (d + 4) σ20 σ0 d9 L hB _ ps45 (-(cm (σ0.1 3) L (F s).2))) okX5_write lm5_76 rfl rfl rfl rfl (Nat.le_of_ble_eq_true rfl) dX5_readB_52 (fun σ23 h24 => ?_)
          have ps52 := h24
          show WS layC V 4 X σ23 55 [(2, .int (bI (F (adv (F s).2)).1)), (3, .int (cm (σ0.1 3) L (F s).2)), (0, rf V 2), (1, .int (nI dp))] []
          refine WS.iload_n hx dX5_readB_55 rfl 0 rfl ?_
          exact WS.zret hx he dX5_readB_56 (by first | (cases (F s).1 <;> decide) | (cases (F (adv (F s).2)).1 <;> decide)) ⟨_, rfl, rfl, ps52⟩
set_option maxHeartbeats 1000000 in
theorem lp_X5_readA (V : Vt) (d : Nat) (σ0 : Sg) (d9 L : Nat) (hB : PB V σ0 d9 L) (dp : Nat) (F : Ps → Bool × Ps) (hF : ∀ (s : Ps) (τ : Sg), PS σ0 τ d9 L s → CT layC V mX5_readB (d + 5) [rf V 2, .int (nI dp)] τ (Ri fun v σ' => bI (F s).1 = v ∧ PS σ0 σ' d9 L (F s).2)) (R : Bool × Ps) (X : Xt) (hx : Ok V RX5 cX5_readA 4 (d + 6) X) (he : En layC V (some .boolean) (Ri fun v σ' => bI R.1 = v ∧ PS σ0 σ' d9 L R.2) X) : ∀ (u i : Nat) (r : Bool × Ps) (τ : Sg), i + u = 120 → PS σ0 τ d9 L r.2 → lpF (σ0.1 3) L tA F u r = R → WS layC V 4 X τ 8 [(3, .int (nI i)), (2, .int (bI r.1)), (0, rf V 2), (1, .int (nI dp))] [] := by
  intro u
  induction u with
  | zero =>
    intro i r τ hiu hS hR
    have hiI : (nI i).toInt = (i : Int) := nI_c (by omega)
    refine WS.iload_n hx dX5_readA_8 rfl 0 rfl ?_
    refine WS.bipush (v := 120) hx dX5_readA_9 (by decide) ?_
    refine WS.icmp_ge (tgt := 55) hx dX5_readA_11 (by decide) (fun c11 => ?_) (fun c11 => by exfalso; (try simp only [i_le, i_lt, i_eq, tI_0, tI_1, tI_38, tI_120] at c11); (try simp only [i_le, i_lt, i_eq, tI_0, tI_1, tI_38, tI_120]); omega)
    refine WS.iload_n hx dX5_readA_55 rfl 1 rfl ?_
    exact WS.zret hx he dX5_readA_56 (by cases r.1 <;> decide) ⟨_, rfl, by rw [← hR]; rfl, by rw [← hR]; exact hS⟩
  | succ u ih =>
    intro i r τ hiu hS hR
    have hiI : (nI i).toInt = (i : Int) := nI_c (by omega)
    unfold lpF at hR
    refine WS.iload_n hx dX5_readA_8 rfl 0 rfl ?_
    refine WS.bipush (v := 120) hx dX5_readA_9 (by decide) ?_
    refine WS.icmp_ge (tgt := 55) hx dX5_readA_11 (by decide) (fun c11 => by exfalso; (try simp only [i_le, i_lt, i_eq, tI_0, tI_1, tI_38, tI_120] at c11); (try simp only [i_le, i_lt, i_eq, tI_0, tI_1, tI_38, tI_120]); omega) (fun c11 => ?_)
    refine WS.iload_n hx dX5_readA_14 rfl 1 rfl ?_
    refine WS.if_eq (tgt := 55) hx dX5_readA_15 (by decide) (fun c15 => ?_) (fun c15 => ?_)
    · skip
      show WS layC V 4 X τ 55 [(3, .int (nI i)), (2, .int (bI r.1)), (0, rf V 2), (1, .int (nI dp))] []
      refine WS.iload_n hx dX5_readA_55 rfl 1 rfl ?_
      exact WS.zret hx he dX5_readA_56 (by cases r.1 <;> decide) (by rw [if_neg (fun q => by have h8 := q.1; rw [h8] at c15; exact absurd c15 (by decide))] at hR; exact ⟨_, rfl, by rw [← hR], by rw [← hR]; exact hS⟩)
    · skip
      show WS layC V 4 X τ 18 [(3, .int (nI i)), (2, .int (bI r.1)), (0, rf V 2), (1, .int (nI dp))] []
      refine WS.aload_n hx dX5_readA_18 rfl 2 rfl ?_
      refine WS.callVi (st := []) [] hx (c_X5_comes V (d + 5) τ σ0 d9 L hB r.2 hS) okX5_comes lm5_53 rfl rfl rfl rfl (Nat.le_of_ble_eq_true rfl) dX5_readA_19 (fun v1 σ2 h3 => ?_)
      obtain ⟨rfl, rfl⟩ := h3
      show WS layC V 4 X τ 22 [(3, .int (nI i)), (2, .int (bI r.1)), (0, rf V 2), (1, .int (nI dp))] [.int (cm (σ0.1 3) L r.2)]
      refine WS.bipush (v := 38) hx dX5_readA_22 (by decide) ?_
      refine WS.icmp_ne (tgt := 55) hx dX5_readA_24 (by decide) (fun c24 => ?_) (fun c24 => ?_)
      · skip
        show WS layC V 4 X τ 55 [(3, .int (nI i)), (2, .int (bI r.1)), (0, rf V 2), (1, .int (nI dp))] []
        refine WS.iload_n hx dX5_readA_55 rfl 1 rfl ?_
        exact WS.zret hx he dX5_readA_56 (by cases r.1 <;> decide) (by rw [if_neg (fun q => by have h8 := q.2; unfold tA at h8; rw [decide_eq_true_eq] at h8; simp_all)] at hR; exact ⟨_, rfl, by rw [← hR], by rw [← hR]; exact hS⟩)
      · skip
        show WS layC V 4 X τ 27 [(3, .int (nI i)), (2, .int (bI r.1)), (0, rf V 2), (1, .int (nI dp))] []
        have htest : tA (cm (σ0.1 3) L r.2) = true := by unfold tA; rw [decide_eq_true_eq]; simp_all
        have hlt : r.2.1 < L := cm_lt (by intro e; rw [e] at htest; exact absurd htest (by decide))
        refine WS.aload_n hx dX5_readA_27 rfl 2 rfl ?_
        refine WS.dup hx dX5_readA_28 rfl ?_
        refine WS.getI hx okX5 lf5_40 rfl rfl dX5_readA_29 ?_
        refine WS.as rfl rfl (congrArg (fun z => Value.int z :: _) (show τ.1 2 8 = nI r.2.1 from hS.2.2.1)) ?_
        skip
        refine WS.iconst (v := 1) hx dX5_readA_32 (by decide) ?_
        refine WS.iadd hx dX5_readA_33 ?_
        refine WS.as rfl rfl (congrArg (fun z => Value.int z :: _) (show (nI r.2.1) + 1 = nI (r.2.1 + 1) from nI_1 _)) ?_
        skip
        refine WS.putI hx okX5 lf5_40 rfl rfl rfl rfl dX5_readA_34 ?_
        refine WS.aload_n hx dX5_readA_37 rfl 2 rfl ?_
        refine WS.iload_n hx dX5_readA_38 rfl 3 rfl ?_
        refine WS.callVi (st := []) [.int (nI dp)] hx (hF (adv r.2) _ (hS.ad hB hlt)) okX5_readB lm5_83 rfl rfl rfl rfl (Nat.le_of_ble_eq_true rfl) dX5_readA_39 (fun v4 σ5 h6 => ?_)
        obtain ⟨rfl, ps39⟩ := h6
        show WS layC V 4 X σ5 42 [(3, .int (nI i)), (2, .int (bI r.1)), (0, rf V 2), (1, .int (nI dp))] [.int (bI (F (adv r.2)).1)]
        refine WS.istore_n (lo' := [(2, .int (bI (F (adv r.2)).1)), (3, .int (nI i)), (0, rf V 2), (1, .int (nI dp))]) hx dX5_readA_42 rfl (by decide) rfl ?_
        refine WS.aload_n hx dX5_readA_43 rfl 2 rfl ?_
        refine WS.bipush (v := (-38)) hx dX5_readA_44 (by decide) ?_
        refine WS.callVv (st := []) [.int (-38)] hx (c_X5_write V (d + 5) σ5 σ0 d9 L hB _ ps39 (-38)) okX5_write lm5_76 rfl rfl rfl rfl (Nat.le_of_ble_eq_true rfl) dX5_readA_46 (fun σ8 h9 => ?_)
        have ps46 := h9
        show WS layC V 4 X σ8 49 [(2, .int (bI (F (adv r.2)).1)), (3, .int (nI i)), (0, rf V 2), (1, .int (nI dp))] []
        refine WS.iinc (v := nI (i + 1)) (lo' := [(3, .int (nI (i + 1))), (2, .int (bI (F (adv r.2)).1)), (0, rf V 2), (1, .int (nI dp))]) hx dX5_readA_49 1 rfl (nI_1 i) (by decide) rfl ?_
        refine WS.goto (tgt := 8) hx dX5_readA_52 (by decide) ?_
        have hok : r.1 = true := by cases h : r.1; rw [h] at c15; exact absurd rfl c15; rfl
        rw [if_pos ⟨hok, htest⟩] at hR
        have e9 : -(cm (σ0.1 3) L r.2) = -38 := by rw [c24]
        rw [← e9] at ps46
        exact WS.los [0, 1, 2, 3] rfl (ih (i + 1) ((F (adv r.2)).1, wr (-(cm (σ0.1 3) L r.2)) (F (adv r.2)).2) σ8 (by omega) ps46 hR)
set_option maxHeartbeats 1000000 in
theorem c_X5_readA (V : Vt) (d : Nat) (σ : Sg) (σ0 : Sg) (d9 L : Nat) (hB : PB V σ0 d9 L) (dp : Nat) (F : Ps → Bool × Ps) (hF : ∀ (s : Ps) (τ : Sg), PS σ0 τ d9 L s → CT layC V mX5_readB (d + 5) [rf V 2, .int (nI dp)] τ (Ri fun v σ' => bI (F s).1 = v ∧ PS σ0 σ' d9 L (F s).2)) (s : Ps) (hS : PS σ0 σ d9 L s) : CT layC V mX5_readA (d + 6) [rf V 2, .int (nI dp)] σ (Ri fun v σ' => bI (lpF (σ0.1 3) L tA F 120 (F s)).1 = v ∧ PS σ0 σ' d9 L (lpF (σ0.1 3) L tA F 120 (F s)).2) := by
  refine CT.of (own := RX5) rfl (by decide) (Nat.le_of_ble_eq_true rfl) (fun X (hx : Ok V RX5 cX5_readA 4 (d + 6) X) (he : En layC V (some .boolean) (Ri fun v σ' => bI (lpF (σ0.1 3) L tA F 120 (F s)).1 = v ∧ PS σ0 σ' d9 L (lpF (σ0.1 3) L tA F 120 (F s)).2) X) => ?_)
  change WS layC V 4 X σ 0 [(0, rf V 2), (1, .int (nI dp))] []
  refine WS.aload_n hx dX5_readA_0 rfl 0 rfl ?_
  refine WS.iload_n hx dX5_readA_1 rfl 1 rfl ?_
  refine WS.callVi (st := []) [.int (nI dp)] hx (hF s _ hS) okX5_readB lm5_83 rfl rfl rfl rfl (Nat.le_of_ble_eq_true rfl) dX5_readA_2 (fun v1 σ2 h3 => ?_)
  obtain ⟨rfl, ps2⟩ := h3
  show WS layC V 4 X σ2 5 [(0, rf V 2), (1, .int (nI dp))] [.int (bI (F s).1)]
  refine WS.istore_n (lo' := [(2, .int (bI (F s).1)), (0, rf V 2), (1, .int (nI dp))]) hx dX5_readA_5 rfl (by decide) rfl ?_
  refine WS.iconst (v := 0) hx dX5_readA_6 (by decide) ?_
  refine WS.istore_n (lo' := [(3, .int 0), (2, .int (bI (F s).1)), (0, rf V 2), (1, .int (nI dp))]) hx dX5_readA_7 rfl (by decide) rfl ?_
  exact WS.los [0, 1, 2, 3] rfl (lp_X5_readA V d σ0 d9 L hB dp F hF _ X hx he 120 0 (F s) σ2 (by decide) ps2 rfl)
set_option maxHeartbeats 1000000 in
theorem lp_X5_readE (V : Vt) (d : Nat) (σ0 : Sg) (d9 L : Nat) (hB : PB V σ0 d9 L) (dp : Nat) (F : Ps → Bool × Ps) (hF : ∀ (s : Ps) (τ : Sg), PS σ0 τ d9 L s → CT layC V mX5_readA (d + 6) [rf V 2, .int (nI dp)] τ (Ri fun v σ' => bI (F s).1 = v ∧ PS σ0 σ' d9 L (F s).2)) (R : Bool × Ps) (X : Xt) (hx : Ok V RX5 cX5_readE 4 (d + 7) X) (he : En layC V (some .boolean) (Ri fun v σ' => bI R.1 = v ∧ PS σ0 σ' d9 L R.2) X) : ∀ (u i : Nat) (r : Bool × Ps) (τ : Sg), i + u = 120 → PS σ0 τ d9 L r.2 → lpF (σ0.1 3) L tE F u r = R → WS layC V 4 X τ 8 [(3, .int (nI i)), (2, .int (bI r.1)), (0, rf V 2), (1, .int (nI dp))] [] := by
  intro u
  induction u with
  | zero =>
    intro i r τ hiu hS hR
    have hiI : (nI i).toInt = (i : Int) := nI_c (by omega)
    refine WS.iload_n hx dX5_readE_8 rfl 0 rfl ?_
    refine WS.bipush (v := 120) hx dX5_readE_9 (by decide) ?_
    refine WS.icmp_ge (tgt := 55) hx dX5_readE_11 (by decide) (fun c11 => ?_) (fun c11 => by exfalso; (try simp only [i_le, i_lt, i_eq, tI_0, tI_1, tI_120, tI_124] at c11); (try simp only [i_le, i_lt, i_eq, tI_0, tI_1, tI_120, tI_124]); omega)
    refine WS.iload_n hx dX5_readE_55 rfl 1 rfl ?_
    exact WS.zret hx he dX5_readE_56 (by cases r.1 <;> decide) ⟨_, rfl, by rw [← hR]; rfl, by rw [← hR]; exact hS⟩
  | succ u ih =>
    intro i r τ hiu hS hR
    have hiI : (nI i).toInt = (i : Int) := nI_c (by omega)
    unfold lpF at hR
    refine WS.iload_n hx dX5_readE_8 rfl 0 rfl ?_
    refine WS.bipush (v := 120) hx dX5_readE_9 (by decide) ?_
    refine WS.icmp_ge (tgt := 55) hx dX5_readE_11 (by decide) (fun c11 => by exfalso; (try simp only [i_le, i_lt, i_eq, tI_0, tI_1, tI_120, tI_124] at c11); (try simp only [i_le, i_lt, i_eq, tI_0, tI_1, tI_120, tI_124]); omega) (fun c11 => ?_)
    refine WS.iload_n hx dX5_readE_14 rfl 1 rfl ?_
    refine WS.if_eq (tgt := 55) hx dX5_readE_15 (by decide) (fun c15 => ?_) (fun c15 => ?_)
    · skip
      show WS layC V 4 X τ 55 [(3, .int (nI i)), (2, .int (bI r.1)), (0, rf V 2), (1, .int (nI dp))] []
      refine WS.iload_n hx dX5_readE_55 rfl 1 rfl ?_
      exact WS.zret hx he dX5_readE_56 (by cases r.1 <;> decide) (by rw [if_neg (fun q => by have h8 := q.1; rw [h8] at c15; exact absurd c15 (by decide))] at hR; exact ⟨_, rfl, by rw [← hR], by rw [← hR]; exact hS⟩)
    · skip
      show WS layC V 4 X τ 18 [(3, .int (nI i)), (2, .int (bI r.1)), (0, rf V 2), (1, .int (nI dp))] []
      refine WS.aload_n hx dX5_readE_18 rfl 2 rfl ?_
      refine WS.callVi (st := []) [] hx (c_X5_comes V (d + 6) τ σ0 d9 L hB r.2 hS) okX5_comes lm5_53 rfl rfl rfl rfl (Nat.le_of_ble_eq_true rfl) dX5_readE_19 (fun v1 σ2 h3 => ?_)
      obtain ⟨rfl, rfl⟩ := h3
      show WS layC V 4 X τ 22 [(3, .int (nI i)), (2, .int (bI r.1)), (0, rf V 2), (1, .int (nI dp))] [.int (cm (σ0.1 3) L r.2)]
      refine WS.bipush (v := 124) hx dX5_readE_22 (by decide) ?_
      refine WS.icmp_ne (tgt := 55) hx dX5_readE_24 (by decide) (fun c24 => ?_) (fun c24 => ?_)
      · skip
        show WS layC V 4 X τ 55 [(3, .int (nI i)), (2, .int (bI r.1)), (0, rf V 2), (1, .int (nI dp))] []
        refine WS.iload_n hx dX5_readE_55 rfl 1 rfl ?_
        exact WS.zret hx he dX5_readE_56 (by cases r.1 <;> decide) (by rw [if_neg (fun q => by have h8 := q.2; unfold tE at h8; rw [decide_eq_true_eq] at h8; simp_all)] at hR; exact ⟨_, rfl, by rw [← hR], by rw [← hR]; exact hS⟩)
      · skip
        show WS layC V 4 X τ 27 [(3, .int (nI i)), (2, .int (bI r.1)), (0, rf V 2), (1, .int (nI dp))] []
        have htest : tE (cm (σ0.1 3) L r.2) = true := by unfold tE; rw [decide_eq_true_eq]; simp_all
        have hlt : r.2.1 < L := cm_lt (by intro e; rw [e] at htest; exact absurd htest (by decide))
        refine WS.aload_n hx dX5_readE_27 rfl 2 rfl ?_
        refine WS.dup hx dX5_readE_28 rfl ?_
        refine WS.getI hx okX5 lf5_40 rfl rfl dX5_readE_29 ?_
        refine WS.as rfl rfl (congrArg (fun z => Value.int z :: _) (show τ.1 2 8 = nI r.2.1 from hS.2.2.1)) ?_
        skip
        refine WS.iconst (v := 1) hx dX5_readE_32 (by decide) ?_
        refine WS.iadd hx dX5_readE_33 ?_
        refine WS.as rfl rfl (congrArg (fun z => Value.int z :: _) (show (nI r.2.1) + 1 = nI (r.2.1 + 1) from nI_1 _)) ?_
        skip
        refine WS.putI hx okX5 lf5_40 rfl rfl rfl rfl dX5_readE_34 ?_
        refine WS.aload_n hx dX5_readE_37 rfl 2 rfl ?_
        refine WS.iload_n hx dX5_readE_38 rfl 3 rfl ?_
        refine WS.callVi (st := []) [.int (nI dp)] hx (hF (adv r.2) _ (hS.ad hB hlt)) okX5_readA lm5_80 rfl rfl rfl rfl (Nat.le_of_ble_eq_true rfl) dX5_readE_39 (fun v4 σ5 h6 => ?_)
        obtain ⟨rfl, ps39⟩ := h6
        show WS layC V 4 X σ5 42 [(3, .int (nI i)), (2, .int (bI r.1)), (0, rf V 2), (1, .int (nI dp))] [.int (bI (F (adv r.2)).1)]
        refine WS.istore_n (lo' := [(2, .int (bI (F (adv r.2)).1)), (3, .int (nI i)), (0, rf V 2), (1, .int (nI dp))]) hx dX5_readE_42 rfl (by decide) rfl ?_
        refine WS.aload_n hx dX5_readE_43 rfl 2 rfl ?_
        refine WS.bipush (v := (-124)) hx dX5_readE_44 (by decide) ?_
        refine WS.callVv (st := []) [.int (-124)] hx (c_X5_write V (d + 6) σ5 σ0 d9 L hB _ ps39 (-124)) okX5_write lm5_76 rfl rfl rfl rfl (Nat.le_of_ble_eq_true rfl) dX5_readE_46 (fun σ8 h9 => ?_)
        have ps46 := h9
        show WS layC V 4 X σ8 49 [(2, .int (bI (F (adv r.2)).1)), (3, .int (nI i)), (0, rf V 2), (1, .int (nI dp))] []
        refine WS.iinc (v := nI (i + 1)) (lo' := [(3, .int (nI (i + 1))), (2, .int (bI (F (adv r.2)).1)), (0, rf V 2), (1, .int (nI dp))]) hx dX5_readE_49 1 rfl (nI_1 i) (by decide) rfl ?_
        refine WS.goto (tgt := 8) hx dX5_readE_52 (by decide) ?_
        have hok : r.1 = true := by cases h : r.1; rw [h] at c15; exact absurd rfl c15; rfl
        rw [if_pos ⟨hok, htest⟩] at hR
        have e9 : -(cm (σ0.1 3) L r.2) = -124 := by rw [c24]
        rw [← e9] at ps46
        exact WS.los [0, 1, 2, 3] rfl (ih (i + 1) ((F (adv r.2)).1, wr (-(cm (σ0.1 3) L r.2)) (F (adv r.2)).2) σ8 (by omega) ps46 hR)
set_option maxHeartbeats 1000000 in
theorem c_X5_readE (V : Vt) (d : Nat) (σ : Sg) (σ0 : Sg) (d9 L : Nat) (hB : PB V σ0 d9 L) (dp : Nat) (F : Ps → Bool × Ps) (hF : ∀ (s : Ps) (τ : Sg), PS σ0 τ d9 L s → CT layC V mX5_readA (d + 6) [rf V 2, .int (nI dp)] τ (Ri fun v σ' => bI (F s).1 = v ∧ PS σ0 σ' d9 L (F s).2)) (s : Ps) (hS : PS σ0 σ d9 L s) : CT layC V mX5_readE (d + 7) [rf V 2, .int (nI dp)] σ (Ri fun v σ' => bI (lpF (σ0.1 3) L tE F 120 (F s)).1 = v ∧ PS σ0 σ' d9 L (lpF (σ0.1 3) L tE F 120 (F s)).2) := by
  refine CT.of (own := RX5) rfl (by decide) (Nat.le_of_ble_eq_true rfl) (fun X (hx : Ok V RX5 cX5_readE 4 (d + 7) X) (he : En layC V (some .boolean) (Ri fun v σ' => bI (lpF (σ0.1 3) L tE F 120 (F s)).1 = v ∧ PS σ0 σ' d9 L (lpF (σ0.1 3) L tE F 120 (F s)).2) X) => ?_)
  change WS layC V 4 X σ 0 [(0, rf V 2), (1, .int (nI dp))] []
  refine WS.aload_n hx dX5_readE_0 rfl 0 rfl ?_
  refine WS.iload_n hx dX5_readE_1 rfl 1 rfl ?_
  refine WS.callVi (st := []) [.int (nI dp)] hx (hF s _ hS) okX5_readA lm5_80 rfl rfl rfl rfl (Nat.le_of_ble_eq_true rfl) dX5_readE_2 (fun v1 σ2 h3 => ?_)
  obtain ⟨rfl, ps2⟩ := h3
  show WS layC V 4 X σ2 5 [(0, rf V 2), (1, .int (nI dp))] [.int (bI (F s).1)]
  refine WS.istore_n (lo' := [(2, .int (bI (F s).1)), (0, rf V 2), (1, .int (nI dp))]) hx dX5_readE_5 rfl (by decide) rfl ?_
  refine WS.iconst (v := 0) hx dX5_readE_6 (by decide) ?_
  refine WS.istore_n (lo' := [(3, .int 0), (2, .int (bI (F s).1)), (0, rf V 2), (1, .int (nI dp))]) hx dX5_readE_7 rfl (by decide) rfl ?_
  exact WS.los [0, 1, 2, 3] rfl (lp_X5_readE V d σ0 d9 L hB dp F hF _ X hx he 120 0 (F s) σ2 (by decide) ps2 rfl)
set_option maxHeartbeats 1000000 in
theorem c_X5_readToBracket (V : Vt) (d : Nat) (σ : Sg) (σ0 : Sg) (d9 L : Nat) (hB : PB V σ0 d9 L) (dp : Nat) (F : Ps → Bool × Ps) (hF : ∀ (s : Ps) (τ : Sg), PS σ0 τ d9 L s → CT layC V mX5_readE (d + 7) [rf V 2, .int (nI dp)] τ (Ri fun v σ' => bI (F s).1 = v ∧ PS σ0 σ' d9 L (F s).2)) (s : Ps) (hS : PS σ0 σ d9 L s) : CT layC V mX5_readToBracket (d + 8) [rf V 2, .int (nI dp)] σ (Ri fun v σ' => bI ((if (F s).1 = true ∧ cm (σ0.1 3) L (F s).2 = 41 then (true, adv (F s).2) else (false, (F s).2))).1 = v ∧ PS σ0 σ' d9 L ((if (F s).1 = true ∧ cm (σ0.1 3) L (F s).2 = 41 then (true, adv (F s).2) else (false, (F s).2))).2) := by
  refine CT.of (own := RX5) rfl (by decide) (Nat.le_of_ble_eq_true rfl) (fun X (hx : Ok V RX5 cX5_readToBracket 2 (d + 8) X) (he : En layC V (some .boolean) (Ri fun v σ' => bI ((if (F s).1 = true ∧ cm (σ0.1 3) L (F s).2 = 41 then (true, adv (F s).2) else (false, (F s).2))).1 = v ∧ PS σ0 σ' d9 L ((if (F s).1 = true ∧ cm (σ0.1 3) L (F s).2 = 41 then (true, adv (F s).2) else (false, (F s).2))).2) X) => ?_)
  change WS layC V 2 X σ 0 [(0, rf V 2), (1, .int (nI dp))] []
  refine WS.aload_n hx dX5_readToBracket_0 rfl 0 rfl ?_
  refine WS.iload_n hx dX5_readToBracket_1 rfl 1 rfl ?_
  refine WS.callVi (st := []) [.int (nI dp)] hx (hF s _ hS) okX5_readE lm5_72 rfl rfl rfl rfl (Nat.le_of_ble_eq_true rfl) dX5_readToBracket_2 (fun v1 σ2 h3 => ?_)
  obtain ⟨rfl, ps2⟩ := h3
  show WS layC V 2 X σ2 5 [(0, rf V 2), (1, .int (nI dp))] [.int (bI (F s).1)]
  refine WS.if_eq (tgt := 17) hx dX5_readToBracket_5 (by decide) (fun c5 => ?_) (fun c5 => ?_)
  · skip
    show WS layC V 2 X σ2 17 [(0, rf V 2), (1, .int (nI dp))] []
    rw [if_neg (fun q => by have h8 := q.1; rw [h8] at c5; exact absurd c5 (by decide))] at he
    refine WS.iconst (v := 0) hx dX5_readToBracket_17 (by decide) ?_
    exact WS.zret hx he dX5_readToBracket_18 (Or.inl rfl) ⟨_, rfl, rfl, ps2⟩
  · skip
    show WS layC V 2 X σ2 8 [(0, rf V 2), (1, .int (nI dp))] []
    refine WS.aload_n hx dX5_readToBracket_8 rfl 0 rfl ?_
    refine WS.callVi (st := []) [] hx (c_X5_comes V (d + 7) σ2 σ0 d9 L hB (F s).2 ps2) okX5_comes lm5_53 rfl rfl rfl rfl (Nat.le_of_ble_eq_true rfl) dX5_readToBracket_9 (fun v4 σ5 h6 => ?_)
    obtain ⟨rfl, rfl⟩ := h6
    show WS layC V 2 X σ2 12 [(0, rf V 2), (1, .int (nI dp))] [.int (cm (σ0.1 3) L (F s).2)]
    refine WS.bipush (v := 41) hx dX5_readToBracket_12 (by decide) ?_
    refine WS.icmp_eq (tgt := 19) hx dX5_readToBracket_14 (by decide) (fun c14 => ?_) (fun c14 => ?_)
    · skip
      show WS layC V 2 X σ2 19 [(0, rf V 2), (1, .int (nI dp))] []
      have hok : (F s).1 = true := by cases h : (F s).1; rw [h] at c5; exact absurd rfl c5; rfl
      have hlt : (F s).2.1 < L := cm_lt (by intro e; rw [e] at c14; exact absurd c14 (by decide))
      rw [if_pos ⟨hok, c14⟩] at he
      refine WS.aload_n hx dX5_readToBracket_19 rfl 0 rfl ?_
      refine WS.dup hx dX5_readToBracket_20 rfl ?_
      refine WS.getI hx okX5 lf5_40 rfl rfl dX5_readToBracket_21 ?_
      refine WS.as rfl rfl (congrArg (fun z => Value.int z :: _) (show σ2.1 2 8 = nI (F s).2.1 from ps2.2.2.1)) ?_
      skip
      refine WS.iconst (v := 1) hx dX5_readToBracket_24 (by decide) ?_
      refine WS.iadd hx dX5_readToBracket_25 ?_
      refine WS.as rfl rfl (congrArg (fun z => Value.int z :: _) (show (nI (F s).2.1) + 1 = nI ((F s).2.1 + 1) from nI_1 _)) ?_
      skip
      refine WS.putI hx okX5 lf5_40 rfl rfl rfl rfl dX5_readToBracket_26 ?_
      refine WS.iconst (v := 1) hx dX5_readToBracket_29 (by decide) ?_
      exact WS.zret hx he dX5_readToBracket_30 (Or.inr rfl) ⟨_, rfl, rfl, ps2.ad hB hlt⟩
    · skip
      show WS layC V 2 X σ2 17 [(0, rf V 2), (1, .int (nI dp))] []
      rw [if_neg (fun q => c14 q.2)] at he
      refine WS.iconst (v := 0) hx dX5_readToBracket_17 (by decide) ?_
      exact WS.zret hx he dX5_readToBracket_18 (Or.inl rfl) ⟨_, rfl, rfl, ps2⟩
set_option maxHeartbeats 1000000 in
theorem c_X5_readSigned (V : Vt) (d : Nat) (σ : Sg) (σ0 : Sg) (d9 L : Nat) (hB : PB V σ0 d9 L) (dp : Nat) (F : Ps → Bool × Ps) (hF : ∀ (s : Ps) (τ : Sg), PS σ0 τ d9 L s → CT layC V mX5_readO (d + 7) [rf V 2, .int (nI dp)] τ (Ri fun v σ' => bI (F s).1 = v ∧ PS σ0 σ' d9 L (F s).2)) (c : Int32) (s : Ps) (hS : PS σ0 σ d9 L s) : CT layC V mX5_readSigned (d + 8) [rf V 2, .int c, .int (nI dp)] σ (Ri fun v σ' => bI (((F s).1, wr (if c = 45 then -126 else -c) (F s).2)).1 = v ∧ PS σ0 σ' d9 L (((F s).1, wr (if c = 45 then -126 else -c) (F s).2)).2) := by
  refine CT.of (own := RX5) rfl (by decide) (Nat.le_of_ble_eq_true rfl) (fun X (hx : Ok V RX5 cX5_readSigned 4 (d + 8) X) (he : En layC V (some .boolean) (Ri fun v σ' => bI (((F s).1, wr (if c = 45 then -126 else -c) (F s).2)).1 = v ∧ PS σ0 σ' d9 L (((F s).1, wr (if c = 45 then -126 else -c) (F s).2)).2) X) => ?_)
  change WS layC V 4 X σ 0 [(0, rf V 2), (1, .int c), (2, .int (nI dp))] []
  refine WS.aload_n hx dX5_readSigned_0 rfl 0 rfl ?_
  refine WS.iload_n hx dX5_readSigned_1 rfl 2 rfl ?_
  refine WS.callVi (st := []) [.int (nI dp)] hx (hF s _ hS) okX5_readO lm5_92 rfl rfl rfl rfl (Nat.le_of_ble_eq_true rfl) dX5_readSigned_2 (fun v1 σ2 h3 => ?_)
  obtain ⟨rfl, ps2⟩ := h3
  show WS layC V 4 X σ2 5 [(0, rf V 2), (1, .int c), (2, .int (nI dp))] [.int (bI (F s).1)]
  refine WS.istore_n (lo' := [(3, .int (bI (F s).1)), (0, rf V 2), (1, .int c), (2, .int (nI dp))]) hx dX5_readSigned_5 rfl (by decide) rfl ?_
  refine WS.aload_n hx dX5_readSigned_6 rfl 1 rfl ?_
  refine WS.iload_n hx dX5_readSigned_7 rfl 2 rfl ?_
  refine WS.bipush (v := 45) hx dX5_readSigned_8 (by decide) ?_
  refine WS.icmp_ne (tgt := 18) hx dX5_readSigned_10 (by decide) (fun c10 => ?_) (fun c10 => ?_)
  · skip
    show WS layC V 4 X σ2 18 [(3, .int (bI (F s).1)), (0, rf V 2), (1, .int c), (2, .int (nI dp))] [rf V 2]
    refine WS.iload_n hx dX5_readSigned_18 rfl 2 rfl ?_
    refine WS.ineg hx dX5_readSigned_19 ?_
    refine WS.callVv (st := []) [.int (-c)] hx (c_X5_write V (d + 7) σ2 σ0 d9 L hB _ ps2 (-c)) okX5_write lm5_76 rfl rfl rfl rfl (Nat.le_of_ble_eq_true rfl) dX5_readSigned_20 (fun σ5 h6 => ?_)
    have ps20 := h6
    show WS layC V 4 X σ5 23 [(3, .int (bI (F s).1)), (0, rf V 2), (1, .int c), (2, .int (nI dp))] []
    refine WS.iload_n hx dX5_readSigned_23 rfl 0 rfl ?_
    exact WS.zret hx he dX5_readSigned_24 (by cases (F s).1 <;> decide) ⟨_, rfl, rfl, by rw [if_neg c10]; exact ps20⟩
  · skip
    show WS layC V 4 X σ2 13 [(3, .int (bI (F s).1)), (0, rf V 2), (1, .int c), (2, .int (nI dp))] [rf V 2]
    refine WS.bipush (v := (-126)) hx dX5_readSigned_13 (by decide) ?_
    refine WS.goto (tgt := 20) hx dX5_readSigned_15 (by decide) ?_
    refine WS.callVv (st := []) [.int (-126)] hx (c_X5_write V (d + 7) σ2 σ0 d9 L hB _ ps2 (-126)) okX5_write lm5_76 rfl rfl rfl rfl (Nat.le_of_ble_eq_true rfl) dX5_readSigned_20 (fun σ8 h9 => ?_)
    have ps20 := h9
    show WS layC V 4 X σ8 23 [(3, .int (bI (F s).1)), (0, rf V 2), (1, .int c), (2, .int (nI dp))] []
    refine WS.iload_n hx dX5_readSigned_23 rfl 0 rfl ?_
    exact WS.zret hx he dX5_readSigned_24 (by cases (F s).1 <;> decide) ⟨_, rfl, rfl, by rw [if_pos c10]; exact ps20⟩
