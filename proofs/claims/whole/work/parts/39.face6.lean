set_option maxHeartbeats 1000000 in
theorem c_X10_shift (V : Vt) (d : Nat) (σ : Sg) (hZ : ∀ s, s < 6 → rg (σ.1 (52 + s) 4) 60) (f i g j x : Int32) : CT layC V mX10_shift (d + 2) [rf V 0, .int f, .int i, .int g, .int j, .int x] σ (Ri fun v σ' => (if ¬ ((0 ≤ f.toInt ∧ f.toInt ≤ 5) ∧ (0 ≤ g.toInt ∧ g.toInt ≤ 5)) then v = -1 ∧ σ' = σ else if (σ.1 (52 + nn f) 1 = 0 ∨ σ.1 (52 + nn g) 1 = 0) then v = -11 ∧ σ' = σ else if ¬ (σ.1 (52 + nn f) 1 = 2 ∧ σ.1 (52 + nn g) 1 = 2 ∧ σ.1 (52 + nn f) 3 = σ.1 (52 + nn g) 3) then v = -12 ∧ σ' = σ else @ite _ (¬ (plc (nn (σ.1 (52 + nn f) 4)) i x ∧ plc (nn (σ.1 (52 + nn g) 4)) j x)) (Classical.propDecidable _) (v = -13 ∧ σ' = σ) (v = x ∧ σ' = stRL σ (58 + nn g) (va_cpy (σ.2.1 (58 + nn f)) (σ.2.1 (58 + nn g)) (nn i) (nn j) (nn x))))) := by
  refine CT.of (own := RX10) rfl (by decide) (Nat.le_of_ble_eq_true rfl) (fun X (hx : Ok V RX10 cX10_shift 8 (d + 2) X) (he : En layC V (some .int) (Ri fun v σ' => (if ¬ ((0 ≤ f.toInt ∧ f.toInt ≤ 5) ∧ (0 ≤ g.toInt ∧ g.toInt ≤ 5)) then v = -1 ∧ σ' = σ else if (σ.1 (52 + nn f) 1 = 0 ∨ σ.1 (52 + nn g) 1 = 0) then v = -11 ∧ σ' = σ else if ¬ (σ.1 (52 + nn f) 1 = 2 ∧ σ.1 (52 + nn g) 1 = 2 ∧ σ.1 (52 + nn f) 3 = σ.1 (52 + nn g) 3) then v = -12 ∧ σ' = σ else @ite _ (¬ (plc (nn (σ.1 (52 + nn f) 4)) i x ∧ plc (nn (σ.1 (52 + nn g) 4)) j x)) (Classical.propDecidable _) (v = -13 ∧ σ' = σ) (v = x ∧ σ' = stRL σ (58 + nn g) (va_cpy (σ.2.1 (58 + nn f)) (σ.2.1 (58 + nn g)) (nn i) (nn j) (nn x))))) X) => ?_)
  change WS layC V 8 X σ 0 [(0, rf V 0), (1, .int f), (2, .int i), (3, .int g), (4, .int j), (5, .int x)] []
  refine WS.iload_n hx dX10_shift_0 rfl 1 rfl ?_
  refine WS.callSi (st := []) [.int f] hx (c_X10_isShelf V d σ f) okX10_isShelf lm10_92 rfl rfl (Nat.le_of_ble_eq_true rfl) dX10_shift_1 (fun v1 σ2 h3 => ?_)
  rcases h3 with ⟨rfl, rfl, hb1⟩ | ⟨rfl, rfl, hb1⟩
  · skip
    show WS layC V 8 X σ 4 [(0, rf V 0), (1, .int f), (2, .int i), (3, .int g), (4, .int j), (5, .int x)] [.int 1]
    have hsh := sh_nn hb1
    have hz := (nI_nn (hZ (nn f) hsh).1).symm
    have hz2 : nn (σ.1 (52 + nn f) 4) ≤ 60 := by have h9 := hZ (nn f) hsh; have := nn_int h9.1; unfold rg at h9; omega
    refine WS.if_eq (tgt := 14) hx dX10_shift_4 (by decide) (fun h => absurd h (by decide)) (fun _ => ?_)
    refine WS.iload_n hx dX10_shift_7 rfl 3 rfl ?_
    refine WS.callSi (st := []) [.int g] hx (c_X10_isShelf V d σ g) okX10_isShelf lm10_92 rfl rfl (Nat.le_of_ble_eq_true rfl) dX10_shift_8 (fun v4 σ5 h6 => ?_)
    rcases h6 with ⟨rfl, rfl, hb8⟩ | ⟨rfl, rfl, hb8⟩
    · skip
      show WS layC V 8 X σ 11 [(0, rf V 0), (1, .int f), (2, .int i), (3, .int g), (4, .int j), (5, .int x)] [.int 1]
      have hsg := sh_nn hb8
      have hy := (nI_nn (hZ (nn g) hsg).1).symm
      have hy2 : nn (σ.1 (52 + nn g) 4) ≤ 60 := by have h9 := hZ (nn g) hsg; have := nn_int h9.1; unfold rg at h9; omega
      refine WS.if_ne (tgt := 16) hx dX10_shift_11 (by decide) (fun _ => ?_) (fun h => absurd h (by decide))
      refine WS.aload_n hx dX10_shift_16 rfl 0 rfl ?_
      refine WS.getR hx okX10 lf10_75 rfl rfl dX10_shift_17 ?_
      refine WS.iload_n hx dX10_shift_20 rfl 1 rfl ?_
      refine WS.aald hx rfl rfl (sh_in hb1) dX10_shift_21 ?_
      refine WS.astore (lo' := [(6, rf V (52 + (nn f))), (0, rf V 0), (1, .int f), (2, .int i), (3, .int g), (4, .int j), (5, .int x)]) hx dX10_shift_22 (by decide) rfl ?_
      refine WS.aload_n hx dX10_shift_24 rfl 1 rfl ?_
      refine WS.getR hx okX10 lf10_75 rfl rfl dX10_shift_25 ?_
      refine WS.iload_n hx dX10_shift_28 rfl 4 rfl ?_
      refine WS.aald hx rfl rfl (sh_in hb8) dX10_shift_29 ?_
      refine WS.astore (lo' := [(7, rf V (52 + (nn g))), (6, rf V (52 + (nn f))), (0, rf V 0), (1, .int f), (2, .int i), (3, .int g), (4, .int j), (5, .int x)]) hx dX10_shift_30 (by decide) rfl ?_
      refine WS.aload hx dX10_shift_32 1 rfl ?_
      refine WS.callVi (st := []) [] hx (c_X8_isBare V (d + 1) σ (nn f) hsh) okX8_isBare lm10_96 rfl (lay_sh hsh) rfl rfl (Nat.le_of_ble_eq_true rfl) dX10_shift_34 (fun v7 σ8 h9 => ?_)
      rcases h9 with ⟨rfl, rfl, hb34⟩ | ⟨rfl, rfl, hb34⟩
      · skip
        show WS layC V 8 X σ 37 [(7, rf V (52 + (nn g))), (6, rf V (52 + (nn f))), (0, rf V 0), (1, .int f), (2, .int i), (3, .int g), (4, .int j), (5, .int x)] [.int 1]
        refine WS.if_ne (tgt := 48) hx dX10_shift_37 (by decide) (fun _ => ?_) (fun h => absurd h (by decide))
        refine WS.bipush (v := (-11)) hx dX10_shift_48 (by decide) ?_
        exact WS.iret hx he dX10_shift_50 ⟨_, rfl, (by (try dsimp only); rw [if_neg (fun h => h ⟨hb1, hb8⟩)]; rw [if_pos (by first | exact Or.inl hb34 | exact Or.inr hb42)]; exact ⟨rfl, rfl⟩)⟩
      · skip
        show WS layC V 8 X σ 37 [(7, rf V (52 + (nn g))), (6, rf V (52 + (nn f))), (0, rf V 0), (1, .int f), (2, .int i), (3, .int g), (4, .int j), (5, .int x)] [.int 0]
        refine WS.if_ne (tgt := 48) hx dX10_shift_37 (by decide) (fun h => absurd (by decide) h) (fun _ => ?_)
        refine WS.aload hx dX10_shift_40 0 rfl ?_
        refine WS.callVi (st := []) [] hx (c_X8_isBare V (d + 1) σ (nn g) hsg) okX8_isBare lm10_96 rfl (lay_sh hsg) rfl rfl (Nat.le_of_ble_eq_true rfl) dX10_shift_42 (fun v10 σ11 h12 => ?_)
        rcases h12 with ⟨rfl, rfl, hb42⟩ | ⟨rfl, rfl, hb42⟩
        · skip
          show WS layC V 8 X σ 45 [(7, rf V (52 + (nn g))), (6, rf V (52 + (nn f))), (0, rf V 0), (1, .int f), (2, .int i), (3, .int g), (4, .int j), (5, .int x)] [.int 1]
          refine WS.if_eq (tgt := 51) hx dX10_shift_45 (by decide) (fun h => absurd h (by decide)) (fun _ => ?_)
          refine WS.bipush (v := (-11)) hx dX10_shift_48 (by decide) ?_
          exact WS.iret hx he dX10_shift_50 ⟨_, rfl, (by (try dsimp only); rw [if_neg (fun h => h ⟨hb1, hb8⟩)]; rw [if_pos (by first | exact Or.inl hb34 | exact Or.inr hb42)]; exact ⟨rfl, rfl⟩)⟩
        · skip
          show WS layC V 8 X σ 45 [(7, rf V (52 + (nn g))), (6, rf V (52 + (nn f))), (0, rf V 0), (1, .int f), (2, .int i), (3, .int g), (4, .int j), (5, .int x)] [.int 0]
          refine WS.if_eq (tgt := 51) hx dX10_shift_45 (by decide) (fun _ => ?_) (fun h => absurd (by decide) h)
          refine WS.aload hx dX10_shift_51 1 rfl ?_
          refine WS.callVi (st := []) [] hx (c_X8_isRow V (d + 1) σ (nn f) hsh) okX8_isRow lm10_317 rfl (lay_sh hsh) rfl rfl (Nat.le_of_ble_eq_true rfl) dX10_shift_53 (fun v13 σ14 h15 => ?_)
          rcases h15 with ⟨rfl, rfl, hb53⟩ | ⟨rfl, rfl, hb53⟩
          · skip
            show WS layC V 8 X σ 56 [(7, rf V (52 + (nn g))), (6, rf V (52 + (nn f))), (0, rf V 0), (1, .int f), (2, .int i), (3, .int g), (4, .int j), (5, .int x)] [.int 1]
            refine WS.if_eq (tgt := 80) hx dX10_shift_56 (by decide) (fun h => absurd h (by decide)) (fun _ => ?_)
            refine WS.aload hx dX10_shift_59 0 rfl ?_
            refine WS.callVi (st := []) [] hx (c_X8_isRow V (d + 1) σ (nn g) hsg) okX8_isRow lm10_317 rfl (lay_sh hsg) rfl rfl (Nat.le_of_ble_eq_true rfl) dX10_shift_61 (fun v16 σ17 h18 => ?_)
            rcases h18 with ⟨rfl, rfl, hb61⟩ | ⟨rfl, rfl, hb61⟩
            · skip
              show WS layC V 8 X σ 64 [(7, rf V (52 + (nn g))), (6, rf V (52 + (nn f))), (0, rf V 0), (1, .int f), (2, .int i), (3, .int g), (4, .int j), (5, .int x)] [.int 1]
              refine WS.if_eq (tgt := 80) hx dX10_shift_64 (by decide) (fun h => absurd h (by decide)) (fun _ => ?_)
              refine WS.aload hx dX10_shift_67 1 rfl ?_
              refine WS.callVi (st := []) [] hx (c_X8_sort V (d + 1) σ (nn f) hsh) okX8_sort lm10_323 rfl (lay_sh hsh) rfl rfl (Nat.le_of_ble_eq_true rfl) dX10_shift_69 (fun v19 σ20 h21 => ?_)
              obtain ⟨rfl, rfl⟩ := h21
              show WS layC V 8 X σ 72 [(7, rf V (52 + (nn g))), (6, rf V (52 + (nn f))), (0, rf V 0), (1, .int f), (2, .int i), (3, .int g), (4, .int j), (5, .int x)] [.int (σ.1 (52 + (nn f)) 3)]
              refine WS.aload hx dX10_shift_72 0 rfl ?_
              refine WS.callVi (st := [.int (σ.1 (52 + (nn f)) 3)]) [] hx (c_X8_sort V (d + 1) σ (nn g) hsg) okX8_sort lm10_323 rfl (lay_sh hsg) rfl rfl (Nat.le_of_ble_eq_true rfl) dX10_shift_74 (fun v22 σ23 h24 => ?_)
              obtain ⟨rfl, rfl⟩ := h24
              show WS layC V 8 X σ 77 [(7, rf V (52 + (nn g))), (6, rf V (52 + (nn f))), (0, rf V 0), (1, .int f), (2, .int i), (3, .int g), (4, .int j), (5, .int x)] [.int (σ.1 (52 + (nn g)) 3), .int (σ.1 (52 + (nn f)) 3)]
              refine WS.icmp_eq (tgt := 83) hx dX10_shift_77 (by decide) (fun c77 => ?_) (fun c77 => ?_)
              · skip
                show WS layC V 8 X σ 83 [(7, rf V (52 + (nn g))), (6, rf V (52 + (nn f))), (0, rf V 0), (1, .int f), (2, .int i), (3, .int g), (4, .int j), (5, .int x)] []
                refine WS.aload hx dX10_shift_83 1 rfl ?_
                refine WS.iload_n hx dX10_shift_85 rfl 4 rfl ?_
                refine WS.iload hx dX10_shift_86 7 rfl ?_
                refine WS.callVi (st := []) [.int i, .int x] hx (c_X8_hasPlaces V (d + 1) σ (nn f) hsh _ hz hz2 i x) okX8_hasPlaces lm10_106 rfl (lay_sh hsh) rfl rfl (Nat.le_of_ble_eq_true rfl) dX10_shift_88 (fun v25 σ26 h27 => ?_)
                rcases h27 with ⟨rfl, rfl, hb88⟩ | ⟨rfl, rfl, hb88⟩
                · skip
                  show WS layC V 8 X σ 91 [(7, rf V (52 + (nn g))), (6, rf V (52 + (nn f))), (0, rf V 0), (1, .int f), (2, .int i), (3, .int g), (4, .int j), (5, .int x)] [.int 1]
                  refine WS.if_eq (tgt := 106) hx dX10_shift_91 (by decide) (fun h => absurd h (by decide)) (fun _ => ?_)
                  refine WS.aload hx dX10_shift_94 0 rfl ?_
                  refine WS.iload hx dX10_shift_96 6 rfl ?_
                  refine WS.iload hx dX10_shift_98 7 rfl ?_
                  refine WS.callVi (st := []) [.int j, .int x] hx (c_X8_hasPlaces V (d + 1) σ (nn g) hsg _ hy hy2 j x) okX8_hasPlaces lm10_106 rfl (lay_sh hsg) rfl rfl (Nat.le_of_ble_eq_true rfl) dX10_shift_100 (fun v28 σ29 h30 => ?_)
                  rcases h30 with ⟨rfl, rfl, hb100⟩ | ⟨rfl, rfl, hb100⟩
                  · skip
                    show WS layC V 8 X σ 103 [(7, rf V (52 + (nn g))), (6, rf V (52 + (nn f))), (0, rf V 0), (1, .int f), (2, .int i), (3, .int g), (4, .int j), (5, .int x)] [.int 1]
                    refine WS.if_ne (tgt := 109) hx dX10_shift_103 (by decide) (fun _ => ?_) (fun h => absurd h (by decide))
                    refine WS.aload hx dX10_shift_109 0 rfl ?_
                    refine WS.aload hx dX10_shift_111 1 rfl ?_
                    refine WS.iload_n hx dX10_shift_113 rfl 4 rfl ?_
                    refine WS.iload hx dX10_shift_114 6 rfl ?_
                    refine WS.iload hx dX10_shift_116 7 rfl ?_
                    refine WS.callVv (st := []) [rf V (52 + (nn f)), .int i, .int j, .int x] hx (c_X8_copy V d σ (nn g) hsg _ hy hy2 (nn f) hsh _ hz hz2 i j x hb88 hb100) okX8_copy lm10_326 rfl (lay_sh hsg) rfl rfl (Nat.le_of_ble_eq_true rfl) dX10_shift_118 (fun σ32 h33 => ?_)
                    obtain rfl := h33
                    show WS layC V 8 X (stRL σ (58 + (nn g)) (va_cpy (σ.2.1 (58 + (nn f))) (σ.2.1 (58 + (nn g))) (nn i) (nn j) (nn x))) 121 [(7, rf V (52 + (nn g))), (6, rf V (52 + (nn f))), (0, rf V 0), (1, .int f), (2, .int i), (3, .int g), (4, .int j), (5, .int x)] []
                    refine WS.iload hx dX10_shift_121 7 rfl ?_
                    exact WS.iret hx he dX10_shift_123 ⟨_, rfl, (by (try dsimp only); rw [if_neg (fun h => h ⟨hb1, hb8⟩)]; rw [if_neg (fun h => h.elim hb34 hb42)]; rw [if_neg (fun h => h ⟨hb53, hb61, c77⟩)]; rw [if_neg (fun h => h ⟨hb88, hb100⟩)]; exact ⟨rfl, rfl⟩)⟩
                  · skip
                    show WS layC V 8 X σ 103 [(7, rf V (52 + (nn g))), (6, rf V (52 + (nn f))), (0, rf V 0), (1, .int f), (2, .int i), (3, .int g), (4, .int j), (5, .int x)] [.int 0]
                    refine WS.if_ne (tgt := 109) hx dX10_shift_103 (by decide) (fun h => absurd (by decide) h) (fun _ => ?_)
                    refine WS.bipush (v := (-13)) hx dX10_shift_106 (by decide) ?_
                    exact WS.iret hx he dX10_shift_108 ⟨_, rfl, (by (try dsimp only); rw [if_neg (fun h => h ⟨hb1, hb8⟩)]; rw [if_neg (fun h => h.elim hb34 hb42)]; rw [if_neg (fun h => h ⟨hb53, hb61, c77⟩)]; rw [if_pos (fun h => by first | exact hb88 h.1 | exact hb100 h.2)]; exact ⟨rfl, rfl⟩)⟩
                · skip
                  show WS layC V 8 X σ 91 [(7, rf V (52 + (nn g))), (6, rf V (52 + (nn f))), (0, rf V 0), (1, .int f), (2, .int i), (3, .int g), (4, .int j), (5, .int x)] [.int 0]
                  refine WS.if_eq (tgt := 106) hx dX10_shift_91 (by decide) (fun _ => ?_) (fun h => absurd (by decide) h)
                  refine WS.bipush (v := (-13)) hx dX10_shift_106 (by decide) ?_
                  exact WS.iret hx he dX10_shift_108 ⟨_, rfl, (by (try dsimp only); rw [if_neg (fun h => h ⟨hb1, hb8⟩)]; rw [if_neg (fun h => h.elim hb34 hb42)]; rw [if_neg (fun h => h ⟨hb53, hb61, c77⟩)]; rw [if_pos (fun h => by first | exact hb88 h.1 | exact hb100 h.2)]; exact ⟨rfl, rfl⟩)⟩
              · skip
                show WS layC V 8 X σ 80 [(7, rf V (52 + (nn g))), (6, rf V (52 + (nn f))), (0, rf V 0), (1, .int f), (2, .int i), (3, .int g), (4, .int j), (5, .int x)] []
                refine WS.bipush (v := (-12)) hx dX10_shift_80 (by decide) ?_
                exact WS.iret hx he dX10_shift_82 ⟨_, rfl, (by (try dsimp only); rw [if_neg (fun h => h ⟨hb1, hb8⟩)]; rw [if_neg (fun h => h.elim hb34 hb42)]; rw [if_pos (fun h => by first | exact hb53 h.1 | exact hb61 h.2.1 | exact c77 h.2.2)]; exact ⟨rfl, rfl⟩)⟩
            · skip
              show WS layC V 8 X σ 64 [(7, rf V (52 + (nn g))), (6, rf V (52 + (nn f))), (0, rf V 0), (1, .int f), (2, .int i), (3, .int g), (4, .int j), (5, .int x)] [.int 0]
              refine WS.if_eq (tgt := 80) hx dX10_shift_64 (by decide) (fun _ => ?_) (fun h => absurd (by decide) h)
              refine WS.bipush (v := (-12)) hx dX10_shift_80 (by decide) ?_
              exact WS.iret hx he dX10_shift_82 ⟨_, rfl, (by (try dsimp only); rw [if_neg (fun h => h ⟨hb1, hb8⟩)]; rw [if_neg (fun h => h.elim hb34 hb42)]; rw [if_pos (fun h => by first | exact hb53 h.1 | exact hb61 h.2.1 | exact c77 h.2.2)]; exact ⟨rfl, rfl⟩)⟩
          · skip
            show WS layC V 8 X σ 56 [(7, rf V (52 + (nn g))), (6, rf V (52 + (nn f))), (0, rf V 0), (1, .int f), (2, .int i), (3, .int g), (4, .int j), (5, .int x)] [.int 0]
            refine WS.if_eq (tgt := 80) hx dX10_shift_56 (by decide) (fun _ => ?_) (fun h => absurd (by decide) h)
            refine WS.bipush (v := (-12)) hx dX10_shift_80 (by decide) ?_
            exact WS.iret hx he dX10_shift_82 ⟨_, rfl, (by (try dsimp only); rw [if_neg (fun h => h ⟨hb1, hb8⟩)]; rw [if_neg (fun h => h.elim hb34 hb42)]; rw [if_pos (fun h => by first | exact hb53 h.1 | exact hb61 h.2.1 | exact c77 h.2.2)]; exact ⟨rfl, rfl⟩)⟩
    · skip
      show WS layC V 8 X σ 11 [(0, rf V 0), (1, .int f), (2, .int i), (3, .int g), (4, .int j), (5, .int x)] [.int 0]
      refine WS.if_ne (tgt := 16) hx dX10_shift_11 (by decide) (fun h => absurd (by decide) h) (fun _ => ?_)
      refine WS.iconst (v := (-1)) hx dX10_shift_14 (by decide) ?_
      exact WS.iret hx he dX10_shift_15 ⟨_, rfl, (by (try dsimp only); rw [if_pos (fun h => by first | exact hb1 h.1 | exact hb8 h.2)]; exact ⟨rfl, rfl⟩)⟩
  · skip
    show WS layC V 8 X σ 4 [(0, rf V 0), (1, .int f), (2, .int i), (3, .int g), (4, .int j), (5, .int x)] [.int 0]
    refine WS.if_eq (tgt := 14) hx dX10_shift_4 (by decide) (fun _ => ?_) (fun h => absurd (by decide) h)
    refine WS.iconst (v := (-1)) hx dX10_shift_14 (by decide) ?_
    exact WS.iret hx he dX10_shift_15 ⟨_, rfl, (by (try dsimp only); rw [if_pos (fun h => by first | exact hb1 h.1 | exact hb8 h.2)]; exact ⟨rfl, rfl⟩)⟩
set_option maxHeartbeats 1000000 in
theorem c_X10_taken (V : Vt) (d : Nat) (σ : Sg) (z : Nat) (hz : σ.1 9 2 = nI z) (hz2 : z ≤ 50) (hT : ∀ s, s < 6 → σ.1 (52 + s) 1 = 0 ∨ σ.1 (52 + s) 1 = 2 ∨ (σ.1 (52 + s) 1 = 1 ∧ 0 ≤ (σ.1 (52 + s) 2).toInt ∧ (σ.1 (52 + s) 2).toInt < z)) (f k : Int32) : CT layC V mX10_taken (d + 3) [rf V 0, .int f, .int k] σ (Ri fun v σ' => (if ¬ ((0 ≤ f.toInt ∧ f.toInt ≤ 5) ∧ (0 ≤ k.toInt ∧ k.toInt ≤ 7)) then v = -1 ∧ σ' = σ else if σ.1 (52 + nn f) 1 = 0 then v = -11 ∧ σ' = σ else if σ.1 (52 + nn f) 1 = 2 then v = -12 ∧ σ' = σ else if udF k 8 (σ.1 36 (nn (σ.1 (52 + nn f) 2))) = true then v = σ.1 36 (nn (σ.1 (52 + nn f) 2)) ∧ σ' = σ else v = -12 ∧ σ' = σ)) := by
  refine CT.of (own := RX10) rfl (by decide) (Nat.le_of_ble_eq_true rfl) (fun X (hx : Ok V RX10 cX10_taken 5 (d + 3) X) (he : En layC V (some .int) (Ri fun v σ' => (if ¬ ((0 ≤ f.toInt ∧ f.toInt ≤ 5) ∧ (0 ≤ k.toInt ∧ k.toInt ≤ 7)) then v = -1 ∧ σ' = σ else if σ.1 (52 + nn f) 1 = 0 then v = -11 ∧ σ' = σ else if σ.1 (52 + nn f) 1 = 2 then v = -12 ∧ σ' = σ else if udF k 8 (σ.1 36 (nn (σ.1 (52 + nn f) 2))) = true then v = σ.1 36 (nn (σ.1 (52 + nn f) 2)) ∧ σ' = σ else v = -12 ∧ σ' = σ)) X) => ?_)
  change WS layC V 5 X σ 0 [(0, rf V 0), (1, .int f), (2, .int k)] []
  refine WS.iload_n hx dX10_taken_0 rfl 1 rfl ?_
  refine WS.callSi (st := []) [.int f] hx (c_X10_isShelf V (d + 1) σ f) okX10_isShelf lm10_92 rfl rfl (Nat.le_of_ble_eq_true rfl) dX10_taken_1 (fun v1 σ2 h3 => ?_)
  rcases h3 with ⟨rfl, rfl, hb1⟩ | ⟨rfl, rfl, hb1⟩
  · skip
    show WS layC V 5 X σ 4 [(0, rf V 0), (1, .int f), (2, .int k)] [.int 1]
    have hsh := sh_nn hb1
    refine WS.if_eq (tgt := 14) hx dX10_taken_4 (by decide) (fun h => absurd h (by decide)) (fun _ => ?_)
    refine WS.iload_n hx dX10_taken_7 rfl 2 rfl ?_
    refine WS.callSi (st := []) [.int k] hx (c_X1_isKind V (d + 1) σ k) okX1_isKind lm10_282 rfl rfl (Nat.le_of_ble_eq_true rfl) dX10_taken_8 (fun v4 σ5 h6 => ?_)
    rcases h6 with ⟨rfl, rfl, hb8⟩ | ⟨rfl, rfl, hb8⟩
    · skip
      show WS layC V 5 X σ 11 [(0, rf V 0), (1, .int f), (2, .int k)] [.int 1]
      refine WS.if_ne (tgt := 16) hx dX10_taken_11 (by decide) (fun _ => ?_) (fun h => absurd h (by decide))
      refine WS.aload_n hx dX10_taken_16 rfl 0 rfl ?_
      refine WS.getR hx okX10 lf10_75 rfl rfl dX10_taken_17 ?_
      refine WS.iload_n hx dX10_taken_20 rfl 1 rfl ?_
      refine WS.aald hx rfl rfl (sh_in hb1) dX10_taken_21 ?_
      refine WS.astore_n (lo' := [(3, rf V (52 + (nn f))), (0, rf V 0), (1, .int f), (2, .int k)]) hx dX10_taken_22 rfl (by decide) rfl ?_
      refine WS.aload_n hx dX10_taken_23 rfl 0 rfl ?_
      refine WS.callVi (st := []) [] hx (c_X8_isBare V (d + 2) σ (nn f) hsh) okX8_isBare lm10_96 rfl (lay_sh hsh) rfl rfl (Nat.le_of_ble_eq_true rfl) dX10_taken_24 (fun v7 σ8 h9 => ?_)
      rcases h9 with ⟨rfl, rfl, hb24⟩ | ⟨rfl, rfl, hb24⟩
      · skip
        show WS layC V 5 X σ 27 [(3, rf V (52 + (nn f))), (0, rf V 0), (1, .int f), (2, .int k)] [.int 1]
        refine WS.if_eq (tgt := 33) hx dX10_taken_27 (by decide) (fun h => absurd h (by decide)) (fun _ => ?_)
        refine WS.bipush (v := (-11)) hx dX10_taken_30 (by decide) ?_
        exact WS.iret hx he dX10_taken_32 ⟨_, rfl, (by (try dsimp only); rw [if_neg (fun h => h ⟨hb1, hb8⟩)]; rw [if_pos (hb24)]; exact ⟨rfl, rfl⟩)⟩
      · skip
        show WS layC V 5 X σ 27 [(3, rf V (52 + (nn f))), (0, rf V 0), (1, .int f), (2, .int k)] [.int 0]
        refine WS.if_eq (tgt := 33) hx dX10_taken_27 (by decide) (fun _ => ?_) (fun h => absurd (by decide) h)
        refine WS.aload_n hx dX10_taken_33 rfl 0 rfl ?_
        refine WS.callVi (st := []) [] hx (c_X8_isRow V (d + 2) σ (nn f) hsh) okX8_isRow lm10_317 rfl (lay_sh hsh) rfl rfl (Nat.le_of_ble_eq_true rfl) dX10_taken_34 (fun v10 σ11 h12 => ?_)
        rcases h12 with ⟨rfl, rfl, hb34⟩ | ⟨rfl, rfl, hb34⟩
        · skip
          show WS layC V 5 X σ 37 [(3, rf V (52 + (nn f))), (0, rf V 0), (1, .int f), (2, .int k)] [.int 1]
          refine WS.if_eq (tgt := 43) hx dX10_taken_37 (by decide) (fun h => absurd h (by decide)) (fun _ => ?_)
          refine WS.bipush (v := (-12)) hx dX10_taken_40 (by decide) ?_
          exact WS.iret hx he dX10_taken_42 ⟨_, rfl, (by (try dsimp only); rw [if_neg (fun h => h ⟨hb1, hb8⟩)]; rw [if_neg (hb24)]; rw [if_pos (hb34)]; exact ⟨rfl, rfl⟩)⟩
        · skip
          show WS layC V 5 X σ 37 [(3, rf V (52 + (nn f))), (0, rf V 0), (1, .int f), (2, .int k)] [.int 0]
          have ht9 : 0 ≤ (σ.1 (52 + nn f) 2).toInt ∧ (σ.1 (52 + nn f) 2).toInt < z := by
            rcases hT (nn f) hsh with h | h | h
            · exact absurd h hb24
            · exact absurd h hb34
            · exact h.2
          have htz : nn (σ.1 (52 + nn f) 2) < z := by have := nn_int ht9.1; omega
          refine WS.if_eq (tgt := 43) hx dX10_taken_37 (by decide) (fun _ => ?_) (fun h => absurd (by decide) h)
          refine WS.aload_n hx dX10_taken_43 rfl 1 rfl ?_
          refine WS.getR hx okX10 lf10_69 rfl rfl dX10_taken_44 ?_
          refine WS.aload_n hx dX10_taken_47 rfl 0 rfl ?_
          refine WS.callVi (st := [rf V 9]) [] hx (c_X8_toad V (d + 2) σ (nn f) hsh) okX8_toad lm10_330 rfl (lay_sh hsh) rfl rfl (Nat.le_of_ble_eq_true rfl) dX10_taken_48 (fun v13 σ14 h15 => ?_)
          obtain ⟨rfl, rfl⟩ := h15
          show WS layC V 5 X σ 51 [(3, rf V (52 + (nn f))), (0, rf V 0), (1, .int f), (2, .int k)] [.int (σ.1 (52 + (nn f)) 2), rf V 9]
          refine WS.as rfl rfl (congrArg (fun z => Value.int z :: _) (show σ.1 (52 + (nn f)) 2 = nI (nn (σ.1 (52 + nn f) 2)) from (nI_nn ht9.1).symm)) ?_
          skip
          refine WS.callVi (st := []) [.int (nI (nn (σ.1 (52 + nn f) 2)))] hx (c_X1_kindOf V d σ z hz hz2 (nn (σ.1 (52 + nn f) 2)) htz) okX1_kindOf lm10_333 rfl rfl rfl rfl (Nat.le_of_ble_eq_true rfl) dX10_taken_51 (fun v16 σ17 h18 => ?_)
          obtain ⟨rfl, rfl⟩ := h18
          show WS layC V 5 X σ 54 [(3, rf V (52 + (nn f))), (0, rf V 0), (1, .int f), (2, .int k)] [.int (σ.1 36 (nn (σ.1 (52 + nn f) 2)))]
          refine WS.istore (lo' := [(4, .int (σ.1 36 (nn (σ.1 (52 + nn f) 2)))), (3, rf V (52 + (nn f))), (0, rf V 0), (1, .int f), (2, .int k)]) hx dX10_taken_54 (by decide) rfl ?_
          refine WS.iload hx dX10_taken_56 0 rfl ?_
          refine WS.iload_n hx dX10_taken_58 rfl 4 rfl ?_
          refine WS.callSi (st := []) [.int (σ.1 36 (nn (σ.1 (52 + nn f) 2))), .int k] hx (c_X1_isUnder V d σ (σ.1 36 (nn (σ.1 (52 + nn f) 2))) k) okX1_isUnder lm10_336 rfl rfl (Nat.le_of_ble_eq_true rfl) dX10_taken_59 (fun v19 σ20 h21 => ?_)
          rcases h21 with ⟨rfl, rfl, hb59⟩ | ⟨rfl, rfl, hb59⟩
          · skip
            show WS layC V 5 X σ 62 [(4, .int (σ.1 36 (nn (σ.1 (52 + nn f) 2)))), (3, rf V (52 + (nn f))), (0, rf V 0), (1, .int f), (2, .int k)] [.int 1]
            refine WS.if_eq (tgt := 70) hx dX10_taken_62 (by decide) (fun h => absurd h (by decide)) (fun _ => ?_)
            refine WS.iload hx dX10_taken_65 0 rfl ?_
            refine WS.goto (tgt := 72) hx dX10_taken_67 (by decide) ?_
            exact WS.iret hx he dX10_taken_72 ⟨_, rfl, (by (try dsimp only); rw [if_neg (fun h => h ⟨hb1, hb8⟩)]; rw [if_neg (hb24)]; rw [if_neg (hb34)]; rw [if_pos (hb59)]; exact ⟨rfl, rfl⟩)⟩
          · skip
            show WS layC V 5 X σ 62 [(4, .int (σ.1 36 (nn (σ.1 (52 + nn f) 2)))), (3, rf V (52 + (nn f))), (0, rf V 0), (1, .int f), (2, .int k)] [.int 0]
            refine WS.if_eq (tgt := 70) hx dX10_taken_62 (by decide) (fun _ => ?_) (fun h => absurd (by decide) h)
            refine WS.bipush (v := (-12)) hx dX10_taken_70 (by decide) ?_
            exact WS.iret hx he dX10_taken_72 ⟨_, rfl, (by (try dsimp only); rw [if_neg (fun h => h ⟨hb1, hb8⟩)]; rw [if_neg (hb24)]; rw [if_neg (hb34)]; rw [if_neg (hb59)]; exact ⟨rfl, rfl⟩)⟩
    · skip
      show WS layC V 5 X σ 11 [(0, rf V 0), (1, .int f), (2, .int k)] [.int 0]
      refine WS.if_ne (tgt := 16) hx dX10_taken_11 (by decide) (fun h => absurd (by decide) h) (fun _ => ?_)
      refine WS.iconst (v := (-1)) hx dX10_taken_14 (by decide) ?_
      exact WS.iret hx he dX10_taken_15 ⟨_, rfl, (by (try dsimp only); rw [if_pos (fun h => by first | exact hb1 h.1 | exact hb8 h.2)]; exact ⟨rfl, rfl⟩)⟩
  · skip
    show WS layC V 5 X σ 4 [(0, rf V 0), (1, .int f), (2, .int k)] [.int 0]
    refine WS.if_eq (tgt := 14) hx dX10_taken_4 (by decide) (fun _ => ?_) (fun h => absurd (by decide) h)
    refine WS.iconst (v := (-1)) hx dX10_taken_14 (by decide) ?_
    exact WS.iret hx he dX10_taken_15 ⟨_, rfl, (by (try dsimp only); rw [if_pos (fun h => by first | exact hb1 h.1 | exact hb8 h.2)]; exact ⟨rfl, rfl⟩)⟩
def cntF (σ : Sg) (n : Nat) (q : Int32) : Int32 := if q = 0 then nI n else if q = 1 then nI (cnt (σ.1 14) n) else if q = 2 then σ.1 0 3 else if q = 3 then σ.1 8 5 else if q = 4 then σ.1 9 2 else if q = 5 then σ.1 9 3 else -1
set_option maxHeartbeats 1000000 in
theorem c_X10_count (V : Vt) (d : Nat) (σ : Sg) (n : Nat) (hQ : QI σ n) (q : Int32) : CT layC V mX10_count (d + 1) [rf V 0, .int q] σ (Ri fun v σ' => v = cntF σ n q ∧ σ' = σ) := by
  refine CT.of (own := RX10) rfl (by decide) (Nat.le_of_ble_eq_true rfl) (fun X (hx : Ok V RX10 cX10_count 2 (d + 1) X) (he : En layC V (some .int) (Ri fun v σ' => v = cntF σ n q ∧ σ' = σ) X) => ?_)
  change WS layC V 2 X σ 0 [(0, rf V 0), (1, .int q)] []
  refine WS.iload_n hx dX10_count_0 rfl 1 rfl ?_
  by_cases s1_0 : q = 0
  · refine WS.tableIn (off := 39) (tgt := 40) hx dX10_count_1 (by rw [s1_0]; decide) (by rw [s1_0]; decide) (by rw [s1_0]; decide) (by decide) ?_
    show WS layC V 2 X σ 40 [(0, rf V 0), (1, .int q)] []
    refine WS.aload_n hx dX10_count_40 rfl 0 rfl ?_
    refine WS.getR hx okX10 lf10_12 rfl rfl dX10_count_41 ?_
    refine WS.callVi (st := []) [] hx (c_X7_size V d σ n hQ) okX7_size lm10_339 rfl rfl rfl rfl (Nat.le_of_ble_eq_true rfl) dX10_count_44 (fun v1 σ2 h3 => ?_)
    obtain ⟨rfl, rfl⟩ := h3
    show WS layC V 2 X σ 47 [(0, rf V 0), (1, .int q)] [.int (nI n)]
    exact WS.iret hx he dX10_count_47 ⟨_, rfl, by unfold cntF; rw [if_pos s1_0], rfl⟩
  by_cases s1_1 : q = 1
  · refine WS.tableIn (off := 47) (tgt := 48) hx dX10_count_1 (by rw [s1_1]; decide) (by rw [s1_1]; decide) (by rw [s1_1]; decide) (by decide) ?_
    show WS layC V 2 X σ 48 [(0, rf V 0), (1, .int q)] []
    refine WS.aload_n hx dX10_count_48 rfl 0 rfl ?_
    refine WS.getR hx okX10 lf10_12 rfl rfl dX10_count_49 ?_
    refine WS.callVi (st := []) [] hx (c_X7_openOnes V d σ n hQ) okX7_openOnes lm10_340 rfl rfl rfl rfl (Nat.le_of_ble_eq_true rfl) dX10_count_52 (fun v4 σ5 h6 => ?_)
    obtain ⟨rfl, rfl⟩ := h6
    show WS layC V 2 X σ 55 [(0, rf V 0), (1, .int q)] [.int (l_sum (σ.1 14) n)]
    exact WS.iret hx he dX10_count_55 ⟨_, rfl, by unfold cntF; rw [if_neg s1_0, if_pos s1_1, ← hQ.o.1], rfl⟩
  by_cases s1_2 : q = 2
  · refine WS.tableIn (off := 55) (tgt := 56) hx dX10_count_1 (by rw [s1_2]; decide) (by rw [s1_2]; decide) (by rw [s1_2]; decide) (by decide) ?_
    show WS layC V 2 X σ 56 [(0, rf V 0), (1, .int q)] []
    refine WS.aload_n hx dX10_count_56 rfl 0 rfl ?_
    refine WS.getI hx okX10 lf10_132 rfl rfl dX10_count_57 ?_
    exact WS.iret hx he dX10_count_60 ⟨_, rfl, by unfold cntF; rw [if_neg s1_0, if_neg s1_1, if_pos s1_2], rfl⟩
  by_cases s1_3 : q = 3
  · refine WS.tableIn (off := 60) (tgt := 61) hx dX10_count_1 (by rw [s1_3]; decide) (by rw [s1_3]; decide) (by rw [s1_3]; decide) (by decide) ?_
    show WS layC V 2 X σ 61 [(0, rf V 0), (1, .int q)] []
    refine WS.aload_n hx dX10_count_61 rfl 0 rfl ?_
    refine WS.getR hx okX10 lf10_62 rfl rfl dX10_count_62 ?_
    refine WS.callVi (st := []) [] hx (c_X2_mayBeUndone V d σ) okX2_mayBeUndone lm10_270 rfl rfl rfl rfl (Nat.le_of_ble_eq_true rfl) dX10_count_65 (fun v7 σ8 h9 => ?_)
    obtain ⟨rfl, rfl⟩ := h9
    show WS layC V 2 X σ 68 [(0, rf V 0), (1, .int q)] [.int (σ.1 8 5)]
    exact WS.iret hx he dX10_count_68 ⟨_, rfl, by unfold cntF; rw [if_neg s1_0, if_neg s1_1, if_neg s1_2, if_pos s1_3], rfl⟩
  by_cases s1_4 : q = 4
  · refine WS.tableIn (off := 68) (tgt := 69) hx dX10_count_1 (by rw [s1_4]; decide) (by rw [s1_4]; decide) (by rw [s1_4]; decide) (by decide) ?_
    show WS layC V 2 X σ 69 [(0, rf V 0), (1, .int q)] []
    refine WS.aload_n hx dX10_count_69 rfl 0 rfl ?_
    refine WS.getR hx okX10 lf10_69 rfl rfl dX10_count_70 ?_
    refine WS.callVi (st := []) [] hx (c_X1_size V d σ) okX1_size lm10_343 rfl rfl rfl rfl (Nat.le_of_ble_eq_true rfl) dX10_count_73 (fun v10 σ11 h12 => ?_)
    obtain ⟨rfl, rfl⟩ := h12
    show WS layC V 2 X σ 76 [(0, rf V 0), (1, .int q)] [.int (σ.1 9 2)]
    exact WS.iret hx he dX10_count_76 ⟨_, rfl, by unfold cntF; rw [if_neg s1_0, if_neg s1_1, if_neg s1_2, if_neg s1_3, if_pos s1_4], rfl⟩
  by_cases s1_5 : q = 5
  · refine WS.tableIn (off := 76) (tgt := 77) hx dX10_count_1 (by rw [s1_5]; decide) (by rw [s1_5]; decide) (by rw [s1_5]; decide) (by decide) ?_
    show WS layC V 2 X σ 77 [(0, rf V 0), (1, .int q)] []
    refine WS.aload_n hx dX10_count_77 rfl 0 rfl ?_
    refine WS.getR hx okX10 lf10_69 rfl rfl dX10_count_78 ?_
    refine WS.callVi (st := []) [] hx (c_X1_ran V d σ) okX1_ran lm10_344 rfl rfl rfl rfl (Nat.le_of_ble_eq_true rfl) dX10_count_81 (fun v13 σ14 h15 => ?_)
    obtain ⟨rfl, rfl⟩ := h15
    show WS layC V 2 X σ 84 [(0, rf V 0), (1, .int q)] [.int (σ.1 9 3)]
    exact WS.iret hx he dX10_count_84 ⟨_, rfl, by unfold cntF; rw [if_neg s1_0, if_neg s1_1, if_neg s1_2, if_neg s1_3, if_neg s1_4, if_pos s1_5], rfl⟩
  refine WS.tableOut (tgt := 85) hx dX10_count_1 (sw_out q 0 5 (by simp only [i_eq, tI_0, tI_1, tI_2, tI_3, tI_4, tI_5] at *; omega)) (by decide) ?_
  show WS layC V 2 X σ 85 [(0, rf V 0), (1, .int q)] []
  refine WS.iconst (v := (-1)) hx dX10_count_85 (by decide) ?_
  exact WS.iret hx he dX10_count_86 ⟨_, rfl, by unfold cntF; rw [if_neg s1_0, if_neg s1_1, if_neg s1_2, if_neg s1_3, if_neg s1_4, if_neg s1_5], rfl⟩
