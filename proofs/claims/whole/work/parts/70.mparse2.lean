theorem dg_nm {c : Int32} (h : isDg c = true) : nmF c = -1 := by
  obtain ⟨a, b, -⟩ := dg_n h
  have k : ∀ m : Int32, 57 < m.toInt → ¬ c = m := fun m hm e => by rw [e] at b; omega
  unfold nmF
  rw [if_neg (k 97 (by decide)), if_neg (k 98 (by decide)), if_neg (k 110 (by decide)), if_neg (k 111 (by decide)), if_neg (k 119 (by decide)), if_neg (k 121 (by decide))]
theorem MS.na {μ0 τ : Sg} {L op M0 b : Nat} {s : Ps} {c kb : Int32} (h : MS μ0 τ L op M0 b (true, wr c (adv s))) (hl : s.2.1 < 128) : MS μ0 τ L op M0 b (true, adv (wr c (s.1, s.2.1, s.2.2.1, kb))) := by
  rw [wr_lt (s := adv s) (show s.2.1 < 128 from hl)] at h
  rw [wr_lt (s := (s.1, s.2.1, s.2.2.1, kb)) (show s.2.1 < 128 from hl)]
  exact h
theorem MS.lr {μ0 τ : Sg} {L op M0 b : Nat} {s : Ps} (h : MS μ0 τ L op M0 b (true, s)) : M0 + (s.2.1 - b) < (adv s).1 ∧ s.2.1 < (adv s).1 := by
  obtain ⟨a1, a2, a3, a4, -⟩ := h.2.2.2.2.2.2.2 rfl
  exact ⟨Nat.lt_succ_of_le a4, Nat.lt_succ_of_le a3⟩
theorem nb_1 {t : Nat → Int32} {L : Nat} {s : Ps} (hd : isDg (cm t L s) = true) : nbF t L 4 0 s = nbF t L 3 (0 * 10 + cm t L s - 48) (adv s) := by
  rw [nbF, if_pos hd]
set_option maxHeartbeats 1000000 in
theorem lp_X11_readsOne (V : Vt) (d : Nat) (t : Nat → Int32) (μ0 : Sg) (L op M0 b : Nat) (hL : L ≤ 120) (hT : ∀ j, j < L → μ0.1 5 j = t j) (h8 : μ0.1 0 8 = nI L) (c9 n9 : Int32) (Rn : Int32 × Ps) (hv : 0 ≤ Rn.1.toInt) (X : Xt) (hx : Ok V RX11 cX11_readsOne 5 (d + 1) X) (he : En layM V none (Rv fun σ' => MS μ0 σ' L op M0 b (true, wr Rn.1 Rn.2)) X) : ∀ (u i : Nat) (v : Int32) (s9 : Ps) (τ : Sg), i + u = 4 → 1 ≤ i → MS μ0 τ L op M0 b (true, s9) → (M0 + (s9.2.1 - b) < s9.1 ∧ s9.2.1 < s9.1) → nbF t L u v s9 = Rn → WS layM V 5 X τ 157 [(4, .int (nI i)), (3, .int v), (0, rf V 0), (1, .int c9), (2, .int n9)] [] := by
  intro u
  induction u with
  | zero =>
    intro i v s9 τ hiu hi1 hS hw hR
    have hiI : (nI i).toInt = (i : Int) := nI_c (by omega)
    have hR : (v, s9) = Rn := hR
    refine WS.iload hx dX11_readsOne_157 0 rfl ?_
    refine WS.iconst (v := 4) hx dX11_readsOne_159 (by decide) ?_
    refine WS.icmp_ge (tgt := 210) hx dX11_readsOne_160 (by decide) (fun c160 => ?_) (fun c160 => by exfalso; (try simp only [l_int, tL_0, tL_1, tL_2, tL_4, tL_5, tL_6, tL_7, tL_9, tL_10, tL_12, tL_15, tL_30, tL_40, tL_60, tL_99, tL_255, tL_1023, tL_m1, lc_lt, lc_gt, lc_ge, lc_le, lc_eq, l6_le, l6_lt, l6_eq, tI_m133, tI_m226, i_le, i_lt, i_eq, tI_m1, tI_0, tI_1, tI_4, tI_6, tI_10, tI_40, tI_41, tI_45, tI_48, tI_57] at c160); (try simp only [l_int, tL_0, tL_1, tL_2, tL_4, tL_5, tL_6, tL_7, tL_9, tL_10, tL_12, tL_15, tL_30, tL_40, tL_60, tL_99, tL_255, tL_1023, tL_m1, lc_lt, lc_gt, lc_ge, lc_le, lc_eq, l6_le, l6_lt, l6_eq, tI_m133, tI_m226, i_le, i_lt, i_eq, tI_m1, tI_0, tI_1, tI_4, tI_6, tI_10, tI_40, tI_41, tI_45, tI_48, tI_57]); omega)
    refine WS.iload hx dX11_readsOne_210 0 rfl ?_
    refine WS.if_ne (tgt := 219) hx dX11_readsOne_212 (by decide) (fun c212 => ?_) (fun c212 => by exfalso; (try simp only [l_int, tL_0, tL_1, tL_2, tL_4, tL_5, tL_6, tL_7, tL_9, tL_10, tL_12, tL_15, tL_30, tL_40, tL_60, tL_99, tL_255, tL_1023, tL_m1, lc_lt, lc_gt, lc_ge, lc_le, lc_eq, l6_le, l6_lt, l6_eq, tI_m133, tI_m226, i_le, i_lt, i_eq, tI_m1, tI_0, tI_1, tI_4, tI_6, tI_10, tI_40, tI_41, tI_45, tI_48, tI_57] at c160); (try simp only [l_int, tL_0, tL_1, tL_2, tL_4, tL_5, tL_6, tL_7, tL_9, tL_10, tL_12, tL_15, tL_30, tL_40, tL_60, tL_99, tL_255, tL_1023, tL_m1, lc_lt, lc_gt, lc_ge, lc_le, lc_eq, l6_le, l6_lt, l6_eq, tI_m133, tI_m226, i_le, i_lt, i_eq, tI_m1, tI_0, tI_1, tI_4, tI_6, tI_10, tI_40, tI_41, tI_45, tI_48, tI_57] at c212); (try simp only [l_int, tL_0, tL_1, tL_2, tL_4, tL_5, tL_6, tL_7, tL_9, tL_10, tL_12, tL_15, tL_30, tL_40, tL_60, tL_99, tL_255, tL_1023, tL_m1, lc_lt, lc_gt, lc_ge, lc_le, lc_eq, l6_le, l6_lt, l6_eq, tI_m133, tI_m226, i_le, i_lt, i_eq, tI_m1, tI_0, tI_1, tI_4, tI_6, tI_10, tI_40, tI_41, tI_45, tI_48, tI_57]); omega)
    refine WS.aload_n hx dX11_readsOne_219 rfl 2 rfl ?_
    refine WS.iload_n hx dX11_readsOne_220 rfl 1 rfl ?_
    refine WS.callVv (st := []) [.int v] hx (c_X11_writes V d τ t μ0 L op M0 b hL hT h8 (true, s9) hS (fun _ => hw) v v (PH_n (by have h9 : v = Rn.1 := congrArg Prod.fst hR; rw [h9]; omega))) okX11_writes lm11_171 rfl rfl rfl rfl (Nat.le_of_ble_eq_true rfl) dX11_readsOne_221 (fun σ2 h3 => ?_)
    have ms221 := h3
    show WS layM V 5 X σ2 224 [(4, .int (nI i)), (3, .int v), (0, rf V 0), (1, .int c9), (2, .int n9)] []
    exact WS.vret hx he dX11_readsOne_224 ⟨rfl, by rw [← hR]; exact ms221⟩
  | succ u ih =>
    intro i v s9 τ hiu hi1 hS hw hR
    have hiI : (nI i).toInt = (i : Int) := nI_c (by omega)
    unfold nbF at hR
    refine WS.iload hx dX11_readsOne_157 0 rfl ?_
    refine WS.iconst (v := 4) hx dX11_readsOne_159 (by decide) ?_
    refine WS.icmp_ge (tgt := 210) hx dX11_readsOne_160 (by decide) (fun c160 => by exfalso; (try simp only [l_int, tL_0, tL_1, tL_2, tL_4, tL_5, tL_6, tL_7, tL_9, tL_10, tL_12, tL_15, tL_30, tL_40, tL_60, tL_99, tL_255, tL_1023, tL_m1, lc_lt, lc_gt, lc_ge, lc_le, lc_eq, l6_le, l6_lt, l6_eq, tI_m133, tI_m226, i_le, i_lt, i_eq, tI_m1, tI_0, tI_1, tI_4, tI_6, tI_10, tI_40, tI_41, tI_45, tI_48, tI_57] at c160); (try simp only [l_int, tL_0, tL_1, tL_2, tL_4, tL_5, tL_6, tL_7, tL_9, tL_10, tL_12, tL_15, tL_30, tL_40, tL_60, tL_99, tL_255, tL_1023, tL_m1, lc_lt, lc_gt, lc_ge, lc_le, lc_eq, l6_le, l6_lt, l6_eq, tI_m133, tI_m226, i_le, i_lt, i_eq, tI_m1, tI_0, tI_1, tI_4, tI_6, tI_10, tI_40, tI_41, tI_45, tI_48, tI_57]); omega) (fun c160 => ?_)
    refine WS.aload_n hx dX11_readsOne_163 rfl 2 rfl ?_
    refine WS.callVi (st := []) [] hx (c_X11_byteAt V d τ t μ0 L op M0 b hL hT h8 (true, s9) hS) okX11_byteAt lm11_158 rfl rfl rfl rfl (Nat.le_of_ble_eq_true rfl) dX11_readsOne_164 (fun v1 σ2 h3 => ?_)
    obtain ⟨rfl, rfl⟩ := h3
    show WS layM V 5 X τ 167 [(4, .int (nI i)), (3, .int v), (0, rf V 0), (1, .int c9), (2, .int n9)] [.int (bM t L s9.1)]
    refine WS.bipush (v := 48) hx dX11_readsOne_167 (by decide) ?_
    refine WS.icmp_lt (tgt := 210) hx dX11_readsOne_169 (by decide) (fun c169 => ?_) (fun c169 => ?_)
    · skip
      show WS layM V 5 X τ 210 [(4, .int (nI i)), (3, .int v), (0, rf V 0), (1, .int c9), (2, .int n9)] []
      rw [if_neg (fun h => by have h9 := (bM_dg (t := t) (L := L) (s := s9)).mpr h; (try simp only [l_int, tL_0, tL_1, tL_2, tL_4, tL_5, tL_6, tL_7, tL_9, tL_10, tL_12, tL_15, tL_30, tL_40, tL_60, tL_99, tL_255, tL_1023, tL_m1, lc_lt, lc_gt, lc_ge, lc_le, lc_eq, l6_le, l6_lt, l6_eq, tI_m133, tI_m226, i_le, i_lt, i_eq, tI_m1, tI_0, tI_1, tI_4, tI_6, tI_10, tI_40, tI_41, tI_45, tI_48, tI_57] at c160); (try simp only [l_int, tL_0, tL_1, tL_2, tL_4, tL_5, tL_6, tL_7, tL_9, tL_10, tL_12, tL_15, tL_30, tL_40, tL_60, tL_99, tL_255, tL_1023, tL_m1, lc_lt, lc_gt, lc_ge, lc_le, lc_eq, l6_le, l6_lt, l6_eq, tI_m133, tI_m226, i_le, i_lt, i_eq, tI_m1, tI_0, tI_1, tI_4, tI_6, tI_10, tI_40, tI_41, tI_45, tI_48, tI_57] at c169); (try simp only [l_int, tL_0, tL_1, tL_2, tL_4, tL_5, tL_6, tL_7, tL_9, tL_10, tL_12, tL_15, tL_30, tL_40, tL_60, tL_99, tL_255, tL_1023, tL_m1, lc_lt, lc_gt, lc_ge, lc_le, lc_eq, l6_le, l6_lt, l6_eq, tI_m133, tI_m226, i_le, i_lt, i_eq, tI_m1, tI_0, tI_1, tI_4, tI_6, tI_10, tI_40, tI_41, tI_45, tI_48, tI_57]); omega)] at hR
      refine WS.iload hx dX11_readsOne_210 0 rfl ?_
      refine WS.if_ne (tgt := 219) hx dX11_readsOne_212 (by decide) (fun c212 => ?_) (fun c212 => by exfalso; (try simp only [l_int, tL_0, tL_1, tL_2, tL_4, tL_5, tL_6, tL_7, tL_9, tL_10, tL_12, tL_15, tL_30, tL_40, tL_60, tL_99, tL_255, tL_1023, tL_m1, lc_lt, lc_gt, lc_ge, lc_le, lc_eq, l6_le, l6_lt, l6_eq, tI_m133, tI_m226, i_le, i_lt, i_eq, tI_m1, tI_0, tI_1, tI_4, tI_6, tI_10, tI_40, tI_41, tI_45, tI_48, tI_57] at c160); (try simp only [l_int, tL_0, tL_1, tL_2, tL_4, tL_5, tL_6, tL_7, tL_9, tL_10, tL_12, tL_15, tL_30, tL_40, tL_60, tL_99, tL_255, tL_1023, tL_m1, lc_lt, lc_gt, lc_ge, lc_le, lc_eq, l6_le, l6_lt, l6_eq, tI_m133, tI_m226, i_le, i_lt, i_eq, tI_m1, tI_0, tI_1, tI_4, tI_6, tI_10, tI_40, tI_41, tI_45, tI_48, tI_57] at c169); (try simp only [l_int, tL_0, tL_1, tL_2, tL_4, tL_5, tL_6, tL_7, tL_9, tL_10, tL_12, tL_15, tL_30, tL_40, tL_60, tL_99, tL_255, tL_1023, tL_m1, lc_lt, lc_gt, lc_ge, lc_le, lc_eq, l6_le, l6_lt, l6_eq, tI_m133, tI_m226, i_le, i_lt, i_eq, tI_m1, tI_0, tI_1, tI_4, tI_6, tI_10, tI_40, tI_41, tI_45, tI_48, tI_57] at c212); (try simp only [l_int, tL_0, tL_1, tL_2, tL_4, tL_5, tL_6, tL_7, tL_9, tL_10, tL_12, tL_15, tL_30, tL_40, tL_60, tL_99, tL_255, tL_1023, tL_m1, lc_lt, lc_gt, lc_ge, lc_le, lc_eq, l6_le, l6_lt, l6_eq, tI_m133, tI_m226, i_le, i_lt, i_eq, tI_m1, tI_0, tI_1, tI_4, tI_6, tI_10, tI_40, tI_41, tI_45, tI_48, tI_57]); omega)
      refine WS.aload_n hx dX11_readsOne_219 rfl 2 rfl ?_
      refine WS.iload_n hx dX11_readsOne_220 rfl 1 rfl ?_
      refine WS.callVv (st := []) [.int v] hx (c_X11_writes V d τ t μ0 L op M0 b hL hT h8 (true, s9) hS (fun _ => hw) v v (PH_n (by have h9 : v = Rn.1 := congrArg Prod.fst hR; rw [h9]; omega))) okX11_writes lm11_171 rfl rfl rfl rfl (Nat.le_of_ble_eq_true rfl) dX11_readsOne_221 (fun σ5 h6 => ?_)
      have ms221 := h6
      show WS layM V 5 X σ5 224 [(4, .int (nI i)), (3, .int v), (0, rf V 0), (1, .int c9), (2, .int n9)] []
      exact WS.vret hx he dX11_readsOne_224 ⟨rfl, by rw [← hR]; exact ms221⟩
    · skip
      show WS layM V 5 X τ 172 [(4, .int (nI i)), (3, .int v), (0, rf V 0), (1, .int c9), (2, .int n9)] []
      refine WS.aload_n hx dX11_readsOne_172 rfl 2 rfl ?_
      refine WS.callVi (st := []) [] hx (c_X11_byteAt V d τ t μ0 L op M0 b hL hT h8 (true, s9) hS) okX11_byteAt lm11_158 rfl rfl rfl rfl (Nat.le_of_ble_eq_true rfl) dX11_readsOne_173 (fun v7 σ8 h9 => ?_)
      obtain ⟨rfl, rfl⟩ := h9
      show WS layM V 5 X τ 176 [(4, .int (nI i)), (3, .int v), (0, rf V 0), (1, .int c9), (2, .int n9)] [.int (bM t L s9.1)]
      refine WS.bipush (v := 57) hx dX11_readsOne_176 (by decide) ?_
      refine WS.icmp_gt (tgt := 210) hx dX11_readsOne_178 (by decide) (fun c178 => ?_) (fun c178 => ?_)
      · skip
        show WS layM V 5 X τ 210 [(4, .int (nI i)), (3, .int v), (0, rf V 0), (1, .int c9), (2, .int n9)] []
        rw [if_neg (fun h => by have h9 := (bM_dg (t := t) (L := L) (s := s9)).mpr h; (try simp only [l_int, tL_0, tL_1, tL_2, tL_4, tL_5, tL_6, tL_7, tL_9, tL_10, tL_12, tL_15, tL_30, tL_40, tL_60, tL_99, tL_255, tL_1023, tL_m1, lc_lt, lc_gt, lc_ge, lc_le, lc_eq, l6_le, l6_lt, l6_eq, tI_m133, tI_m226, i_le, i_lt, i_eq, tI_m1, tI_0, tI_1, tI_4, tI_6, tI_10, tI_40, tI_41, tI_45, tI_48, tI_57] at c160); (try simp only [l_int, tL_0, tL_1, tL_2, tL_4, tL_5, tL_6, tL_7, tL_9, tL_10, tL_12, tL_15, tL_30, tL_40, tL_60, tL_99, tL_255, tL_1023, tL_m1, lc_lt, lc_gt, lc_ge, lc_le, lc_eq, l6_le, l6_lt, l6_eq, tI_m133, tI_m226, i_le, i_lt, i_eq, tI_m1, tI_0, tI_1, tI_4, tI_6, tI_10, tI_40, tI_41, tI_45, tI_48, tI_57] at c169); (try simp only [l_int, tL_0, tL_1, tL_2, tL_4, tL_5, tL_6, tL_7, tL_9, tL_10, tL_12, tL_15, tL_30, tL_40, tL_60, tL_99, tL_255, tL_1023, tL_m1, lc_lt, lc_gt, lc_ge, lc_le, lc_eq, l6_le, l6_lt, l6_eq, tI_m133, tI_m226, i_le, i_lt, i_eq, tI_m1, tI_0, tI_1, tI_4, tI_6, tI_10, tI_40, tI_41, tI_45, tI_48, tI_57] at c178); (try simp only [l_int, tL_0, tL_1, tL_2, tL_4, tL_5, tL_6, tL_7, tL_9, tL_10, tL_12, tL_15, tL_30, tL_40, tL_60, tL_99, tL_255, tL_1023, tL_m1, lc_lt, lc_gt, lc_ge, lc_le, lc_eq, l6_le, l6_lt, l6_eq, tI_m133, tI_m226, i_le, i_lt, i_eq, tI_m1, tI_0, tI_1, tI_4, tI_6, tI_10, tI_40, tI_41, tI_45, tI_48, tI_57]); omega)] at hR
        refine WS.iload hx dX11_readsOne_210 0 rfl ?_
        refine WS.if_ne (tgt := 219) hx dX11_readsOne_212 (by decide) (fun c212 => ?_) (fun c212 => by exfalso; (try simp only [l_int, tL_0, tL_1, tL_2, tL_4, tL_5, tL_6, tL_7, tL_9, tL_10, tL_12, tL_15, tL_30, tL_40, tL_60, tL_99, tL_255, tL_1023, tL_m1, lc_lt, lc_gt, lc_ge, lc_le, lc_eq, l6_le, l6_lt, l6_eq, tI_m133, tI_m226, i_le, i_lt, i_eq, tI_m1, tI_0, tI_1, tI_4, tI_6, tI_10, tI_40, tI_41, tI_45, tI_48, tI_57] at c160); (try simp only [l_int, tL_0, tL_1, tL_2, tL_4, tL_5, tL_6, tL_7, tL_9, tL_10, tL_12, tL_15, tL_30, tL_40, tL_60, tL_99, tL_255, tL_1023, tL_m1, lc_lt, lc_gt, lc_ge, lc_le, lc_eq, l6_le, l6_lt, l6_eq, tI_m133, tI_m226, i_le, i_lt, i_eq, tI_m1, tI_0, tI_1, tI_4, tI_6, tI_10, tI_40, tI_41, tI_45, tI_48, tI_57] at c169); (try simp only [l_int, tL_0, tL_1, tL_2, tL_4, tL_5, tL_6, tL_7, tL_9, tL_10, tL_12, tL_15, tL_30, tL_40, tL_60, tL_99, tL_255, tL_1023, tL_m1, lc_lt, lc_gt, lc_ge, lc_le, lc_eq, l6_le, l6_lt, l6_eq, tI_m133, tI_m226, i_le, i_lt, i_eq, tI_m1, tI_0, tI_1, tI_4, tI_6, tI_10, tI_40, tI_41, tI_45, tI_48, tI_57] at c178); (try simp only [l_int, tL_0, tL_1, tL_2, tL_4, tL_5, tL_6, tL_7, tL_9, tL_10, tL_12, tL_15, tL_30, tL_40, tL_60, tL_99, tL_255, tL_1023, tL_m1, lc_lt, lc_gt, lc_ge, lc_le, lc_eq, l6_le, l6_lt, l6_eq, tI_m133, tI_m226, i_le, i_lt, i_eq, tI_m1, tI_0, tI_1, tI_4, tI_6, tI_10, tI_40, tI_41, tI_45, tI_48, tI_57] at c212); (try simp only [l_int, tL_0, tL_1, tL_2, tL_4, tL_5, tL_6, tL_7, tL_9, tL_10, tL_12, tL_15, tL_30, tL_40, tL_60, tL_99, tL_255, tL_1023, tL_m1, lc_lt, lc_gt, lc_ge, lc_le, lc_eq, l6_le, l6_lt, l6_eq, tI_m133, tI_m226, i_le, i_lt, i_eq, tI_m1, tI_0, tI_1, tI_4, tI_6, tI_10, tI_40, tI_41, tI_45, tI_48, tI_57]); omega)
        refine WS.aload_n hx dX11_readsOne_219 rfl 2 rfl ?_
        refine WS.iload_n hx dX11_readsOne_220 rfl 1 rfl ?_
        refine WS.callVv (st := []) [.int v] hx (c_X11_writes V d τ t μ0 L op M0 b hL hT h8 (true, s9) hS (fun _ => hw) v v (PH_n (by have h9 : v = Rn.1 := congrArg Prod.fst hR; rw [h9]; omega))) okX11_writes lm11_171 rfl rfl rfl rfl (Nat.le_of_ble_eq_true rfl) dX11_readsOne_221 (fun σ11 h12 => ?_)
        have ms221 := h12
        show WS layM V 5 X σ11 224 [(4, .int (nI i)), (3, .int v), (0, rf V 0), (1, .int c9), (2, .int n9)] []
        exact WS.vret hx he dX11_readsOne_224 ⟨rfl, by rw [← hR]; exact ms221⟩
      · skip
        show WS layM V 5 X τ 181 [(4, .int (nI i)), (3, .int v), (0, rf V 0), (1, .int c9), (2, .int n9)] []
        have hdg : isDg (cm t L s9) = true := (bM_dg (t := t) (L := L) (s := s9)).mp (by (try simp only [l_int, tL_0, tL_1, tL_2, tL_4, tL_5, tL_6, tL_7, tL_9, tL_10, tL_12, tL_15, tL_30, tL_40, tL_60, tL_99, tL_255, tL_1023, tL_m1, lc_lt, lc_gt, lc_ge, lc_le, lc_eq, l6_le, l6_lt, l6_eq, tI_m133, tI_m226, i_le, i_lt, i_eq, tI_m1, tI_0, tI_1, tI_4, tI_6, tI_10, tI_40, tI_41, tI_45, tI_48, tI_57] at c160); (try simp only [l_int, tL_0, tL_1, tL_2, tL_4, tL_5, tL_6, tL_7, tL_9, tL_10, tL_12, tL_15, tL_30, tL_40, tL_60, tL_99, tL_255, tL_1023, tL_m1, lc_lt, lc_gt, lc_ge, lc_le, lc_eq, l6_le, l6_lt, l6_eq, tI_m133, tI_m226, i_le, i_lt, i_eq, tI_m1, tI_0, tI_1, tI_4, tI_6, tI_10, tI_40, tI_41, tI_45, tI_48, tI_57] at c169); (try simp only [l_int, tL_0, tL_1, tL_2, tL_4, tL_5, tL_6, tL_7, tL_9, tL_10, tL_12, tL_15, tL_30, tL_40, tL_60, tL_99, tL_255, tL_1023, tL_m1, lc_lt, lc_gt, lc_ge, lc_le, lc_eq, l6_le, l6_lt, l6_eq, tI_m133, tI_m226, i_le, i_lt, i_eq, tI_m1, tI_0, tI_1, tI_4, tI_6, tI_10, tI_40, tI_41, tI_45, tI_48, tI_57] at c178); omega)
        rw [if_pos hdg] at hR
        have hlt : s9.1 < L := cm_lt (t := t) (dg_n hdg).2.2
        refine WS.bipush (v := 10) hx dX11_readsOne_181 (by decide) ?_
        refine WS.iload_n hx dX11_readsOne_183 rfl 1 rfl ?_
        refine WS.imul hx dX11_readsOne_184 ?_
        refine WS.aload_n hx dX11_readsOne_185 rfl 2 rfl ?_
        refine WS.callVi (st := [.int (10 * v)]) [] hx (c_X11_byteAt V d τ t μ0 L op M0 b hL hT h8 (true, s9) hS) okX11_byteAt lm11_158 rfl rfl rfl rfl (Nat.le_of_ble_eq_true rfl) dX11_readsOne_186 (fun v13 σ14 h15 => ?_)
        obtain ⟨rfl, rfl⟩ := h15
        show WS layM V 5 X τ 189 [(4, .int (nI i)), (3, .int v), (0, rf V 0), (1, .int c9), (2, .int n9)] [.int (bM t L s9.1), .int (10 * v)]
        refine WS.iadd hx dX11_readsOne_189 ?_
        refine WS.bipush (v := 48) hx dX11_readsOne_190 (by decide) ?_
        refine WS.isub hx dX11_readsOne_192 ?_
        refine WS.as rfl rfl (congrArg (fun z => Value.int z :: _) (show ((10 * v) + (bM t L s9.1)) - 48 = v * 10 + cm t L s9 - 48 from by rw [bM_lt hlt, Int32.mul_comm])) ?_
        skip
        refine WS.istore_n (lo' := [(3, .int (v * 10 + cm t L s9 - 48)), (4, .int (nI i)), (0, rf V 0), (1, .int c9), (2, .int n9)]) hx dX11_readsOne_193 rfl (by decide) rfl ?_
        refine WS.iinc (v := nI (i + 1)) (lo' := [(4, .int (nI (i + 1))), (3, .int (v * 10 + cm t L s9 - 48)), (0, rf V 0), (1, .int c9), (2, .int n9)]) hx dX11_readsOne_194 1 rfl (nI_1 i) (by decide) rfl ?_
        refine WS.aload_n hx dX11_readsOne_197 rfl 2 rfl ?_
        refine WS.dup hx dX11_readsOne_198 rfl ?_
        refine WS.getI hx okX11 lf11_152 rfl rfl dX11_readsOne_199 ?_
        refine WS.as rfl rfl (congrArg (fun z => Value.int z :: _) (show τ.1 0 18 = nI s9.1 from hS.2.2.2.1)) ?_
        skip
        refine WS.iconst (v := 1) hx dX11_readsOne_202 (by decide) ?_
        refine WS.iadd hx dX11_readsOne_203 ?_
        refine WS.as rfl rfl (congrArg (fun z => Value.int z :: _) (show (nI s9.1) + 1 = nI (s9.1 + 1) from nI_1 _)) ?_
        skip
        refine WS.putI hx okX11 lf11_152 rfl rfl rfl rfl dX11_readsOne_204 ?_
        refine WS.goto (tgt := 157) hx dX11_readsOne_207 (by decide) ?_
        exact WS.los [0, 1, 2, 3, 4] rfl (ih (i + 1) _ (adv s9) _ (by omega) (by omega) (hS.ad hlt) hS.lr hR)
set_option maxHeartbeats 1000000 in
theorem ld_X11_readsOne (V : Vt) (d : Nat) (σ : Sg) (t : Nat → Int32) (μ0 : Sg) (L op M0 b : Nat) (hL : L ≤ 120) (hT : ∀ j, j < L → μ0.1 5 j = t j) (h8 : μ0.1 0 8 = nI L) (c9 n9 : Int32) (s : Ps) (hS : MS μ0 σ L op M0 b (true, s)) (X : Xt) (hx : Ok V RX11 cX11_readsOne 5 (d + 1) X) (hE1 : ¬ isDg (cm t L s) = true → En layM V none (Rv fun σ' => MS μ0 σ' L op M0 b ((false, s))) X) (hE2 : isDg (cm t L s) = true → En layM V none (Rv fun σ' => MS μ0 σ' L op M0 b ((true, nuF t L s))) X) : WS layM V 5 X σ 157 [(4, .int 0), (3, .int 0), (2, .int n9), (1, .int c9), (0, rf V 0)] [] := by
  refine WS.iload hx dX11_readsOne_157 0 rfl ?_
  refine WS.iconst (v := 4) hx dX11_readsOne_159 (by decide) ?_
  refine WS.icmp_ge (tgt := 210) hx dX11_readsOne_160 (by decide) (fun h => absurd h (by decide)) (fun _ => ?_)
  refine WS.aload_n hx dX11_readsOne_163 rfl 4 rfl ?_
  refine WS.callVi (st := []) [] hx (c_X11_byteAt V d σ t μ0 L op M0 b hL hT h8 (true, s) hS) okX11_byteAt lm11_158 rfl rfl rfl rfl (Nat.le_of_ble_eq_true rfl) dX11_readsOne_164 (fun v1 σ2 h3 => ?_)
  obtain ⟨rfl, rfl⟩ := h3
  show WS layM V 5 X σ 167 [(4, .int 0), (3, .int 0), (2, .int n9), (1, .int c9), (0, rf V 0)] [.int (bM t L s.1)]
  refine WS.bipush (v := 48) hx dX11_readsOne_167 (by decide) ?_
  refine WS.icmp_lt (tgt := 210) hx dX11_readsOne_169 (by decide) (fun c169 => ?_) (fun c169 => ?_)
  · skip
    show WS layM V 5 X σ 210 [(4, .int 0), (3, .int 0), (2, .int n9), (1, .int c9), (0, rf V 0)] []
    have he := hE1 (fun h => by have h9 := (bM_dg (t := t) (L := L) (s := s)).mpr h; (try simp only [l_int, tL_0, tL_1, tL_2, tL_4, tL_5, tL_6, tL_7, tL_9, tL_10, tL_12, tL_15, tL_30, tL_40, tL_60, tL_99, tL_255, tL_1023, tL_m1, lc_lt, lc_gt, lc_ge, lc_le, lc_eq, l6_le, l6_lt, l6_eq, tI_m133, tI_m226, i_le, i_lt, i_eq, tI_m1, tI_0, tI_1, tI_4, tI_6, tI_10, tI_40, tI_41, tI_45, tI_48, tI_57] at c169); (try simp only [l_int, tL_0, tL_1, tL_2, tL_4, tL_5, tL_6, tL_7, tL_9, tL_10, tL_12, tL_15, tL_30, tL_40, tL_60, tL_99, tL_255, tL_1023, tL_m1, lc_lt, lc_gt, lc_ge, lc_le, lc_eq, l6_le, l6_lt, l6_eq, tI_m133, tI_m226, i_le, i_lt, i_eq, tI_m1, tI_0, tI_1, tI_4, tI_6, tI_10, tI_40, tI_41, tI_45, tI_48, tI_57]); omega)
    refine WS.iload hx dX11_readsOne_210 0 rfl ?_
    refine WS.if_ne (tgt := 219) hx dX11_readsOne_212 (by decide) (fun h => absurd (by decide) h) (fun _ => ?_)
    refine WS.aload_n hx dX11_readsOne_215 rfl 4 rfl ?_
    refine WS.callVv (st := []) [] hx (c_X11_wrong V d σ t μ0 L op M0 b hL hT h8 (true, s) hS) okX11_wrong lm11_190 rfl rfl rfl rfl (Nat.le_of_ble_eq_true rfl) dX11_readsOne_216 (fun σ5 h6 => ?_)
    have ms216 := h6
    show WS layM V 5 X σ5 219 [(4, .int 0), (3, .int 0), (2, .int n9), (1, .int c9), (0, rf V 0)] []
    refine WS.aload_n hx dX11_readsOne_219 rfl 4 rfl ?_
    refine WS.iload_n hx dX11_readsOne_220 rfl 1 rfl ?_
    refine WS.callVv (st := []) [.int 0] hx (c_X11_writes V d σ5 t μ0 L op M0 b hL hT h8 (false, s) ms216 (fun h => Bool.noConfusion h) 0 0 (PH_n (by decide))) okX11_writes lm11_171 rfl rfl rfl rfl (Nat.le_of_ble_eq_true rfl) dX11_readsOne_221 (fun σ8 h9 => ?_)
    have ms221 := h9
    show WS layM V 5 X σ8 224 [(4, .int 0), (3, .int 0), (2, .int n9), (1, .int c9), (0, rf V 0)] []
    exact WS.vret hx he dX11_readsOne_224 ⟨rfl, ms221.f2 wr_p.symm⟩
  · skip
    show WS layM V 5 X σ 172 [(4, .int 0), (3, .int 0), (2, .int n9), (1, .int c9), (0, rf V 0)] []
    refine WS.aload_n hx dX11_readsOne_172 rfl 4 rfl ?_
    refine WS.callVi (st := []) [] hx (c_X11_byteAt V d σ t μ0 L op M0 b hL hT h8 (true, s) hS) okX11_byteAt lm11_158 rfl rfl rfl rfl (Nat.le_of_ble_eq_true rfl) dX11_readsOne_173 (fun v10 σ11 h12 => ?_)
    obtain ⟨rfl, rfl⟩ := h12
    show WS layM V 5 X σ 176 [(4, .int 0), (3, .int 0), (2, .int n9), (1, .int c9), (0, rf V 0)] [.int (bM t L s.1)]
    refine WS.bipush (v := 57) hx dX11_readsOne_176 (by decide) ?_
    refine WS.icmp_gt (tgt := 210) hx dX11_readsOne_178 (by decide) (fun c178 => ?_) (fun c178 => ?_)
    · skip
      show WS layM V 5 X σ 210 [(4, .int 0), (3, .int 0), (2, .int n9), (1, .int c9), (0, rf V 0)] []
      have he := hE1 (fun h => by have h9 := (bM_dg (t := t) (L := L) (s := s)).mpr h; (try simp only [l_int, tL_0, tL_1, tL_2, tL_4, tL_5, tL_6, tL_7, tL_9, tL_10, tL_12, tL_15, tL_30, tL_40, tL_60, tL_99, tL_255, tL_1023, tL_m1, lc_lt, lc_gt, lc_ge, lc_le, lc_eq, l6_le, l6_lt, l6_eq, tI_m133, tI_m226, i_le, i_lt, i_eq, tI_m1, tI_0, tI_1, tI_4, tI_6, tI_10, tI_40, tI_41, tI_45, tI_48, tI_57] at c169); (try simp only [l_int, tL_0, tL_1, tL_2, tL_4, tL_5, tL_6, tL_7, tL_9, tL_10, tL_12, tL_15, tL_30, tL_40, tL_60, tL_99, tL_255, tL_1023, tL_m1, lc_lt, lc_gt, lc_ge, lc_le, lc_eq, l6_le, l6_lt, l6_eq, tI_m133, tI_m226, i_le, i_lt, i_eq, tI_m1, tI_0, tI_1, tI_4, tI_6, tI_10, tI_40, tI_41, tI_45, tI_48, tI_57] at c178); (try simp only [l_int, tL_0, tL_1, tL_2, tL_4, tL_5, tL_6, tL_7, tL_9, tL_10, tL_12, tL_15, tL_30, tL_40, tL_60, tL_99, tL_255, tL_1023, tL_m1, lc_lt, lc_gt, lc_ge, lc_le, lc_eq, l6_le, l6_lt, l6_eq, tI_m133, tI_m226, i_le, i_lt, i_eq, tI_m1, tI_0, tI_1, tI_4, tI_6, tI_10, tI_40, tI_41, tI_45, tI_48, tI_57]); omega)
      refine WS.iload hx dX11_readsOne_210 0 rfl ?_
      refine WS.if_ne (tgt := 219) hx dX11_readsOne_212 (by decide) (fun h => absurd (by decide) h) (fun _ => ?_)
      refine WS.aload_n hx dX11_readsOne_215 rfl 4 rfl ?_
      refine WS.callVv (st := []) [] hx (c_X11_wrong V d σ t μ0 L op M0 b hL hT h8 (true, s) hS) okX11_wrong lm11_190 rfl rfl rfl rfl (Nat.le_of_ble_eq_true rfl) dX11_readsOne_216 (fun σ14 h15 => ?_)
      have ms216 := h15
      show WS layM V 5 X σ14 219 [(4, .int 0), (3, .int 0), (2, .int n9), (1, .int c9), (0, rf V 0)] []
      refine WS.aload_n hx dX11_readsOne_219 rfl 4 rfl ?_
      refine WS.iload_n hx dX11_readsOne_220 rfl 1 rfl ?_
      refine WS.callVv (st := []) [.int 0] hx (c_X11_writes V d σ14 t μ0 L op M0 b hL hT h8 (false, s) ms216 (fun h => Bool.noConfusion h) 0 0 (PH_n (by decide))) okX11_writes lm11_171 rfl rfl rfl rfl (Nat.le_of_ble_eq_true rfl) dX11_readsOne_221 (fun σ17 h18 => ?_)
      have ms221 := h18
      show WS layM V 5 X σ17 224 [(4, .int 0), (3, .int 0), (2, .int n9), (1, .int c9), (0, rf V 0)] []
      exact WS.vret hx he dX11_readsOne_224 ⟨rfl, ms221.f2 wr_p.symm⟩
    · skip
      show WS layM V 5 X σ 181 [(4, .int 0), (3, .int 0), (2, .int n9), (1, .int c9), (0, rf V 0)] []
      have hdg : isDg (cm t L s) = true := (bM_dg (t := t) (L := L) (s := s)).mp (by (try simp only [l_int, tL_0, tL_1, tL_2, tL_4, tL_5, tL_6, tL_7, tL_9, tL_10, tL_12, tL_15, tL_30, tL_40, tL_60, tL_99, tL_255, tL_1023, tL_m1, lc_lt, lc_gt, lc_ge, lc_le, lc_eq, l6_le, l6_lt, l6_eq, tI_m133, tI_m226, i_le, i_lt, i_eq, tI_m1, tI_0, tI_1, tI_4, tI_6, tI_10, tI_40, tI_41, tI_45, tI_48, tI_57] at c169); (try simp only [l_int, tL_0, tL_1, tL_2, tL_4, tL_5, tL_6, tL_7, tL_9, tL_10, tL_12, tL_15, tL_30, tL_40, tL_60, tL_99, tL_255, tL_1023, tL_m1, lc_lt, lc_gt, lc_ge, lc_le, lc_eq, l6_le, l6_lt, l6_eq, tI_m133, tI_m226, i_le, i_lt, i_eq, tI_m1, tI_0, tI_1, tI_4, tI_6, tI_10, tI_40, tI_41, tI_45, tI_48, tI_57] at c178); omega)
      have he := hE2 hdg
      have hlt : s.1 < L := cm_lt (t := t) (dg_n hdg).2.2
      have hR : nbF t L 3 (0 * 10 + cm t L s - 48) (adv s) = nbF t L 4 0 s := by exact (nb_1 hdg).symm
      refine WS.bipush (v := 10) hx dX11_readsOne_181 (by decide) ?_
      refine WS.iload_n hx dX11_readsOne_183 rfl 1 rfl ?_
      refine WS.imul hx dX11_readsOne_184 ?_
      refine WS.as rfl rfl (congrArg (fun z => Value.int z :: _) (show (10 * 0 : Int32) = 0 from by decide)) ?_
      refine WS.aload_n hx dX11_readsOne_185 rfl 4 rfl ?_
      refine WS.callVi (st := [.int 0]) [] hx (c_X11_byteAt V d σ t μ0 L op M0 b hL hT h8 (true, s) hS) okX11_byteAt lm11_158 rfl rfl rfl rfl (Nat.le_of_ble_eq_true rfl) dX11_readsOne_186 (fun v19 σ20 h21 => ?_)
      obtain ⟨rfl, rfl⟩ := h21
      show WS layM V 5 X σ 189 [(4, .int 0), (3, .int 0), (2, .int n9), (1, .int c9), (0, rf V 0)] [.int (bM t L s.1), .int 0]
      refine WS.iadd hx dX11_readsOne_189 ?_
      refine WS.bipush (v := 48) hx dX11_readsOne_190 (by decide) ?_
      refine WS.isub hx dX11_readsOne_192 ?_
      refine WS.as rfl rfl (congrArg (fun z => Value.int z :: _) (show (0 + (bM t L s.1)) - 48 = 0 * 10 + cm t L s - 48 from by rw [bM_lt hlt, show (0 * 10 : Int32) = 0 from by decide])) ?_
      skip
      refine WS.istore_n (lo' := [(3, .int (0 * 10 + cm t L s - 48)), (4, .int 0), (2, .int n9), (1, .int c9), (0, rf V 0)]) hx dX11_readsOne_193 rfl (by decide) rfl ?_
      refine WS.iinc (v := 1) (lo' := [(4, .int 1), (3, .int (0 * 10 + cm t L s - 48)), (2, .int n9), (1, .int c9), (0, rf V 0)]) hx dX11_readsOne_194 1 rfl (by decide) (by decide) rfl ?_
      refine WS.aload_n hx dX11_readsOne_197 rfl 4 rfl ?_
      refine WS.dup hx dX11_readsOne_198 rfl ?_
      refine WS.getI hx okX11 lf11_152 rfl rfl dX11_readsOne_199 ?_
      refine WS.as rfl rfl (congrArg (fun z => Value.int z :: _) (show σ.1 0 18 = nI s.1 from hS.2.2.2.1)) ?_
      skip
      refine WS.iconst (v := 1) hx dX11_readsOne_202 (by decide) ?_
      refine WS.iadd hx dX11_readsOne_203 ?_
      refine WS.as rfl rfl (congrArg (fun z => Value.int z :: _) (show (nI s.1) + 1 = nI (s.1 + 1) from nI_1 _)) ?_
      skip
      refine WS.putI hx okX11 lf11_152 rfl rfl rfl rfl dX11_readsOne_204 ?_
      refine WS.goto (tgt := 157) hx dX11_readsOne_207 (by decide) ?_
      exact WS.los [0, 1, 4, 3, 2] rfl (lp_X11_readsOne V d t μ0 L op M0 b hL hT h8 c9 n9 (nbF t L 4 0 s) (nb_v (t := t) (L := L) 4 0 s 1 (by decide) (by decide) (by decide)).1 X hx he 3 1 _ (adv s) _ rfl (Nat.le_refl _) (hS.ad hlt) hS.lr hR)
set_option maxHeartbeats 1000000 in
theorem c_X11_readsOneS (V : Vt) (d : Nat) (σ : Sg) (t : Nat → Int32) (μ0 : Sg) (L op M0 b : Nat) (hL : L ≤ 120) (hT : ∀ j, j < L → μ0.1 5 j = t j) (h8 : μ0.1 0 8 = nI L) (hop : op < 6) (G H : Ps → Bool × Ps) (hG : ∀ (s : Ps) (τ : Sg), MS μ0 τ L (op + 1) M0 b (true, s) → CT layM V mX11_readsEither (d + 6) [rf V 0] τ (Rv fun σ' => MS μ0 σ' L (op + 1) M0 b (G s))) (hH : ∀ (s : Ps) (τ : Sg), MS μ0 τ L (op + 1) M0 b (true, s) → CT layM V mX11_readsOne (d + 6) [rf V 0] τ (Rv fun σ' => MS μ0 σ' L (op + 1) M0 b (H s))) (gG : GP L G) (gH : GP L H) (s : Ps) (hS : MS μ0 σ L op M0 b (true, s)) : CT layM V mX11_readsOne (d + 7) [rf V 0] σ (Rv fun σ' => MS μ0 σ' L op M0 b ((if isDg (cm t L s) = true then (true, nuF t L s) else if nmF (cm t L s) = -1 then (if cm t L s = 40 then (if (G (adv s)).1 = true ∧ cm t L (G (adv s)).2 = 41 then (true, adv (G (adv s)).2) else (false, (G (adv s)).2)) else if cm t L s = 33 ∨ cm t L s = 45 then ((H (adv s)).1, wr (if cm t L s = 45 then -126 else -(cm t L s)) (H (adv s)).2) else (false, s)) else (true, naF (nmF (cm t L s)) s)))) := by
  refine CT.of (own := RX11) rfl (by decide) (Nat.le_of_ble_eq_true rfl) (fun X (hx : Ok V RX11 cX11_readsOne 5 (d + 7) X) (he : En layM V none (Rv fun σ' => MS μ0 σ' L op M0 b ((if isDg (cm t L s) = true then (true, nuF t L s) else if nmF (cm t L s) = -1 then (if cm t L s = 40 then (if (G (adv s)).1 = true ∧ cm t L (G (adv s)).2 = 41 then (true, adv (G (adv s)).2) else (false, (G (adv s)).2)) else if cm t L s = 33 ∨ cm t L s = 45 then ((H (adv s)).1, wr (if cm t L s = 45 then -126 else -(cm t L s)) (H (adv s)).2) else (false, s)) else (true, naF (nmF (cm t L s)) s)))) X) => ?_)
  change WS layM V 5 X σ 0 [(0, rf V 0)] []
  have hopI : (nI op).toInt = (op : Int) := nI_c (by omega)
  refine WS.aload_n hx dX11_readsOne_0 rfl 0 rfl ?_
  refine WS.getI hx okX11 lf11_155 rfl rfl dX11_readsOne_1 ?_
  refine WS.as rfl rfl (congrArg (fun z => Value.int z :: _) (show σ.1 0 19 = (-1) from (hS.2.2.2.2.2.2.2 rfl).1)) ?_
  skip
  refine WS.if_lt (tgt := 8) hx dX11_readsOne_4 (by decide) (fun _ => ?_) (fun h => absurd (by decide) h)
  refine WS.aload_n hx dX11_readsOne_8 rfl 0 rfl ?_
  refine WS.callVi (st := []) [] hx (c_X11_byteAt V (d + 6) σ t μ0 L op M0 b hL hT h8 (true, s) hS) okX11_byteAt lm11_158 rfl rfl rfl rfl (Nat.le_of_ble_eq_true rfl) dX11_readsOne_9 (fun v1 σ2 h3 => ?_)
  obtain ⟨rfl, rfl⟩ := h3
  show WS layM V 5 X σ 12 [(0, rf V 0)] [.int (bM t L s.1)]
  refine WS.istore_n (lo' := [(1, .int (bM t L s.1)), (0, rf V 0)]) hx dX11_readsOne_12 rfl (by decide) rfl ?_
  refine WS.iload_n hx dX11_readsOne_13 rfl 0 rfl ?_
  refine WS.bipush (v := 33) hx dX11_readsOne_14 (by decide) ?_
  refine WS.icmp_eq (tgt := 31) hx dX11_readsOne_16 (by decide) (fun c16 => ?_) (fun c16 => ?_)
  · skip
    show WS layM V 5 X σ 31 [(1, .int (bM t L s.1)), (0, rf V 0)] []
    have hcm := (bM_cm (t := t) (L := L) (s := s) (by decide) (by decide)).mp c16
    have hlt : s.1 < L := cm_lt (t := t) (by rw [hcm]; decide)
    rw [if_neg (show ¬ isDg (cm t L s) = true by rw [hcm]; decide), if_pos (show nmF (cm t L s) = -1 by rw [hcm]; decide)] at he
    rw [if_neg (show ¬ cm t L s = 40 by rw [hcm]; decide), if_pos (Or.inl hcm)] at he
    rw [hcm, if_neg (show ¬ (33 : Int32) = 45 by decide)] at he
    have hj := gH (adv s) hlt (by have := hS.lr; show s.2.1 ≤ s.1 + 1; have h9 : s.2.1 < s.1 + 1 := this.2; omega)
    refine WS.aload_n hx dX11_readsOne_31 rfl 1 rfl ?_
    refine WS.getI hx okX11 lf11_187 rfl rfl dX11_readsOne_32 ?_
    refine WS.as rfl rfl (congrArg (fun z => Value.int z :: _) (show σ.1 0 20 = nI op from hS.2.2.2.2.2.1)) ?_
    skip
    refine WS.bipush (v := 6) hx dX11_readsOne_35 (by decide) ?_
    refine WS.icmp_ne (tgt := 45) hx dX11_readsOne_37 (by decide) (fun c37 => ?_) (fun c37 => by exfalso; (try simp only [l_int, tL_0, tL_1, tL_2, tL_4, tL_5, tL_6, tL_7, tL_9, tL_10, tL_12, tL_15, tL_30, tL_40, tL_60, tL_99, tL_255, tL_1023, tL_m1, lc_lt, lc_gt, lc_ge, lc_le, lc_eq, l6_le, l6_lt, l6_eq, tI_m133, tI_m226, i_le, i_lt, i_eq, tI_m1, tI_0, tI_1, tI_4, tI_6, tI_10, tI_40, tI_41, tI_45, tI_48, tI_57] at c16); (try simp only [l_int, tL_0, tL_1, tL_2, tL_4, tL_5, tL_6, tL_7, tL_9, tL_10, tL_12, tL_15, tL_30, tL_40, tL_60, tL_99, tL_255, tL_1023, tL_m1, lc_lt, lc_gt, lc_ge, lc_le, lc_eq, l6_le, l6_lt, l6_eq, tI_m133, tI_m226, i_le, i_lt, i_eq, tI_m1, tI_0, tI_1, tI_4, tI_6, tI_10, tI_40, tI_41, tI_45, tI_48, tI_57] at c37); (try simp only [l_int, tL_0, tL_1, tL_2, tL_4, tL_5, tL_6, tL_7, tL_9, tL_10, tL_12, tL_15, tL_30, tL_40, tL_60, tL_99, tL_255, tL_1023, tL_m1, lc_lt, lc_gt, lc_ge, lc_le, lc_eq, l6_le, l6_lt, l6_eq, tI_m133, tI_m226, i_le, i_lt, i_eq, tI_m1, tI_0, tI_1, tI_4, tI_6, tI_10, tI_40, tI_41, tI_45, tI_48, tI_57]); omega)
    refine WS.aload_n hx dX11_readsOne_45 rfl 1 rfl ?_
    refine WS.dup hx dX11_readsOne_46 rfl ?_
    refine WS.getI hx okX11 lf11_187 rfl rfl dX11_readsOne_47 ?_
    refine WS.as rfl rfl (congrArg (fun z => Value.int z :: _) (show σ.1 0 20 = nI op from hS.2.2.2.2.2.1)) ?_
    skip
    refine WS.iconst (v := 1) hx dX11_readsOne_50 (by decide) ?_
    refine WS.iadd hx dX11_readsOne_51 ?_
    refine WS.as rfl rfl (congrArg (fun z => Value.int z :: _) (show (nI op) + 1 = nI (op + 1) from nI_1 _)) ?_
    skip
    refine WS.putI hx okX11 lf11_187 rfl rfl rfl rfl dX11_readsOne_52 ?_
    refine WS.aload_n hx dX11_readsOne_55 rfl 1 rfl ?_
    refine WS.dup hx dX11_readsOne_56 rfl ?_
    refine WS.getI hx okX11 lf11_152 rfl rfl dX11_readsOne_57 ?_
    refine WS.as rfl rfl (congrArg (fun z => Value.int z :: _) (show (stI σ 0 20 (nI (op + 1))).1 0 18 = nI s.1 from by rw [stI_k _ _ _ _ (by decide)]; exact hS.2.2.2.1)) ?_
    skip
    refine WS.iconst (v := 1) hx dX11_readsOne_60 (by decide) ?_
    refine WS.iadd hx dX11_readsOne_61 ?_
    refine WS.as rfl rfl (congrArg (fun z => Value.int z :: _) (show (nI s.1) + 1 = nI (s.1 + 1) from nI_1 _)) ?_
    skip
    refine WS.putI hx okX11 lf11_152 rfl rfl rfl rfl dX11_readsOne_62 ?_
    refine WS.iload_n hx dX11_readsOne_65 rfl 0 rfl ?_
    refine WS.bipush (v := 40) hx dX11_readsOne_66 (by decide) ?_
    refine WS.icmp_ne (tgt := 91) hx dX11_readsOne_68 (by decide) (fun c68 => ?_) (fun c68 => absurd (c16.symm.trans c68) (by decide))
    refine WS.aload_n hx dX11_readsOne_91 rfl 1 rfl ?_
    refine WS.callVv (st := []) [] hx (hH (adv s) _ ((hS.op (op + 1)).ad hlt)) okX11_readsOne lm11_184 rfl rfl rfl rfl (Nat.le_of_ble_eq_true rfl) dX11_readsOne_92 (fun σ5 h6 => ?_)
    have ms92 := h6
    show WS layM V 5 X σ5 95 [(1, .int (bM t L s.1)), (0, rf V 0)] []
    refine WS.aload_n hx dX11_readsOne_95 rfl 1 rfl ?_
    refine WS.iload_n hx dX11_readsOne_96 rfl 0 rfl ?_
    refine WS.bipush (v := 45) hx dX11_readsOne_97 (by decide) ?_
    refine WS.icmp_ne (tgt := 108) hx dX11_readsOne_99 (by decide) (fun c99 => ?_) (fun c99 => absurd (c16.symm.trans c99) (by decide))
    refine WS.sipush (v := (-133)) hx dX11_readsOne_108 (by decide) ?_
    refine WS.callVv (st := []) [.int (-133)] hx (c_X11_writes V (d + 6) σ5 t μ0 L (op + 1) M0 b hL hT h8 (H (adv s)) ms92 (fun h => hS.rm rfl (hj.2.2 h)) (-33) (-133) ⟨by decide, by decide⟩) okX11_writes lm11_171 rfl rfl rfl rfl (Nat.le_of_ble_eq_true rfl) dX11_readsOne_111 (fun σ8 h9 => ?_)
    have ms111 := h9
    show WS layM V 5 X σ8 114 [(1, .int (bM t L s.1)), (0, rf V 0)] []
    refine WS.aload_n hx dX11_readsOne_114 rfl 1 rfl ?_
    refine WS.dup hx dX11_readsOne_115 rfl ?_
    refine WS.getI hx okX11 lf11_187 rfl rfl dX11_readsOne_116 ?_
    refine WS.as rfl rfl (congrArg (fun z => Value.int z :: _) (show σ8.1 0 20 = nI (op + 1) from by first | exact ms78.2.2.2.2.2.1 | exact ms85.2.2.2.2.2.1 | exact ms111.2.2.2.2.2.1)) ?_
    skip
    refine WS.iconst (v := 1) hx dX11_readsOne_119 (by decide) ?_
    refine WS.isub hx dX11_readsOne_120 ?_
    refine WS.as rfl rfl (congrArg (fun z => Value.int z :: _) (show (nI (op + 1)) - 1 = nI op from nI_pred op)) ?_
    skip
    refine WS.putI hx okX11 lf11_187 rfl rfl rfl rfl dX11_readsOne_121 ?_
    exact WS.vret hx he dX11_readsOne_124 ⟨rfl, by first | exact ms78.op op | exact ms85.op op | exact ms111.op op⟩
  · skip
    show WS layM V 5 X σ 19 [(1, .int (bM t L s.1)), (0, rf V 0)] []
    refine WS.iload_n hx dX11_readsOne_19 rfl 0 rfl ?_
    refine WS.bipush (v := 45) hx dX11_readsOne_20 (by decide) ?_
    refine WS.icmp_eq (tgt := 31) hx dX11_readsOne_22 (by decide) (fun c22 => ?_) (fun c22 => ?_)
    · skip
      show WS layM V 5 X σ 31 [(1, .int (bM t L s.1)), (0, rf V 0)] []
      have hcm := (bM_cm (t := t) (L := L) (s := s) (by decide) (by decide)).mp c22
      have hlt : s.1 < L := cm_lt (t := t) (by rw [hcm]; decide)
      rw [if_neg (show ¬ isDg (cm t L s) = true by rw [hcm]; decide), if_pos (show nmF (cm t L s) = -1 by rw [hcm]; decide)] at he
      rw [if_neg (show ¬ cm t L s = 40 by rw [hcm]; decide), if_pos (Or.inr hcm)] at he
      rw [hcm, if_pos (show (45 : Int32) = 45 by decide)] at he
      have hj := gH (adv s) hlt (by have := hS.lr; show s.2.1 ≤ s.1 + 1; have h9 : s.2.1 < s.1 + 1 := this.2; omega)
      refine WS.aload_n hx dX11_readsOne_31 rfl 1 rfl ?_
      refine WS.getI hx okX11 lf11_187 rfl rfl dX11_readsOne_32 ?_
      refine WS.as rfl rfl (congrArg (fun z => Value.int z :: _) (show σ.1 0 20 = nI op from hS.2.2.2.2.2.1)) ?_
      skip
      refine WS.bipush (v := 6) hx dX11_readsOne_35 (by decide) ?_
      refine WS.icmp_ne (tgt := 45) hx dX11_readsOne_37 (by decide) (fun c37 => ?_) (fun c37 => by exfalso; (try simp only [l_int, tL_0, tL_1, tL_2, tL_4, tL_5, tL_6, tL_7, tL_9, tL_10, tL_12, tL_15, tL_30, tL_40, tL_60, tL_99, tL_255, tL_1023, tL_m1, lc_lt, lc_gt, lc_ge, lc_le, lc_eq, l6_le, l6_lt, l6_eq, tI_m133, tI_m226, i_le, i_lt, i_eq, tI_m1, tI_0, tI_1, tI_4, tI_6, tI_10, tI_40, tI_41, tI_45, tI_48, tI_57] at c16); (try simp only [l_int, tL_0, tL_1, tL_2, tL_4, tL_5, tL_6, tL_7, tL_9, tL_10, tL_12, tL_15, tL_30, tL_40, tL_60, tL_99, tL_255, tL_1023, tL_m1, lc_lt, lc_gt, lc_ge, lc_le, lc_eq, l6_le, l6_lt, l6_eq, tI_m133, tI_m226, i_le, i_lt, i_eq, tI_m1, tI_0, tI_1, tI_4, tI_6, tI_10, tI_40, tI_41, tI_45, tI_48, tI_57] at c37); (try simp only [l_int, tL_0, tL_1, tL_2, tL_4, tL_5, tL_6, tL_7, tL_9, tL_10, tL_12, tL_15, tL_30, tL_40, tL_60, tL_99, tL_255, tL_1023, tL_m1, lc_lt, lc_gt, lc_ge, lc_le, lc_eq, l6_le, l6_lt, l6_eq, tI_m133, tI_m226, i_le, i_lt, i_eq, tI_m1, tI_0, tI_1, tI_4, tI_6, tI_10, tI_40, tI_41, tI_45, tI_48, tI_57] at c68); (try simp only [l_int, tL_0, tL_1, tL_2, tL_4, tL_5, tL_6, tL_7, tL_9, tL_10, tL_12, tL_15, tL_30, tL_40, tL_60, tL_99, tL_255, tL_1023, tL_m1, lc_lt, lc_gt, lc_ge, lc_le, lc_eq, l6_le, l6_lt, l6_eq, tI_m133, tI_m226, i_le, i_lt, i_eq, tI_m1, tI_0, tI_1, tI_4, tI_6, tI_10, tI_40, tI_41, tI_45, tI_48, tI_57] at c22); (try simp only [l_int, tL_0, tL_1, tL_2, tL_4, tL_5, tL_6, tL_7, tL_9, tL_10, tL_12, tL_15, tL_30, tL_40, tL_60, tL_99, tL_255, tL_1023, tL_m1, lc_lt, lc_gt, lc_ge, lc_le, lc_eq, l6_le, l6_lt, l6_eq, tI_m133, tI_m226, i_le, i_lt, i_eq, tI_m1, tI_0, tI_1, tI_4, tI_6, tI_10, tI_40, tI_41, tI_45, tI_48, tI_57]); omega)
      refine WS.aload_n hx dX11_readsOne_45 rfl 1 rfl ?_
      refine WS.dup hx dX11_readsOne_46 rfl ?_
      refine WS.getI hx okX11 lf11_187 rfl rfl dX11_readsOne_47 ?_
      refine WS.as rfl rfl (congrArg (fun z => Value.int z :: _) (show σ.1 0 20 = nI op from hS.2.2.2.2.2.1)) ?_
      skip
      refine WS.iconst (v := 1) hx dX11_readsOne_50 (by decide) ?_
      refine WS.iadd hx dX11_readsOne_51 ?_
      refine WS.as rfl rfl (congrArg (fun z => Value.int z :: _) (show (nI op) + 1 = nI (op + 1) from nI_1 _)) ?_
      skip
      refine WS.putI hx okX11 lf11_187 rfl rfl rfl rfl dX11_readsOne_52 ?_
      refine WS.aload_n hx dX11_readsOne_55 rfl 1 rfl ?_
      refine WS.dup hx dX11_readsOne_56 rfl ?_
      refine WS.getI hx okX11 lf11_152 rfl rfl dX11_readsOne_57 ?_
      refine WS.as rfl rfl (congrArg (fun z => Value.int z :: _) (show (stI σ 0 20 (nI (op + 1))).1 0 18 = nI s.1 from by rw [stI_k _ _ _ _ (by decide)]; exact hS.2.2.2.1)) ?_
      skip
      refine WS.iconst (v := 1) hx dX11_readsOne_60 (by decide) ?_
      refine WS.iadd hx dX11_readsOne_61 ?_
      refine WS.as rfl rfl (congrArg (fun z => Value.int z :: _) (show (nI s.1) + 1 = nI (s.1 + 1) from nI_1 _)) ?_
      skip
      refine WS.putI hx okX11 lf11_152 rfl rfl rfl rfl dX11_readsOne_62 ?_
      refine WS.iload_n hx dX11_readsOne_65 rfl 0 rfl ?_
      refine WS.bipush (v := 40) hx dX11_readsOne_66 (by decide) ?_
      refine WS.icmp_ne (tgt := 91) hx dX11_readsOne_68 (by decide) (fun c68 => ?_) (fun c68 => absurd (c22.symm.trans c68) (by decide))
      refine WS.aload_n hx dX11_readsOne_91 rfl 1 rfl ?_
      refine WS.callVv (st := []) [] hx (hH (adv s) _ ((hS.op (op + 1)).ad hlt)) okX11_readsOne lm11_184 rfl rfl rfl rfl (Nat.le_of_ble_eq_true rfl) dX11_readsOne_92 (fun σ11 h12 => ?_)
      have ms92 := h12
      show WS layM V 5 X σ11 95 [(1, .int (bM t L s.1)), (0, rf V 0)] []
      refine WS.aload_n hx dX11_readsOne_95 rfl 1 rfl ?_
      refine WS.iload_n hx dX11_readsOne_96 rfl 0 rfl ?_
      refine WS.bipush (v := 45) hx dX11_readsOne_97 (by decide) ?_
      refine WS.icmp_ne (tgt := 108) hx dX11_readsOne_99 (by decide) (fun c99 => absurd c22 c99) (fun c99 => ?_)
      refine WS.sipush (v := (-226)) hx dX11_readsOne_102 (by decide) ?_
      refine WS.goto (tgt := 111) hx dX11_readsOne_105 (by decide) ?_
      refine WS.callVv (st := []) [.int (-226)] hx (c_X11_writes V (d + 6) σ11 t μ0 L (op + 1) M0 b hL hT h8 (H (adv s)) ms92 (fun h => hS.rm rfl (hj.2.2 h)) (-126) (-226) ⟨by decide, by decide⟩) okX11_writes lm11_171 rfl rfl rfl rfl (Nat.le_of_ble_eq_true rfl) dX11_readsOne_111 (fun σ14 h15 => ?_)
      have ms111 := h15
      show WS layM V 5 X σ14 114 [(1, .int (bM t L s.1)), (0, rf V 0)] []
      refine WS.aload_n hx dX11_readsOne_114 rfl 1 rfl ?_
      refine WS.dup hx dX11_readsOne_115 rfl ?_
      refine WS.getI hx okX11 lf11_187 rfl rfl dX11_readsOne_116 ?_
      refine WS.as rfl rfl (congrArg (fun z => Value.int z :: _) (show σ14.1 0 20 = nI (op + 1) from by first | exact ms78.2.2.2.2.2.1 | exact ms85.2.2.2.2.2.1 | exact ms111.2.2.2.2.2.1)) ?_
      skip
      refine WS.iconst (v := 1) hx dX11_readsOne_119 (by decide) ?_
      refine WS.isub hx dX11_readsOne_120 ?_
      refine WS.as rfl rfl (congrArg (fun z => Value.int z :: _) (show (nI (op + 1)) - 1 = nI op from nI_pred op)) ?_
      skip
      refine WS.putI hx okX11 lf11_187 rfl rfl rfl rfl dX11_readsOne_121 ?_
      exact WS.vret hx he dX11_readsOne_124 ⟨rfl, by first | exact ms78.op op | exact ms85.op op | exact ms111.op op⟩
    · skip
      show WS layM V 5 X σ 25 [(1, .int (bM t L s.1)), (0, rf V 0)] []
      refine WS.iload_n hx dX11_readsOne_25 rfl 0 rfl ?_
      refine WS.bipush (v := 40) hx dX11_readsOne_26 (by decide) ?_
      refine WS.icmp_ne (tgt := 125) hx dX11_readsOne_28 (by decide) (fun c28 => ?_) (fun c28 => ?_)
      · skip
        show WS layM V 5 X σ 125 [(1, .int (bM t L s.1)), (0, rf V 0)] []
        have h33 : ¬ cm t L s = 33 := fun h => c16 ((bM_cm (t := t) (L := L) (s := s) (by decide) (by decide)).mpr h)
        have h45 : ¬ cm t L s = 45 := fun h => c22 ((bM_cm (t := t) (L := L) (s := s) (by decide) (by decide)).mpr h)
        have h40 : ¬ cm t L s = 40 := fun h => c28 ((bM_cm (t := t) (L := L) (s := s) (by decide) (by decide)).mpr h)
        refine WS.iload_n hx dX11_readsOne_125 rfl 0 rfl ?_
        refine WS.callSi (st := []) [.int (bM t L s.1)] hx (c_X11_nameOf V (d + 6) σ (bM t L s.1)) okX11_nameOf lm11_196 rfl rfl (Nat.le_of_ble_eq_true rfl) dX11_readsOne_126 (fun v16 σ17 h18 => ?_)
        obtain ⟨rfl, rfl⟩ := h18
        show WS layM V 5 X σ 129 [(1, .int (bM t L s.1)), (0, rf V 0)] [.int (nmF (bM t L s.1))]
        refine WS.as rfl rfl (congrArg (fun z => Value.int z :: _) (show nmF (bM t L s.1) = nmF (cm t L s) from bM_nm)) ?_
        skip
        refine WS.istore_n (lo' := [(2, .int (nmF (cm t L s))), (1, .int (bM t L s.1)), (0, rf V 0)]) hx dX11_readsOne_129 rfl (by decide) rfl ?_
        refine WS.iload_n hx dX11_readsOne_130 rfl 0 rfl ?_
        refine WS.if_lt (tgt := 152) hx dX11_readsOne_131 (by decide) (fun c131 => ?_) (fun c131 => ?_)
        · skip
          show WS layM V 5 X σ 152 [(2, .int (nmF (cm t L s))), (1, .int (bM t L s.1)), (0, rf V 0)] []
          have hn : nmF (cm t L s) = -1 := Classical.byContradiction fun h => by have h9 := (nmF_r h).1; (try simp only [l_int, tL_0, tL_1, tL_2, tL_4, tL_5, tL_6, tL_7, tL_9, tL_10, tL_12, tL_15, tL_30, tL_40, tL_60, tL_99, tL_255, tL_1023, tL_m1, lc_lt, lc_gt, lc_ge, lc_le, lc_eq, l6_le, l6_lt, l6_eq, tI_m133, tI_m226, i_le, i_lt, i_eq, tI_m1, tI_0, tI_1, tI_4, tI_6, tI_10, tI_40, tI_41, tI_45, tI_48, tI_57] at c16); (try simp only [l_int, tL_0, tL_1, tL_2, tL_4, tL_5, tL_6, tL_7, tL_9, tL_10, tL_12, tL_15, tL_30, tL_40, tL_60, tL_99, tL_255, tL_1023, tL_m1, lc_lt, lc_gt, lc_ge, lc_le, lc_eq, l6_le, l6_lt, l6_eq, tI_m133, tI_m226, i_le, i_lt, i_eq, tI_m1, tI_0, tI_1, tI_4, tI_6, tI_10, tI_40, tI_41, tI_45, tI_48, tI_57] at c37); (try simp only [l_int, tL_0, tL_1, tL_2, tL_4, tL_5, tL_6, tL_7, tL_9, tL_10, tL_12, tL_15, tL_30, tL_40, tL_60, tL_99, tL_255, tL_1023, tL_m1, lc_lt, lc_gt, lc_ge, lc_le, lc_eq, l6_le, l6_lt, l6_eq, tI_m133, tI_m226, i_le, i_lt, i_eq, tI_m1, tI_0, tI_1, tI_4, tI_6, tI_10, tI_40, tI_41, tI_45, tI_48, tI_57] at c68); (try simp only [l_int, tL_0, tL_1, tL_2, tL_4, tL_5, tL_6, tL_7, tL_9, tL_10, tL_12, tL_15, tL_30, tL_40, tL_60, tL_99, tL_255, tL_1023, tL_m1, lc_lt, lc_gt, lc_ge, lc_le, lc_eq, l6_le, l6_lt, l6_eq, tI_m133, tI_m226, i_le, i_lt, i_eq, tI_m1, tI_0, tI_1, tI_4, tI_6, tI_10, tI_40, tI_41, tI_45, tI_48, tI_57] at c22); (try simp only [l_int, tL_0, tL_1, tL_2, tL_4, tL_5, tL_6, tL_7, tL_9, tL_10, tL_12, tL_15, tL_30, tL_40, tL_60, tL_99, tL_255, tL_1023, tL_m1, lc_lt, lc_gt, lc_ge, lc_le, lc_eq, l6_le, l6_lt, l6_eq, tI_m133, tI_m226, i_le, i_lt, i_eq, tI_m1, tI_0, tI_1, tI_4, tI_6, tI_10, tI_40, tI_41, tI_45, tI_48, tI_57] at c28); (try simp only [l_int, tL_0, tL_1, tL_2, tL_4, tL_5, tL_6, tL_7, tL_9, tL_10, tL_12, tL_15, tL_30, tL_40, tL_60, tL_99, tL_255, tL_1023, tL_m1, lc_lt, lc_gt, lc_ge, lc_le, lc_eq, l6_le, l6_lt, l6_eq, tI_m133, tI_m226, i_le, i_lt, i_eq, tI_m1, tI_0, tI_1, tI_4, tI_6, tI_10, tI_40, tI_41, tI_45, tI_48, tI_57] at c131); (try simp only [l_int, tL_0, tL_1, tL_2, tL_4, tL_5, tL_6, tL_7, tL_9, tL_10, tL_12, tL_15, tL_30, tL_40, tL_60, tL_99, tL_255, tL_1023, tL_m1, lc_lt, lc_gt, lc_ge, lc_le, lc_eq, l6_le, l6_lt, l6_eq, tI_m133, tI_m226, i_le, i_lt, i_eq, tI_m1, tI_0, tI_1, tI_4, tI_6, tI_10, tI_40, tI_41, tI_45, tI_48, tI_57]); omega
          refine WS.iconst (v := 0) hx dX11_readsOne_152 (by decide) ?_
          refine WS.istore_n (lo' := [(3, .int 0), (2, .int (nmF (cm t L s))), (1, .int (bM t L s.1)), (0, rf V 0)]) hx dX11_readsOne_153 rfl (by decide) rfl ?_
          refine WS.iconst (v := 0) hx dX11_readsOne_154 (by decide) ?_
          refine WS.istore (lo' := [(4, .int 0), (3, .int 0), (2, .int (nmF (cm t L s))), (1, .int (bM t L s.1)), (0, rf V 0)]) hx dX11_readsOne_155 (by decide) rfl ?_
          exact WS.los [0, 1, 2, 3, 4] rfl (ld_X11_readsOne V (d + 6) σ t μ0 L op M0 b hL hT h8 _ _ s hS X hx (fun hd => by rw [if_neg hd, if_pos hn, if_neg h40, if_neg (fun h => h.elim h33 h45)] at he; exact he) (fun hd => by rw [if_pos hd] at he; exact he))
        · skip
          show WS layM V 5 X σ 134 [(2, .int (nmF (cm t L s))), (1, .int (bM t L s.1)), (0, rf V 0)] []
          have hn : ¬ nmF (cm t L s) = -1 := fun e => by rw [e] at c131; exact c131 (by decide)
          have hnr := nmF_r hn
          have hlt : s.1 < L := cm_lt (t := t) (by intro e; rw [e] at hn; exact absurd rfl hn)
          rw [if_neg (fun h => hn (dg_nm h)), if_neg hn] at he
          refine WS.aload_n hx dX11_readsOne_134 rfl 2 rfl ?_
          refine WS.dup hx dX11_readsOne_135 rfl ?_
          refine WS.getI hx okX11 lf11_152 rfl rfl dX11_readsOne_136 ?_
          refine WS.as rfl rfl (congrArg (fun z => Value.int z :: _) (show σ.1 0 18 = nI s.1 from hS.2.2.2.1)) ?_
          skip
          refine WS.iconst (v := 1) hx dX11_readsOne_139 (by decide) ?_
          refine WS.iadd hx dX11_readsOne_140 ?_
          refine WS.as rfl rfl (congrArg (fun z => Value.int z :: _) (show (nI s.1) + 1 = nI (s.1 + 1) from nI_1 _)) ?_
          skip
          refine WS.putI hx okX11 lf11_152 rfl rfl rfl rfl dX11_readsOne_141 ?_
          refine WS.aload_n hx dX11_readsOne_144 rfl 2 rfl ?_
          refine WS.iconst (v := (-1)) hx dX11_readsOne_145 (by decide) ?_
          refine WS.iload_n hx dX11_readsOne_146 rfl 0 rfl ?_
          refine WS.isub hx dX11_readsOne_147 ?_
          refine WS.callVv (st := []) [.int ((-1) - (nmF (cm t L s)))] hx (c_X11_writes V (d + 6) (stI σ 0 18 (nI (s.1 + 1))) t μ0 L op M0 b hL hT h8 (true, adv s) (hS.ad hlt) (fun _ => hS.lr) (-1 - nmF (cm t L s)) ((-1) - (nmF (cm t L s))) (PH_n (by rw [i_sub (by rw [tI_m1]; omega) (by rw [tI_m1]; omega), tI_m1]; omega))) okX11_writes lm11_171 rfl rfl rfl rfl (Nat.le_of_ble_eq_true rfl) dX11_readsOne_148 (fun σ20 h21 => ?_)
          have ms148 := h21
          show WS layM V 5 X σ20 151 [(2, .int (nmF (cm t L s))), (1, .int (bM t L s.1)), (0, rf V 0)] []
          exact WS.vret hx he dX11_readsOne_151 ⟨rfl, ms148.na (by have h9 := hS.2.2.2.2.1; have h8 := hS.lr.2; have h7 : s.1 ≤ L := h9; have h6 : s.2.1 < s.1 + 1 := h8; omega)⟩
      · skip
        show WS layM V 5 X σ 31 [(1, .int (bM t L s.1)), (0, rf V 0)] []
        have hcm := (bM_cm (t := t) (L := L) (s := s) (by decide) (by decide)).mp c28
        have hlt : s.1 < L := cm_lt (t := t) (by rw [hcm]; decide)
        rw [if_neg (show ¬ isDg (cm t L s) = true by rw [hcm]; decide), if_pos (show nmF (cm t L s) = -1 by rw [hcm]; decide)] at he
        rw [if_pos hcm] at he
        have hj := gG (adv s) hlt (by have := hS.lr; show s.2.1 ≤ s.1 + 1; have h9 : s.2.1 < s.1 + 1 := this.2; omega)
        refine WS.aload_n hx dX11_readsOne_31 rfl 1 rfl ?_
        refine WS.getI hx okX11 lf11_187 rfl rfl dX11_readsOne_32 ?_
        refine WS.as rfl rfl (congrArg (fun z => Value.int z :: _) (show σ.1 0 20 = nI op from hS.2.2.2.2.2.1)) ?_
        skip
        refine WS.bipush (v := 6) hx dX11_readsOne_35 (by decide) ?_
        refine WS.icmp_ne (tgt := 45) hx dX11_readsOne_37 (by decide) (fun c37 => ?_) (fun c37 => by exfalso; (try simp only [l_int, tL_0, tL_1, tL_2, tL_4, tL_5, tL_6, tL_7, tL_9, tL_10, tL_12, tL_15, tL_30, tL_40, tL_60, tL_99, tL_255, tL_1023, tL_m1, lc_lt, lc_gt, lc_ge, lc_le, lc_eq, l6_le, l6_lt, l6_eq, tI_m133, tI_m226, i_le, i_lt, i_eq, tI_m1, tI_0, tI_1, tI_4, tI_6, tI_10, tI_40, tI_41, tI_45, tI_48, tI_57] at c16); (try simp only [l_int, tL_0, tL_1, tL_2, tL_4, tL_5, tL_6, tL_7, tL_9, tL_10, tL_12, tL_15, tL_30, tL_40, tL_60, tL_99, tL_255, tL_1023, tL_m1, lc_lt, lc_gt, lc_ge, lc_le, lc_eq, l6_le, l6_lt, l6_eq, tI_m133, tI_m226, i_le, i_lt, i_eq, tI_m1, tI_0, tI_1, tI_4, tI_6, tI_10, tI_40, tI_41, tI_45, tI_48, tI_57] at c37); (try simp only [l_int, tL_0, tL_1, tL_2, tL_4, tL_5, tL_6, tL_7, tL_9, tL_10, tL_12, tL_15, tL_30, tL_40, tL_60, tL_99, tL_255, tL_1023, tL_m1, lc_lt, lc_gt, lc_ge, lc_le, lc_eq, l6_le, l6_lt, l6_eq, tI_m133, tI_m226, i_le, i_lt, i_eq, tI_m1, tI_0, tI_1, tI_4, tI_6, tI_10, tI_40, tI_41, tI_45, tI_48, tI_57] at c68); (try simp only [l_int, tL_0, tL_1, tL_2, tL_4, tL_5, tL_6, tL_7, tL_9, tL_10, tL_12, tL_15, tL_30, tL_40, tL_60, tL_99, tL_255, tL_1023, tL_m1, lc_lt, lc_gt, lc_ge, lc_le, lc_eq, l6_le, l6_lt, l6_eq, tI_m133, tI_m226, i_le, i_lt, i_eq, tI_m1, tI_0, tI_1, tI_4, tI_6, tI_10, tI_40, tI_41, tI_45, tI_48, tI_57] at c22); (try simp only [l_int, tL_0, tL_1, tL_2, tL_4, tL_5, tL_6, tL_7, tL_9, tL_10, tL_12, tL_15, tL_30, tL_40, tL_60, tL_99, tL_255, tL_1023, tL_m1, lc_lt, lc_gt, lc_ge, lc_le, lc_eq, l6_le, l6_lt, l6_eq, tI_m133, tI_m226, i_le, i_lt, i_eq, tI_m1, tI_0, tI_1, tI_4, tI_6, tI_10, tI_40, tI_41, tI_45, tI_48, tI_57] at c28); (try simp only [l_int, tL_0, tL_1, tL_2, tL_4, tL_5, tL_6, tL_7, tL_9, tL_10, tL_12, tL_15, tL_30, tL_40, tL_60, tL_99, tL_255, tL_1023, tL_m1, lc_lt, lc_gt, lc_ge, lc_le, lc_eq, l6_le, l6_lt, l6_eq, tI_m133, tI_m226, i_le, i_lt, i_eq, tI_m1, tI_0, tI_1, tI_4, tI_6, tI_10, tI_40, tI_41, tI_45, tI_48, tI_57]); omega)
        refine WS.aload_n hx dX11_readsOne_45 rfl 1 rfl ?_
        refine WS.dup hx dX11_readsOne_46 rfl ?_
        refine WS.getI hx okX11 lf11_187 rfl rfl dX11_readsOne_47 ?_
        refine WS.as rfl rfl (congrArg (fun z => Value.int z :: _) (show σ.1 0 20 = nI op from hS.2.2.2.2.2.1)) ?_
        skip
        refine WS.iconst (v := 1) hx dX11_readsOne_50 (by decide) ?_
        refine WS.iadd hx dX11_readsOne_51 ?_
        refine WS.as rfl rfl (congrArg (fun z => Value.int z :: _) (show (nI op) + 1 = nI (op + 1) from nI_1 _)) ?_
        skip
        refine WS.putI hx okX11 lf11_187 rfl rfl rfl rfl dX11_readsOne_52 ?_
        refine WS.aload_n hx dX11_readsOne_55 rfl 1 rfl ?_
        refine WS.dup hx dX11_readsOne_56 rfl ?_
        refine WS.getI hx okX11 lf11_152 rfl rfl dX11_readsOne_57 ?_
        refine WS.as rfl rfl (congrArg (fun z => Value.int z :: _) (show (stI σ 0 20 (nI (op + 1))).1 0 18 = nI s.1 from by rw [stI_k _ _ _ _ (by decide)]; exact hS.2.2.2.1)) ?_
        skip
        refine WS.iconst (v := 1) hx dX11_readsOne_60 (by decide) ?_
        refine WS.iadd hx dX11_readsOne_61 ?_
        refine WS.as rfl rfl (congrArg (fun z => Value.int z :: _) (show (nI s.1) + 1 = nI (s.1 + 1) from nI_1 _)) ?_
        skip
        refine WS.putI hx okX11 lf11_152 rfl rfl rfl rfl dX11_readsOne_62 ?_
        refine WS.iload_n hx dX11_readsOne_65 rfl 0 rfl ?_
        refine WS.bipush (v := 40) hx dX11_readsOne_66 (by decide) ?_
        refine WS.icmp_ne (tgt := 91) hx dX11_readsOne_68 (by decide) (fun c68 => absurd c28 c68) (fun c68 => ?_)
        refine WS.aload_n hx dX11_readsOne_71 rfl 1 rfl ?_
        refine WS.callVv (st := []) [] hx (hG (adv s) _ ((hS.op (op + 1)).ad hlt)) okX11_readsEither lm11_193 rfl rfl rfl rfl (Nat.le_of_ble_eq_true rfl) dX11_readsOne_72 (fun σ23 h24 => ?_)
        have ms72 := h24
        show WS layM V 5 X σ23 75 [(1, .int (bM t L s.1)), (0, rf V 0)] []
        refine WS.aload_n hx dX11_readsOne_75 rfl 1 rfl ?_
        refine WS.bipush (v := 41) hx dX11_readsOne_76 (by decide) ?_
        refine WS.callVi (st := []) [.int 41] hx (c_X11_takes V (d + 5) σ23 t μ0 L (op + 1) M0 b hL hT h8 (G (adv s)) ms72 41 (by decide) (by decide)) okX11_takes lm11_168 rfl rfl rfl rfl (Nat.le_of_ble_eq_true rfl) dX11_readsOne_78 (fun v25 σ26 h27 => ?_)
        rcases h27 with ⟨ok78, cm78, rfl, ms78⟩ | ⟨no78, rfl, rfl⟩
        · skip
          show WS layM V 5 X σ26 81 [(1, .int (bM t L s.1)), (0, rf V 0)] [.int 1]
          rw [if_pos ⟨ok78, cm78⟩] at he
          refine WS.if_ne (tgt := 114) hx dX11_readsOne_81 (by decide) (fun _ => ?_) (fun h => absurd h (by decide))
          refine WS.aload_n hx dX11_readsOne_114 rfl 1 rfl ?_
          refine WS.dup hx dX11_readsOne_115 rfl ?_
          refine WS.getI hx okX11 lf11_187 rfl rfl dX11_readsOne_116 ?_
          refine WS.as rfl rfl (congrArg (fun z => Value.int z :: _) (show σ26.1 0 20 = nI (op + 1) from by first | exact ms78.2.2.2.2.2.1 | exact ms85.2.2.2.2.2.1 | exact ms111.2.2.2.2.2.1)) ?_
          skip
          refine WS.iconst (v := 1) hx dX11_readsOne_119 (by decide) ?_
          refine WS.isub hx dX11_readsOne_120 ?_
          refine WS.as rfl rfl (congrArg (fun z => Value.int z :: _) (show (nI (op + 1)) - 1 = nI op from nI_pred op)) ?_
          skip
          refine WS.putI hx okX11 lf11_187 rfl rfl rfl rfl dX11_readsOne_121 ?_
          exact WS.vret hx he dX11_readsOne_124 ⟨rfl, by first | exact ms78.op op | exact ms85.op op | exact ms111.op op⟩
        · skip
          show WS layM V 5 X σ23 81 [(1, .int (bM t L s.1)), (0, rf V 0)] [.int 0]
          rw [if_neg no78] at he
          refine WS.if_ne (tgt := 114) hx dX11_readsOne_81 (by decide) (fun h => absurd (by decide) h) (fun _ => ?_)
          refine WS.aload_n hx dX11_readsOne_84 rfl 1 rfl ?_
          refine WS.callVv (st := []) [] hx (c_X11_wrong V (d + 6) σ23 t μ0 L (op + 1) M0 b hL hT h8 (G (adv s)) ms72) okX11_wrong lm11_190 rfl rfl rfl rfl (Nat.le_of_ble_eq_true rfl) dX11_readsOne_85 (fun σ29 h30 => ?_)
          have ms85 := h30
          show WS layM V 5 X σ29 88 [(1, .int (bM t L s.1)), (0, rf V 0)] []
          refine WS.goto (tgt := 114) hx dX11_readsOne_88 (by decide) ?_
          refine WS.aload_n hx dX11_readsOne_114 rfl 1 rfl ?_
          refine WS.dup hx dX11_readsOne_115 rfl ?_
          refine WS.getI hx okX11 lf11_187 rfl rfl dX11_readsOne_116 ?_
          refine WS.as rfl rfl (congrArg (fun z => Value.int z :: _) (show σ29.1 0 20 = nI (op + 1) from by first | exact ms78.2.2.2.2.2.1 | exact ms85.2.2.2.2.2.1 | exact ms111.2.2.2.2.2.1)) ?_
          skip
          refine WS.iconst (v := 1) hx dX11_readsOne_119 (by decide) ?_
          refine WS.isub hx dX11_readsOne_120 ?_
          refine WS.as rfl rfl (congrArg (fun z => Value.int z :: _) (show (nI (op + 1)) - 1 = nI op from nI_pred op)) ?_
          skip
          refine WS.putI hx okX11 lf11_187 rfl rfl rfl rfl dX11_readsOne_121 ?_
          exact WS.vret hx he dX11_readsOne_124 ⟨rfl, by first | exact ms78.op op | exact ms85.op op | exact ms111.op op⟩
set_option maxHeartbeats 1000000 in
theorem c_X11_readsOne0 (V : Vt) (d : Nat) (σ : Sg) (t : Nat → Int32) (μ0 : Sg) (L op M0 b : Nat) (hL : L ≤ 120) (hT : ∀ j, j < L → μ0.1 5 j = t j) (h8 : μ0.1 0 8 = nI L) (hop : op = 6) (s : Ps) (hS : MS μ0 σ L op M0 b (true, s)) : CT layM V mX11_readsOne (d + 1) [rf V 0] σ (Rv fun σ' => MS μ0 σ' L op M0 b (oF t L 0 s)) := by
  refine CT.of (own := RX11) rfl (by decide) (Nat.le_of_ble_eq_true rfl) (fun X (hx : Ok V RX11 cX11_readsOne 5 (d + 1) X) (he : En layM V none (Rv fun σ' => MS μ0 σ' L op M0 b (oF t L 0 s)) X) => ?_)
  change WS layM V 5 X σ 0 [(0, rf V 0)] []
  have hopI : (nI op).toInt = (op : Int) := nI_c (by omega)
  unfold oF at he
  refine WS.aload_n hx dX11_readsOne_0 rfl 0 rfl ?_
  refine WS.getI hx okX11 lf11_155 rfl rfl dX11_readsOne_1 ?_
  refine WS.as rfl rfl (congrArg (fun z => Value.int z :: _) (show σ.1 0 19 = (-1) from (hS.2.2.2.2.2.2.2 rfl).1)) ?_
  skip
  refine WS.if_lt (tgt := 8) hx dX11_readsOne_4 (by decide) (fun _ => ?_) (fun h => absurd (by decide) h)
  refine WS.aload_n hx dX11_readsOne_8 rfl 0 rfl ?_
  refine WS.callVi (st := []) [] hx (c_X11_byteAt V d σ t μ0 L op M0 b hL hT h8 (true, s) hS) okX11_byteAt lm11_158 rfl rfl rfl rfl (Nat.le_of_ble_eq_true rfl) dX11_readsOne_9 (fun v1 σ2 h3 => ?_)
  obtain ⟨rfl, rfl⟩ := h3
  show WS layM V 5 X σ 12 [(0, rf V 0)] [.int (bM t L s.1)]
  refine WS.istore_n (lo' := [(1, .int (bM t L s.1)), (0, rf V 0)]) hx dX11_readsOne_12 rfl (by decide) rfl ?_
  refine WS.iload_n hx dX11_readsOne_13 rfl 0 rfl ?_
  refine WS.bipush (v := 33) hx dX11_readsOne_14 (by decide) ?_
  refine WS.icmp_eq (tgt := 31) hx dX11_readsOne_16 (by decide) (fun c16 => ?_) (fun c16 => ?_)
  · skip
    show WS layM V 5 X σ 31 [(1, .int (bM t L s.1)), (0, rf V 0)] []
    have hcm := (bM_cm (t := t) (L := L) (s := s) (by decide) (by decide)).mp c16
    have hlt : s.1 < L := cm_lt (t := t) (by rw [hcm]; decide)
    rw [if_neg (show ¬ isDg (cm t L s) = true by rw [hcm]; decide), if_pos (show nmF (cm t L s) = -1 by rw [hcm]; decide)] at he
    refine WS.aload_n hx dX11_readsOne_31 rfl 1 rfl ?_
    refine WS.getI hx okX11 lf11_187 rfl rfl dX11_readsOne_32 ?_
    refine WS.as rfl rfl (congrArg (fun z => Value.int z :: _) (show σ.1 0 20 = nI op from hS.2.2.2.2.2.1)) ?_
    skip
    refine WS.bipush (v := 6) hx dX11_readsOne_35 (by decide) ?_
    refine WS.icmp_ne (tgt := 45) hx dX11_readsOne_37 (by decide) (fun c37 => by exfalso; (try simp only [l_int, tL_0, tL_1, tL_2, tL_4, tL_5, tL_6, tL_7, tL_9, tL_10, tL_12, tL_15, tL_30, tL_40, tL_60, tL_99, tL_255, tL_1023, tL_m1, lc_lt, lc_gt, lc_ge, lc_le, lc_eq, l6_le, l6_lt, l6_eq, tI_m133, tI_m226, i_le, i_lt, i_eq, tI_m1, tI_0, tI_1, tI_4, tI_6, tI_10, tI_40, tI_41, tI_45, tI_48, tI_57] at c16); (try simp only [l_int, tL_0, tL_1, tL_2, tL_4, tL_5, tL_6, tL_7, tL_9, tL_10, tL_12, tL_15, tL_30, tL_40, tL_60, tL_99, tL_255, tL_1023, tL_m1, lc_lt, lc_gt, lc_ge, lc_le, lc_eq, l6_le, l6_lt, l6_eq, tI_m133, tI_m226, i_le, i_lt, i_eq, tI_m1, tI_0, tI_1, tI_4, tI_6, tI_10, tI_40, tI_41, tI_45, tI_48, tI_57] at c37); (try simp only [l_int, tL_0, tL_1, tL_2, tL_4, tL_5, tL_6, tL_7, tL_9, tL_10, tL_12, tL_15, tL_30, tL_40, tL_60, tL_99, tL_255, tL_1023, tL_m1, lc_lt, lc_gt, lc_ge, lc_le, lc_eq, l6_le, l6_lt, l6_eq, tI_m133, tI_m226, i_le, i_lt, i_eq, tI_m1, tI_0, tI_1, tI_4, tI_6, tI_10, tI_40, tI_41, tI_45, tI_48, tI_57]); omega) (fun c37 => ?_)
    refine WS.aload_n hx dX11_readsOne_40 rfl 1 rfl ?_
    refine WS.callVv (st := []) [] hx (c_X11_wrong V d σ t μ0 L op M0 b hL hT h8 (true, s) hS) okX11_wrong lm11_190 rfl rfl rfl rfl (Nat.le_of_ble_eq_true rfl) dX11_readsOne_41 (fun σ5 h6 => ?_)
    have ms41 := h6
    show WS layM V 5 X σ5 44 [(1, .int (bM t L s.1)), (0, rf V 0)] []
    exact WS.vret hx he dX11_readsOne_44 ⟨rfl, ms41⟩
  · skip
    show WS layM V 5 X σ 19 [(1, .int (bM t L s.1)), (0, rf V 0)] []
    refine WS.iload_n hx dX11_readsOne_19 rfl 0 rfl ?_
    refine WS.bipush (v := 45) hx dX11_readsOne_20 (by decide) ?_
    refine WS.icmp_eq (tgt := 31) hx dX11_readsOne_22 (by decide) (fun c22 => ?_) (fun c22 => ?_)
    · skip
      show WS layM V 5 X σ 31 [(1, .int (bM t L s.1)), (0, rf V 0)] []
      have hcm := (bM_cm (t := t) (L := L) (s := s) (by decide) (by decide)).mp c22
      have hlt : s.1 < L := cm_lt (t := t) (by rw [hcm]; decide)
      rw [if_neg (show ¬ isDg (cm t L s) = true by rw [hcm]; decide), if_pos (show nmF (cm t L s) = -1 by rw [hcm]; decide)] at he
      refine WS.aload_n hx dX11_readsOne_31 rfl 1 rfl ?_
      refine WS.getI hx okX11 lf11_187 rfl rfl dX11_readsOne_32 ?_
      refine WS.as rfl rfl (congrArg (fun z => Value.int z :: _) (show σ.1 0 20 = nI op from hS.2.2.2.2.2.1)) ?_
      skip
      refine WS.bipush (v := 6) hx dX11_readsOne_35 (by decide) ?_
      refine WS.icmp_ne (tgt := 45) hx dX11_readsOne_37 (by decide) (fun c37 => by exfalso; (try simp only [l_int, tL_0, tL_1, tL_2, tL_4, tL_5, tL_6, tL_7, tL_9, tL_10, tL_12, tL_15, tL_30, tL_40, tL_60, tL_99, tL_255, tL_1023, tL_m1, lc_lt, lc_gt, lc_ge, lc_le, lc_eq, l6_le, l6_lt, l6_eq, tI_m133, tI_m226, i_le, i_lt, i_eq, tI_m1, tI_0, tI_1, tI_4, tI_6, tI_10, tI_40, tI_41, tI_45, tI_48, tI_57] at c16); (try simp only [l_int, tL_0, tL_1, tL_2, tL_4, tL_5, tL_6, tL_7, tL_9, tL_10, tL_12, tL_15, tL_30, tL_40, tL_60, tL_99, tL_255, tL_1023, tL_m1, lc_lt, lc_gt, lc_ge, lc_le, lc_eq, l6_le, l6_lt, l6_eq, tI_m133, tI_m226, i_le, i_lt, i_eq, tI_m1, tI_0, tI_1, tI_4, tI_6, tI_10, tI_40, tI_41, tI_45, tI_48, tI_57] at c22); (try simp only [l_int, tL_0, tL_1, tL_2, tL_4, tL_5, tL_6, tL_7, tL_9, tL_10, tL_12, tL_15, tL_30, tL_40, tL_60, tL_99, tL_255, tL_1023, tL_m1, lc_lt, lc_gt, lc_ge, lc_le, lc_eq, l6_le, l6_lt, l6_eq, tI_m133, tI_m226, i_le, i_lt, i_eq, tI_m1, tI_0, tI_1, tI_4, tI_6, tI_10, tI_40, tI_41, tI_45, tI_48, tI_57] at c37); (try simp only [l_int, tL_0, tL_1, tL_2, tL_4, tL_5, tL_6, tL_7, tL_9, tL_10, tL_12, tL_15, tL_30, tL_40, tL_60, tL_99, tL_255, tL_1023, tL_m1, lc_lt, lc_gt, lc_ge, lc_le, lc_eq, l6_le, l6_lt, l6_eq, tI_m133, tI_m226, i_le, i_lt, i_eq, tI_m1, tI_0, tI_1, tI_4, tI_6, tI_10, tI_40, tI_41, tI_45, tI_48, tI_57]); omega) (fun c37 => ?_)
      refine WS.aload_n hx dX11_readsOne_40 rfl 1 rfl ?_
      refine WS.callVv (st := []) [] hx (c_X11_wrong V d σ t μ0 L op M0 b hL hT h8 (true, s) hS) okX11_wrong lm11_190 rfl rfl rfl rfl (Nat.le_of_ble_eq_true rfl) dX11_readsOne_41 (fun σ8 h9 => ?_)
      have ms41 := h9
      show WS layM V 5 X σ8 44 [(1, .int (bM t L s.1)), (0, rf V 0)] []
      exact WS.vret hx he dX11_readsOne_44 ⟨rfl, ms41⟩
    · skip
      show WS layM V 5 X σ 25 [(1, .int (bM t L s.1)), (0, rf V 0)] []
      refine WS.iload_n hx dX11_readsOne_25 rfl 0 rfl ?_
      refine WS.bipush (v := 40) hx dX11_readsOne_26 (by decide) ?_
      refine WS.icmp_ne (tgt := 125) hx dX11_readsOne_28 (by decide) (fun c28 => ?_) (fun c28 => ?_)
      · skip
        show WS layM V 5 X σ 125 [(1, .int (bM t L s.1)), (0, rf V 0)] []
        have h33 : ¬ cm t L s = 33 := fun h => c16 ((bM_cm (t := t) (L := L) (s := s) (by decide) (by decide)).mpr h)
        have h45 : ¬ cm t L s = 45 := fun h => c22 ((bM_cm (t := t) (L := L) (s := s) (by decide) (by decide)).mpr h)
        have h40 : ¬ cm t L s = 40 := fun h => c28 ((bM_cm (t := t) (L := L) (s := s) (by decide) (by decide)).mpr h)
        refine WS.iload_n hx dX11_readsOne_125 rfl 0 rfl ?_
        refine WS.callSi (st := []) [.int (bM t L s.1)] hx (c_X11_nameOf V d σ (bM t L s.1)) okX11_nameOf lm11_196 rfl rfl (Nat.le_of_ble_eq_true rfl) dX11_readsOne_126 (fun v10 σ11 h12 => ?_)
        obtain ⟨rfl, rfl⟩ := h12
        show WS layM V 5 X σ 129 [(1, .int (bM t L s.1)), (0, rf V 0)] [.int (nmF (bM t L s.1))]
        refine WS.as rfl rfl (congrArg (fun z => Value.int z :: _) (show nmF (bM t L s.1) = nmF (cm t L s) from bM_nm)) ?_
        skip
        refine WS.istore_n (lo' := [(2, .int (nmF (cm t L s))), (1, .int (bM t L s.1)), (0, rf V 0)]) hx dX11_readsOne_129 rfl (by decide) rfl ?_
        refine WS.iload_n hx dX11_readsOne_130 rfl 0 rfl ?_
        refine WS.if_lt (tgt := 152) hx dX11_readsOne_131 (by decide) (fun c131 => ?_) (fun c131 => ?_)
        · skip
          show WS layM V 5 X σ 152 [(2, .int (nmF (cm t L s))), (1, .int (bM t L s.1)), (0, rf V 0)] []
          have hn : nmF (cm t L s) = -1 := Classical.byContradiction fun h => by have h9 := (nmF_r h).1; (try simp only [l_int, tL_0, tL_1, tL_2, tL_4, tL_5, tL_6, tL_7, tL_9, tL_10, tL_12, tL_15, tL_30, tL_40, tL_60, tL_99, tL_255, tL_1023, tL_m1, lc_lt, lc_gt, lc_ge, lc_le, lc_eq, l6_le, l6_lt, l6_eq, tI_m133, tI_m226, i_le, i_lt, i_eq, tI_m1, tI_0, tI_1, tI_4, tI_6, tI_10, tI_40, tI_41, tI_45, tI_48, tI_57] at c16); (try simp only [l_int, tL_0, tL_1, tL_2, tL_4, tL_5, tL_6, tL_7, tL_9, tL_10, tL_12, tL_15, tL_30, tL_40, tL_60, tL_99, tL_255, tL_1023, tL_m1, lc_lt, lc_gt, lc_ge, lc_le, lc_eq, l6_le, l6_lt, l6_eq, tI_m133, tI_m226, i_le, i_lt, i_eq, tI_m1, tI_0, tI_1, tI_4, tI_6, tI_10, tI_40, tI_41, tI_45, tI_48, tI_57] at c22); (try simp only [l_int, tL_0, tL_1, tL_2, tL_4, tL_5, tL_6, tL_7, tL_9, tL_10, tL_12, tL_15, tL_30, tL_40, tL_60, tL_99, tL_255, tL_1023, tL_m1, lc_lt, lc_gt, lc_ge, lc_le, lc_eq, l6_le, l6_lt, l6_eq, tI_m133, tI_m226, i_le, i_lt, i_eq, tI_m1, tI_0, tI_1, tI_4, tI_6, tI_10, tI_40, tI_41, tI_45, tI_48, tI_57] at c28); (try simp only [l_int, tL_0, tL_1, tL_2, tL_4, tL_5, tL_6, tL_7, tL_9, tL_10, tL_12, tL_15, tL_30, tL_40, tL_60, tL_99, tL_255, tL_1023, tL_m1, lc_lt, lc_gt, lc_ge, lc_le, lc_eq, l6_le, l6_lt, l6_eq, tI_m133, tI_m226, i_le, i_lt, i_eq, tI_m1, tI_0, tI_1, tI_4, tI_6, tI_10, tI_40, tI_41, tI_45, tI_48, tI_57] at c131); (try simp only [l_int, tL_0, tL_1, tL_2, tL_4, tL_5, tL_6, tL_7, tL_9, tL_10, tL_12, tL_15, tL_30, tL_40, tL_60, tL_99, tL_255, tL_1023, tL_m1, lc_lt, lc_gt, lc_ge, lc_le, lc_eq, l6_le, l6_lt, l6_eq, tI_m133, tI_m226, i_le, i_lt, i_eq, tI_m1, tI_0, tI_1, tI_4, tI_6, tI_10, tI_40, tI_41, tI_45, tI_48, tI_57]); omega
          refine WS.iconst (v := 0) hx dX11_readsOne_152 (by decide) ?_
          refine WS.istore_n (lo' := [(3, .int 0), (2, .int (nmF (cm t L s))), (1, .int (bM t L s.1)), (0, rf V 0)]) hx dX11_readsOne_153 rfl (by decide) rfl ?_
          refine WS.iconst (v := 0) hx dX11_readsOne_154 (by decide) ?_
          refine WS.istore (lo' := [(4, .int 0), (3, .int 0), (2, .int (nmF (cm t L s))), (1, .int (bM t L s.1)), (0, rf V 0)]) hx dX11_readsOne_155 (by decide) rfl ?_
          exact WS.los [0, 1, 2, 3, 4] rfl (ld_X11_readsOne V d σ t μ0 L op M0 b hL hT h8 _ _ s hS X hx (fun hd => by rw [if_neg hd, if_pos hn] at he; exact he) (fun hd => by rw [if_pos hd] at he; exact he))
        · skip
          show WS layM V 5 X σ 134 [(2, .int (nmF (cm t L s))), (1, .int (bM t L s.1)), (0, rf V 0)] []
          have hn : ¬ nmF (cm t L s) = -1 := fun e => by rw [e] at c131; exact c131 (by decide)
          have hnr := nmF_r hn
          have hlt : s.1 < L := cm_lt (t := t) (by intro e; rw [e] at hn; exact absurd rfl hn)
          rw [if_neg (fun h => hn (dg_nm h)), if_neg hn] at he
          refine WS.aload_n hx dX11_readsOne_134 rfl 2 rfl ?_
          refine WS.dup hx dX11_readsOne_135 rfl ?_
          refine WS.getI hx okX11 lf11_152 rfl rfl dX11_readsOne_136 ?_
          refine WS.as rfl rfl (congrArg (fun z => Value.int z :: _) (show σ.1 0 18 = nI s.1 from hS.2.2.2.1)) ?_
          skip
          refine WS.iconst (v := 1) hx dX11_readsOne_139 (by decide) ?_
          refine WS.iadd hx dX11_readsOne_140 ?_
          refine WS.as rfl rfl (congrArg (fun z => Value.int z :: _) (show (nI s.1) + 1 = nI (s.1 + 1) from nI_1 _)) ?_
          skip
          refine WS.putI hx okX11 lf11_152 rfl rfl rfl rfl dX11_readsOne_141 ?_
          refine WS.aload_n hx dX11_readsOne_144 rfl 2 rfl ?_
          refine WS.iconst (v := (-1)) hx dX11_readsOne_145 (by decide) ?_
          refine WS.iload_n hx dX11_readsOne_146 rfl 0 rfl ?_
          refine WS.isub hx dX11_readsOne_147 ?_
          refine WS.callVv (st := []) [.int ((-1) - (nmF (cm t L s)))] hx (c_X11_writes V d (stI σ 0 18 (nI (s.1 + 1))) t μ0 L op M0 b hL hT h8 (true, adv s) (hS.ad hlt) (fun _ => hS.lr) (-1 - nmF (cm t L s)) ((-1) - (nmF (cm t L s))) (PH_n (by rw [i_sub (by rw [tI_m1]; omega) (by rw [tI_m1]; omega), tI_m1]; omega))) okX11_writes lm11_171 rfl rfl rfl rfl (Nat.le_of_ble_eq_true rfl) dX11_readsOne_148 (fun σ14 h15 => ?_)
          have ms148 := h15
          show WS layM V 5 X σ14 151 [(2, .int (nmF (cm t L s))), (1, .int (bM t L s.1)), (0, rf V 0)] []
          exact WS.vret hx he dX11_readsOne_151 ⟨rfl, ms148.na (by have h9 := hS.2.2.2.2.1; have h8 := hS.lr.2; have h7 : s.1 ≤ L := h9; have h6 : s.2.1 < s.1 + 1 := h8; omega)⟩
      · skip
        show WS layM V 5 X σ 31 [(1, .int (bM t L s.1)), (0, rf V 0)] []
        have hcm := (bM_cm (t := t) (L := L) (s := s) (by decide) (by decide)).mp c28
        have hlt : s.1 < L := cm_lt (t := t) (by rw [hcm]; decide)
        rw [if_neg (show ¬ isDg (cm t L s) = true by rw [hcm]; decide), if_pos (show nmF (cm t L s) = -1 by rw [hcm]; decide)] at he
        refine WS.aload_n hx dX11_readsOne_31 rfl 1 rfl ?_
        refine WS.getI hx okX11 lf11_187 rfl rfl dX11_readsOne_32 ?_
        refine WS.as rfl rfl (congrArg (fun z => Value.int z :: _) (show σ.1 0 20 = nI op from hS.2.2.2.2.2.1)) ?_
        skip
        refine WS.bipush (v := 6) hx dX11_readsOne_35 (by decide) ?_
        refine WS.icmp_ne (tgt := 45) hx dX11_readsOne_37 (by decide) (fun c37 => by exfalso; (try simp only [l_int, tL_0, tL_1, tL_2, tL_4, tL_5, tL_6, tL_7, tL_9, tL_10, tL_12, tL_15, tL_30, tL_40, tL_60, tL_99, tL_255, tL_1023, tL_m1, lc_lt, lc_gt, lc_ge, lc_le, lc_eq, l6_le, l6_lt, l6_eq, tI_m133, tI_m226, i_le, i_lt, i_eq, tI_m1, tI_0, tI_1, tI_4, tI_6, tI_10, tI_40, tI_41, tI_45, tI_48, tI_57] at c16); (try simp only [l_int, tL_0, tL_1, tL_2, tL_4, tL_5, tL_6, tL_7, tL_9, tL_10, tL_12, tL_15, tL_30, tL_40, tL_60, tL_99, tL_255, tL_1023, tL_m1, lc_lt, lc_gt, lc_ge, lc_le, lc_eq, l6_le, l6_lt, l6_eq, tI_m133, tI_m226, i_le, i_lt, i_eq, tI_m1, tI_0, tI_1, tI_4, tI_6, tI_10, tI_40, tI_41, tI_45, tI_48, tI_57] at c22); (try simp only [l_int, tL_0, tL_1, tL_2, tL_4, tL_5, tL_6, tL_7, tL_9, tL_10, tL_12, tL_15, tL_30, tL_40, tL_60, tL_99, tL_255, tL_1023, tL_m1, lc_lt, lc_gt, lc_ge, lc_le, lc_eq, l6_le, l6_lt, l6_eq, tI_m133, tI_m226, i_le, i_lt, i_eq, tI_m1, tI_0, tI_1, tI_4, tI_6, tI_10, tI_40, tI_41, tI_45, tI_48, tI_57] at c28); (try simp only [l_int, tL_0, tL_1, tL_2, tL_4, tL_5, tL_6, tL_7, tL_9, tL_10, tL_12, tL_15, tL_30, tL_40, tL_60, tL_99, tL_255, tL_1023, tL_m1, lc_lt, lc_gt, lc_ge, lc_le, lc_eq, l6_le, l6_lt, l6_eq, tI_m133, tI_m226, i_le, i_lt, i_eq, tI_m1, tI_0, tI_1, tI_4, tI_6, tI_10, tI_40, tI_41, tI_45, tI_48, tI_57] at c37); (try simp only [l_int, tL_0, tL_1, tL_2, tL_4, tL_5, tL_6, tL_7, tL_9, tL_10, tL_12, tL_15, tL_30, tL_40, tL_60, tL_99, tL_255, tL_1023, tL_m1, lc_lt, lc_gt, lc_ge, lc_le, lc_eq, l6_le, l6_lt, l6_eq, tI_m133, tI_m226, i_le, i_lt, i_eq, tI_m1, tI_0, tI_1, tI_4, tI_6, tI_10, tI_40, tI_41, tI_45, tI_48, tI_57]); omega) (fun c37 => ?_)
        refine WS.aload_n hx dX11_readsOne_40 rfl 1 rfl ?_
        refine WS.callVv (st := []) [] hx (c_X11_wrong V d σ t μ0 L op M0 b hL hT h8 (true, s) hS) okX11_wrong lm11_190 rfl rfl rfl rfl (Nat.le_of_ble_eq_true rfl) dX11_readsOne_41 (fun σ17 h18 => ?_)
        have ms41 := h18
        show WS layM V 5 X σ17 44 [(1, .int (bM t L s.1)), (0, rf V 0)] []
        exact WS.vret hx he dX11_readsOne_44 ⟨rfl, ms41⟩
theorem c_X11_readsOneK (V : Vt) (t : Nat → Int32) (μ0 : Sg) (L M0 b : Nat) (hL : L ≤ 120) (hT : ∀ j, j < L → μ0.1 5 j = t j) (h8 : μ0.1 0 8 = nI L) : ∀ (k d op : Nat), op + k = 6 → ∀ (s : Ps) (τ : Sg), MS μ0 τ L op M0 b (true, s) → CT layM V mX11_readsOne (d + 6 * k + 1) [rf V 0] τ (Rv fun σ' => MS μ0 σ' L op M0 b (oF t L k s))
  | 0, d, op, hop, s, τ, hS => c_X11_readsOne0 V (d + 6 * 0) τ t μ0 L op M0 b hL hT h8 hop s hS
  | k + 1, d, op, hop, s, τ, hS => by
    have gO := oF_g (t := t) hL k
    have hO : ∀ (e : Nat) (s : Ps) (τ : Sg), MS μ0 τ L (op + 1) M0 b (true, s) → CT layM V mX11_readsOne (e + 6 * k + 1) [rf V 0] τ (Rv fun σ' => MS μ0 σ' L (op + 1) M0 b (oF t L k s)) := fun e s τ hS => c_X11_readsOneK V t μ0 L M0 b hL hT h8 k e (op + 1) (by omega) s τ hS
    have hP := fun (s : Ps) (τ : Sg) (hS : MS μ0 τ L (op + 1) M0 b (true, s)) => c_X11_readsProduct V (d + 6 * k) τ t μ0 L (op + 1) M0 b hL hT h8 (oF t L k) (hO d) gO s hS
    have hSS := fun (s : Ps) (τ : Sg) (hS : MS μ0 τ L (op + 1) M0 b (true, s)) => c_X11_readsSums V (d + 6 * k) τ t μ0 L (op + 1) M0 b hL hT h8 (pPF t L (oF t L k)) hP (pP_g hL gO) s hS
    have hC := fun (s : Ps) (τ : Sg) (hS : MS μ0 τ L (op + 1) M0 b (true, s)) => c_X11_readsCompared V (d + 6 * k) τ t μ0 L (op + 1) M0 b hL hT h8 (pSF t L (oF t L k)) hSS (pS_g hL gO) s hS
    have hBB := fun (s : Ps) (τ : Sg) (hS : MS μ0 τ L (op + 1) M0 b (true, s)) => c_X11_readsBoth V (d + 6 * k) τ t μ0 L (op + 1) M0 b hL hT h8 (pBF t L (oF t L k)) hC (pB_g hL gO) s hS
    have hE := fun (s : Ps) (τ : Sg) (hS : MS μ0 τ L (op + 1) M0 b (true, s)) => c_X11_readsEither V (d + 6 * k) τ t μ0 L (op + 1) M0 b hL hT h8 (pAF t L (oF t L k)) hBB (pA_g hL gO) s hS
    have hO5 : ∀ (s : Ps) (τ : Sg), MS μ0 τ L (op + 1) M0 b (true, s) → CT layM V mX11_readsOne (d + 6 * k + 6) [rf V 0] τ (Rv fun σ' => MS μ0 σ' L (op + 1) M0 b (oF t L k s)) := fun s τ hS => by
      have h := hO (d + 5) s τ hS
      rw [show d + 5 + 6 * k + 1 = d + 6 * k + 6 by omega] at h
      exact h
    have h := c_X11_readsOneS V (d + 6 * k) τ t μ0 L op M0 b hL hT h8 (by omega) (pEF t L (oF t L k)) (oF t L k) hE hO5 (pE_g hL gO) gO s hS
    rw [show d + 6 * k + 7 = d + 6 * (k + 1) + 1 by omega] at h
    rw [oF_s]
    exact h
theorem c_X11_readsEitherK (V : Vt) (d : Nat) (t : Nat → Int32) (μ0 : Sg) (L M0 b : Nat) (hL : L ≤ 120) (hT : ∀ j, j < L → μ0.1 5 j = t j) (h8 : μ0.1 0 8 = nI L) (s : Ps) (τ : Sg) (hS : MS μ0 τ L 0 M0 b (true, s)) : CT layM V mX11_readsEither (d + 42) [rf V 0] τ (Rv fun σ' => MS μ0 σ' L 0 M0 b (E0 t L s)) := by
  have gO := oF_g (t := t) hL 6
  have hO : ∀ (s : Ps) (τ : Sg), MS μ0 τ L 0 M0 b (true, s) → CT layM V mX11_readsOne (d + 36 + 1) [rf V 0] τ (Rv fun σ' => MS μ0 σ' L 0 M0 b (oF t L 6 s)) := fun s τ hS => c_X11_readsOneK V t μ0 L M0 b hL hT h8 6 d 0 rfl s τ hS
  have hP := fun (s : Ps) (τ : Sg) (hS : MS μ0 τ L 0 M0 b (true, s)) => c_X11_readsProduct V (d + 36) τ t μ0 L 0 M0 b hL hT h8 (oF t L 6) hO gO s hS
  have hSS := fun (s : Ps) (τ : Sg) (hS : MS μ0 τ L 0 M0 b (true, s)) => c_X11_readsSums V (d + 36) τ t μ0 L 0 M0 b hL hT h8 (pPF t L (oF t L 6)) hP (pP_g hL gO) s hS
  have hC := fun (s : Ps) (τ : Sg) (hS : MS μ0 τ L 0 M0 b (true, s)) => c_X11_readsCompared V (d + 36) τ t μ0 L 0 M0 b hL hT h8 (pSF t L (oF t L 6)) hSS (pS_g hL gO) s hS
  have hBB := fun (s : Ps) (τ : Sg) (hS : MS μ0 τ L 0 M0 b (true, s)) => c_X11_readsBoth V (d + 36) τ t μ0 L 0 M0 b hL hT h8 (pBF t L (oF t L 6)) hC (pB_g hL gO) s hS
  exact c_X11_readsEither V (d + 36) τ t μ0 L 0 M0 b hL hT h8 (pAF t L (oF t L 6)) hBB (pA_g hL gO) s hS
