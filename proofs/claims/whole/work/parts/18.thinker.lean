theorem lay_th {t : Nat} (h : 38 ≤ t ∧ t ≤ 51) : layC[t]? = some (.inl (9, [some (some 1), some (some 2), none, none, none, none, none, none, none, none])) := by
  have : t = 38 ∨ t = 39 ∨ t = 40 ∨ t = 41 ∨ t = 42 ∨ t = 43 ∨ t = 44 ∨ t = 45 ∨ t = 46 ∨ t = 47 ∨ t = 48 ∨ t = 49 ∨ t = 50 ∨ t = 51 := by omega
  rcases this with rfl | rfl | rfl | rfl | rfl | rfl | rfl | rfl | rfl | rfl | rfl | rfl | rfl | rfl <;> rfl
/-- but for one thinker, and what the law works with, nothing has changed -/
def ThE (t : Nat) (σ σ' : Sg) : Prop := (∀ q, q ≠ 21 → q ≠ 22 → q ≠ 23 → q ≠ t → σ'.1 q = σ.1 q) ∧ σ'.2 = σ.2
theorem ThE.rf {t : Nat} {σ : Sg} : ThE t σ σ := ⟨fun _ _ _ _ _ => rfl, rfl⟩
theorem ThE.tr {t : Nat} {σ τ υ : Sg} (h : ThE t σ τ) (g : ThE t τ υ) : ThE t σ υ := ⟨fun q h1 h2 h3 h4 => (g.1 q h1 h2 h3 h4).trans (h.1 q h1 h2 h3 h4), g.2.trans h.2⟩
theorem ThE.le {t : Nat} {σ σ' : Sg} (h : LE σ σ') : ThE t σ σ' := ⟨fun q h1 h2 h3 _ => h.1 q h1 h2 h3, h.2⟩
theorem ThE.st {t k : Nat} {σ : Sg} {v : Int32} : ThE t σ (stI σ t k v) := ⟨fun q _ _ _ h => stI_o _ _ _ _ h, rfl⟩
theorem QI.the {σ σ' : Sg} {n t : Nat} (h : QI σ n) (ht : 38 ≤ t) (e : ThE t σ σ') : QI σ' n := by
  unfold QI
  rw [e.1 1 (by decide) (by decide) (by decide) (by omega), e.1 11 (by decide) (by decide) (by decide) (by omega), e.1 12 (by decide) (by decide) (by decide) (by omega), e.1 13 (by decide) (by decide) (by decide) (by omega), e.1 14 (by decide) (by decide) (by decide) (by omega), e.1 15 (by decide) (by decide) (by decide) (by omega), e.1 16 (by decide) (by decide) (by decide) (by omega), e.1 17 (by decide) (by decide) (by decide) (by omega), e.1 18 (by decide) (by decide) (by decide) (by omega)]
  exact h
theorem LI.th {V : Vt} {σ : Sg} {m c t k : Nat} {v : Int32} (h : LI V σ m c) (ht : 38 ≤ t) : LI V (stI σ t k v) m c := by
  have hc : (stI σ t k v).1 c = σ.1 c := stI_o _ _ _ _ (by rcases h.c.2.2 with rfl | rfl <;> omega)
  have h2 : (stI σ t k v).1 2 = σ.1 2 := stI_o _ _ _ _ (by omega)
  have h3 : (stI σ t k v).1 23 = σ.1 23 := stI_o _ _ _ _ (by omega)
  unfold LI
  rw [hc, h2, h3]
  exact h
/-- a thinker: who, his bed, where, the century, how many are open, what else leads where, whether he is open -/
def Th (σ : Sg) (t k b a y o : Nat) (ot ol : Int32) (op : Bool) : Prop := σ.1 t 2 = nI k ∧ σ.1 t 3 = nI b ∧ σ.1 t 4 = nI a ∧ σ.1 t 5 = nI y ∧ σ.1 t 6 = nI o ∧ σ.1 t 7 = ot ∧ σ.1 t 8 = ol ∧ σ.1 t 9 = bI op
theorem Th.le {σ σ' : Sg} {t k b a y o : Nat} {ot ol : Int32} {op : Bool} (h : Th σ t k b a y o ot ol op) (ht : 38 ≤ t) (e : LE σ σ') : Th σ' t k b a y o ot ol op := by
  unfold Th
  rw [e.1 t (by omega) (by omega) (by omega)]
  exact h
theorem Th.ne {σ : Sg} {t u j k b a y o : Nat} {v ot ol : Int32} {op : Bool} (h : Th σ t k b a y o ot ol op) (hu : t ≠ u) : Th (stI σ u j v) t k b a y o ot ol op := by
  unfold Th
  rw [stI_o _ _ _ _ hu]
  exact h
def Tr (k b a y o : Nat) : Prop := k ≤ 9 ∧ b ≤ 9 ∧ a ≤ 15 ∧ y ≤ 99 ∧ o ≤ 15
def cnt (f : Nat → Int32) : Nat → Nat
  | 0 => 0
  | k + 1 => cnt f k + nn (f k)
theorem l_cnt {f : Nat → Int32} : ∀ (n : Nat), (∀ j, j < n → rg (f j) 1) → l_sum f n = nI (cnt f n) ∧ cnt f n ≤ n
  | 0, _ => ⟨nI_0.symm, Nat.le_refl _⟩
  | n + 1, h => by
    obtain ⟨h1, h2⟩ := l_cnt n (fun j hj => h j (by omega))
    have h3 := h n (by omega)
    have h4 := h3.le
    refine ⟨?_, by unfold cnt; omega⟩
    show l_sum f n + f n = nI (cnt f n + nn (f n))
    rw [h1, ← nI_add, ← h3.i]
theorem QI.o {σ : Sg} {n : Nat} (h : QI σ n) : l_sum (σ.1 14) n = nI (cnt (σ.1 14) n) ∧ cnt (σ.1 14) n ≤ n := l_cnt n (fun j hj => h.2.2.2.2.2.1 j (by have := h.1; omega))
set_option maxHeartbeats 1000000 in
theorem c_X9_begin (V : Vt) (d : Nat) (σ : Sg) (t : Nat) (ht : 38 ≤ t ∧ t ≤ 51) (n : Nat) (hQ : QI σ n) (k : Nat) (hk : k < n) : CT layC V mX9_begin (d + 3) [rf V t, .int (nI k)] σ (Rv fun σ' => ThE t σ σ' ∧ (∀ m c, LI V σ m c → LI V σ' m c) ∧ Th σ' t k (nn (σ.1 11 k)) (nn (σ.1 12 k)) (nn (σ.1 18 0)) (cnt (σ.1 14) n) (-1) (σ.1 t 8) (decide (σ.1 14 k = 1))) := by
  refine CT.of (own := RX9) rfl (by decide) (Nat.le_of_ble_eq_true rfl) (fun X (hx : Ok V RX9 cX9_begin 2 (d + 3) X) (he : En layC V none (Rv fun σ' => ThE t σ σ' ∧ (∀ m c, LI V σ m c → LI V σ' m c) ∧ Th σ' t k (nn (σ.1 11 k)) (nn (σ.1 12 k)) (nn (σ.1 18 0)) (cnt (σ.1 14) n) (-1) (σ.1 t 8) (decide (σ.1 14 k = 1))) X) => ?_)
  change WS layC V 2 X σ 0 [(0, rf V t), (1, .int (nI k))] []
  have hn := hQ.n
  have hkI : (nI k).toInt = (k : Int) := nI_c (by omega)
  have hh : ∀ q : Int32, 0 ≤ q.toInt → q.toInt ≤ 4 → hasC n (nI k) q := by intro q h1 h2; unfold hasC; omega
  refine WS.aload_n hx dX9_begin_0 rfl 0 rfl ?_
  refine WS.iload_n hx dX9_begin_1 rfl 1 rfl ?_
  refine WS.putI hx okX9 lf9_19 (lay_th ht) rfl rfl rfl dX9_begin_2 ?_
  refine WS.aload_n hx dX9_begin_5 rfl 0 rfl ?_
  refine WS.aload_n hx dX9_begin_6 rfl 0 rfl ?_
  refine WS.getR hx okX9 lf9_9 (lay_th ht) rfl dX9_begin_7 ?_
  refine WS.iload_n hx dX9_begin_10 rfl 1 rfl ?_
  refine WS.iconst (v := 0) hx dX9_begin_11 (by decide) ?_
  refine WS.callVi (st := [rf V t]) [.int (nI k), .int 0] hx (c_X7_told V (d + 1) (stI σ t 2 (nI k)) n (hQ.the ht.1 (ThE.st)) (nI k) 0 (hh 0 (by decide) (by decide))) okX7_told lm9_23 rfl rfl rfl rfl (Nat.le_of_ble_eq_true rfl) dX9_begin_12 (fun v1 σ2 h3 => ?_)
  obtain ⟨rfl, rfl⟩ := h3
  show WS layC V 2 X (stI σ t 2 (nI k)) 15 [(0, rf V t), (1, .int (nI k))] [.int ((stI σ t 2 (nI k)).1 (numId 0) (nn (nI k))), rf V t]
  refine WS.as rfl rfl (congrArg (fun z => Value.int z :: _) (show (stI σ t 2 (nI k)).1 (numId 0) (nn (nI k)) = σ.1 11 k from by rw [show numId 0 = 11 from rfl, nn_nI (by omega), stI_o _ _ _ _ (show 11 ≠ t by omega)])) ?_
  skip
  refine WS.putI hx okX9 lf9_29 (lay_th ht) rfl rfl rfl dX9_begin_15 ?_
  refine WS.aload_n hx dX9_begin_18 rfl 0 rfl ?_
  refine WS.aload_n hx dX9_begin_19 rfl 0 rfl ?_
  refine WS.getR hx okX9 lf9_9 (lay_th ht) rfl dX9_begin_20 ?_
  refine WS.iload_n hx dX9_begin_23 rfl 1 rfl ?_
  refine WS.iconst (v := 1) hx dX9_begin_24 (by decide) ?_
  refine WS.callVi (st := [rf V t]) [.int (nI k), .int 1] hx (c_X7_told V (d + 1) (stI (stI σ t 2 (nI k)) t 3 (σ.1 11 k)) n (hQ.the ht.1 ((ThE.st).tr ThE.st)) (nI k) 1 (hh 1 (by decide) (by decide))) okX7_told lm9_23 rfl rfl rfl rfl (Nat.le_of_ble_eq_true rfl) dX9_begin_25 (fun v4 σ5 h6 => ?_)
  obtain ⟨rfl, rfl⟩ := h6
  show WS layC V 2 X (stI (stI σ t 2 (nI k)) t 3 (σ.1 11 k)) 28 [(0, rf V t), (1, .int (nI k))] [.int ((stI (stI σ t 2 (nI k)) t 3 (σ.1 11 k)).1 (numId 1) (nn (nI k))), rf V t]
  refine WS.as rfl rfl (congrArg (fun z => Value.int z :: _) (show (stI (stI σ t 2 (nI k)) t 3 (σ.1 11 k)).1 (numId 1) (nn (nI k)) = σ.1 12 k from by rw [show numId 1 = 12 from rfl, nn_nI (by omega), stI_o _ _ _ _ (show 12 ≠ t by omega), stI_o _ _ _ _ (show 12 ≠ t by omega)])) ?_
  skip
  refine WS.putI hx okX9 lf9_32 (lay_th ht) rfl rfl rfl dX9_begin_28 ?_
  refine WS.aload_n hx dX9_begin_31 rfl 0 rfl ?_
  refine WS.aload_n hx dX9_begin_32 rfl 0 rfl ?_
  refine WS.getR hx okX9 lf9_9 (lay_th ht) rfl dX9_begin_33 ?_
  refine WS.iload_n hx dX9_begin_36 rfl 1 rfl ?_
  refine WS.callVi (st := [rf V t]) [.int (nI k)] hx (c_X7_isOpen V d (stI (stI (stI σ t 2 (nI k)) t 3 (σ.1 11 k)) t 4 (σ.1 12 k)) n (hQ.the ht.1 (((ThE.st).tr ThE.st).tr ThE.st)) k hk) okX7_isOpen lm9_35 rfl rfl rfl rfl (Nat.le_of_ble_eq_true rfl) dX9_begin_37 (fun v7 σ8 h9 => ?_)
  rcases h9 with ⟨rfl, rfl, hb37⟩ | ⟨rfl, rfl, hb37⟩
  · skip
    show WS layC V 2 X (stI (stI (stI σ t 2 (nI k)) t 3 (σ.1 11 k)) t 4 (σ.1 12 k)) 40 [(0, rf V t), (1, .int (nI k))] [.int 1, rf V t]
    rw [stI_o _ _ _ _ (show 14 ≠ t by omega), stI_o _ _ _ _ (show 14 ≠ t by omega), stI_o _ _ _ _ (show 14 ≠ t by omega)] at hb37
    refine WS.putZ hx okX9 lf9_39 (lay_th ht) rfl rfl rfl (Or.inr rfl) dX9_begin_40 ?_
    refine WS.aload_n hx dX9_begin_43 rfl 0 rfl ?_
    refine WS.aload_n hx dX9_begin_44 rfl 0 rfl ?_
    refine WS.getR hx okX9 lf9_9 (lay_th ht) rfl dX9_begin_45 ?_
    refine WS.callVi (st := [rf V t]) [] hx (c_X7_centuryNow V (d + 2) (stI (stI (stI (stI σ t 2 (nI k)) t 3 (σ.1 11 k)) t 4 (σ.1 12 k)) t 9 1) n (hQ.the ht.1 ((((ThE.st).tr ThE.st).tr ThE.st).tr ThE.st))) okX7_centuryNow lm9_43 rfl rfl rfl rfl (Nat.le_of_ble_eq_true rfl) dX9_begin_48 (fun v10 σ11 h12 => ?_)
    obtain ⟨rfl, rfl⟩ := h12
    show WS layC V 2 X (stI (stI (stI (stI σ t 2 (nI k)) t 3 (σ.1 11 k)) t 4 (σ.1 12 k)) t 9 1) 51 [(0, rf V t), (1, .int (nI k))] [.int ((stI (stI (stI (stI σ t 2 (nI k)) t 3 (σ.1 11 k)) t 4 (σ.1 12 k)) t 9 1).1 18 0), rf V t]
    refine WS.as rfl rfl (congrArg (fun z => Value.int z :: _) (show (stI (stI (stI (stI σ t 2 (nI k)) t 3 (σ.1 11 k)) t 4 (σ.1 12 k)) t 9 1).1 18 0 = σ.1 18 0 from by rw [stI_o _ _ _ _ (show 18 ≠ t by omega), stI_o _ _ _ _ (show 18 ≠ t by omega), stI_o _ _ _ _ (show 18 ≠ t by omega), stI_o _ _ _ _ (show 18 ≠ t by omega)])) ?_
    skip
    refine WS.putI hx okX9 lf9_47 (lay_th ht) rfl rfl rfl dX9_begin_51 ?_
    refine WS.aload_n hx dX9_begin_54 rfl 0 rfl ?_
    refine WS.aload_n hx dX9_begin_55 rfl 0 rfl ?_
    refine WS.getR hx okX9 lf9_9 (lay_th ht) rfl dX9_begin_56 ?_
    refine WS.callVi (st := [rf V t]) [] hx (c_X7_openOnes V (d + 2) (stI (stI (stI (stI (stI σ t 2 (nI k)) t 3 (σ.1 11 k)) t 4 (σ.1 12 k)) t 9 1) t 5 (σ.1 18 0)) n (hQ.the ht.1 (((((ThE.st).tr ThE.st).tr ThE.st).tr ThE.st).tr ThE.st))) okX7_openOnes lm9_50 rfl rfl rfl rfl (Nat.le_of_ble_eq_true rfl) dX9_begin_59 (fun v13 σ14 h15 => ?_)
    obtain ⟨rfl, rfl⟩ := h15
    show WS layC V 2 X (stI (stI (stI (stI (stI σ t 2 (nI k)) t 3 (σ.1 11 k)) t 4 (σ.1 12 k)) t 9 1) t 5 (σ.1 18 0)) 62 [(0, rf V t), (1, .int (nI k))] [.int (l_sum ((stI (stI (stI (stI (stI σ t 2 (nI k)) t 3 (σ.1 11 k)) t 4 (σ.1 12 k)) t 9 1) t 5 (σ.1 18 0)).1 14) n), rf V t]
    refine WS.as rfl rfl (congrArg (fun z => Value.int z :: _) (show l_sum ((stI (stI (stI (stI (stI σ t 2 (nI k)) t 3 (σ.1 11 k)) t 4 (σ.1 12 k)) t 9 1) t 5 (σ.1 18 0)).1 14) n = l_sum (σ.1 14) n from by rw [stI_o _ _ _ _ (show 14 ≠ t by omega), stI_o _ _ _ _ (show 14 ≠ t by omega), stI_o _ _ _ _ (show 14 ≠ t by omega), stI_o _ _ _ _ (show 14 ≠ t by omega), stI_o _ _ _ _ (show 14 ≠ t by omega)])) ?_
    skip
    refine WS.putI hx okX9 lf9_53 (lay_th ht) rfl rfl rfl dX9_begin_62 ?_
    refine WS.aload_n hx dX9_begin_65 rfl 0 rfl ?_
    refine WS.iconst (v := (-1)) hx dX9_begin_66 (by decide) ?_
    refine WS.putI hx okX9 lf9_56 (lay_th ht) rfl rfl rfl dX9_begin_67 ?_
    exact WS.vret hx he dX9_begin_70 ⟨rfl, ((((((ThE.st).tr ThE.st).tr ThE.st).tr ThE.st).tr ThE.st).tr ThE.st).tr ThE.st, fun m c h => ((((((h.th ht.1).th ht.1).th ht.1).th ht.1).th ht.1).th ht.1).th ht.1, by simp [stI, va_up, upd], by rw [← (hQ.2.2.1 k (by omega)).i]; simp [stI, va_up, upd], by rw [← (hQ.2.2.2.1 k (by omega)).i]; simp [stI, va_up, upd], by rw [← hQ.2.2.2.2.2.2.2.2.2.i]; simp [stI, va_up, upd], by rw [← hQ.o.1]; simp [stI, va_up, upd], by simp [stI, va_up, upd], by simp [stI, va_up, upd], by simp [stI, va_up, upd, hb37, bI]⟩
  · skip
    show WS layC V 2 X (stI (stI (stI σ t 2 (nI k)) t 3 (σ.1 11 k)) t 4 (σ.1 12 k)) 40 [(0, rf V t), (1, .int (nI k))] [.int 0, rf V t]
    rw [stI_o _ _ _ _ (show 14 ≠ t by omega), stI_o _ _ _ _ (show 14 ≠ t by omega), stI_o _ _ _ _ (show 14 ≠ t by omega)] at hb37
    refine WS.putZ hx okX9 lf9_39 (lay_th ht) rfl rfl rfl (Or.inl rfl) dX9_begin_40 ?_
    refine WS.aload_n hx dX9_begin_43 rfl 0 rfl ?_
    refine WS.aload_n hx dX9_begin_44 rfl 0 rfl ?_
    refine WS.getR hx okX9 lf9_9 (lay_th ht) rfl dX9_begin_45 ?_
    refine WS.callVi (st := [rf V t]) [] hx (c_X7_centuryNow V (d + 2) (stI (stI (stI (stI σ t 2 (nI k)) t 3 (σ.1 11 k)) t 4 (σ.1 12 k)) t 9 0) n (hQ.the ht.1 ((((ThE.st).tr ThE.st).tr ThE.st).tr ThE.st))) okX7_centuryNow lm9_43 rfl rfl rfl rfl (Nat.le_of_ble_eq_true rfl) dX9_begin_48 (fun v16 σ17 h18 => ?_)
    obtain ⟨rfl, rfl⟩ := h18
    show WS layC V 2 X (stI (stI (stI (stI σ t 2 (nI k)) t 3 (σ.1 11 k)) t 4 (σ.1 12 k)) t 9 0) 51 [(0, rf V t), (1, .int (nI k))] [.int ((stI (stI (stI (stI σ t 2 (nI k)) t 3 (σ.1 11 k)) t 4 (σ.1 12 k)) t 9 0).1 18 0), rf V t]
    refine WS.as rfl rfl (congrArg (fun z => Value.int z :: _) (show (stI (stI (stI (stI σ t 2 (nI k)) t 3 (σ.1 11 k)) t 4 (σ.1 12 k)) t 9 0).1 18 0 = σ.1 18 0 from by rw [stI_o _ _ _ _ (show 18 ≠ t by omega), stI_o _ _ _ _ (show 18 ≠ t by omega), stI_o _ _ _ _ (show 18 ≠ t by omega), stI_o _ _ _ _ (show 18 ≠ t by omega)])) ?_
    skip
    refine WS.putI hx okX9 lf9_47 (lay_th ht) rfl rfl rfl dX9_begin_51 ?_
    refine WS.aload_n hx dX9_begin_54 rfl 0 rfl ?_
    refine WS.aload_n hx dX9_begin_55 rfl 0 rfl ?_
    refine WS.getR hx okX9 lf9_9 (lay_th ht) rfl dX9_begin_56 ?_
    refine WS.callVi (st := [rf V t]) [] hx (c_X7_openOnes V (d + 2) (stI (stI (stI (stI (stI σ t 2 (nI k)) t 3 (σ.1 11 k)) t 4 (σ.1 12 k)) t 9 0) t 5 (σ.1 18 0)) n (hQ.the ht.1 (((((ThE.st).tr ThE.st).tr ThE.st).tr ThE.st).tr ThE.st))) okX7_openOnes lm9_50 rfl rfl rfl rfl (Nat.le_of_ble_eq_true rfl) dX9_begin_59 (fun v19 σ20 h21 => ?_)
    obtain ⟨rfl, rfl⟩ := h21
    show WS layC V 2 X (stI (stI (stI (stI (stI σ t 2 (nI k)) t 3 (σ.1 11 k)) t 4 (σ.1 12 k)) t 9 0) t 5 (σ.1 18 0)) 62 [(0, rf V t), (1, .int (nI k))] [.int (l_sum ((stI (stI (stI (stI (stI σ t 2 (nI k)) t 3 (σ.1 11 k)) t 4 (σ.1 12 k)) t 9 0) t 5 (σ.1 18 0)).1 14) n), rf V t]
    refine WS.as rfl rfl (congrArg (fun z => Value.int z :: _) (show l_sum ((stI (stI (stI (stI (stI σ t 2 (nI k)) t 3 (σ.1 11 k)) t 4 (σ.1 12 k)) t 9 0) t 5 (σ.1 18 0)).1 14) n = l_sum (σ.1 14) n from by rw [stI_o _ _ _ _ (show 14 ≠ t by omega), stI_o _ _ _ _ (show 14 ≠ t by omega), stI_o _ _ _ _ (show 14 ≠ t by omega), stI_o _ _ _ _ (show 14 ≠ t by omega), stI_o _ _ _ _ (show 14 ≠ t by omega)])) ?_
    skip
    refine WS.putI hx okX9 lf9_53 (lay_th ht) rfl rfl rfl dX9_begin_62 ?_
    refine WS.aload_n hx dX9_begin_65 rfl 0 rfl ?_
    refine WS.iconst (v := (-1)) hx dX9_begin_66 (by decide) ?_
    refine WS.putI hx okX9 lf9_56 (lay_th ht) rfl rfl rfl dX9_begin_67 ?_
    exact WS.vret hx he dX9_begin_70 ⟨rfl, ((((((ThE.st).tr ThE.st).tr ThE.st).tr ThE.st).tr ThE.st).tr ThE.st).tr ThE.st, fun m c h => ((((((h.th ht.1).th ht.1).th ht.1).th ht.1).th ht.1).th ht.1).th ht.1, by simp [stI, va_up, upd], by rw [← (hQ.2.2.1 k (by omega)).i]; simp [stI, va_up, upd], by rw [← (hQ.2.2.2.1 k (by omega)).i]; simp [stI, va_up, upd], by rw [← hQ.2.2.2.2.2.2.2.2.2.i]; simp [stI, va_up, upd], by rw [← hQ.o.1]; simp [stI, va_up, upd], by simp [stI, va_up, upd], by simp [stI, va_up, upd], by simp [stI, va_up, upd, hb37, bI]⟩
set_option maxHeartbeats 1000000 in
theorem c_X9_supposeAt (V : Vt) (d : Nat) (σ : Sg) (t : Nat) (ht : 38 ≤ t ∧ t ≤ 51) (v : Int32) : CT layC V mX9_supposeAt (d) [rf V t, .int v] σ (Rvo (stI σ t 4 v)) := by
  refine CT.of (own := RX9) rfl (by decide) (Nat.le_of_ble_eq_true rfl) (fun X (hx : Ok V RX9 cX9_supposeAt 2 (d) X) (he : En layC V none (Rvo (stI σ t 4 v)) X) => ?_)
  change WS layC V 2 X σ 0 [(0, rf V t), (1, .int v)] []
  refine WS.aload_n hx dX9_supposeAt_0 rfl 0 rfl ?_
  refine WS.iload_n hx dX9_supposeAt_1 rfl 1 rfl ?_
  refine WS.putI hx okX9 lf9_32 (lay_th ht) rfl rfl rfl dX9_supposeAt_2 ?_
  exact WS.vret hx he dX9_supposeAt_5 Rvo.i
set_option maxHeartbeats 1000000 in
theorem c_X9_supposeBed (V : Vt) (d : Nat) (σ : Sg) (t : Nat) (ht : 38 ≤ t ∧ t ≤ 51) (v : Int32) : CT layC V mX9_supposeBed (d) [rf V t, .int v] σ (Rvo (stI σ t 3 v)) := by
  refine CT.of (own := RX9) rfl (by decide) (Nat.le_of_ble_eq_true rfl) (fun X (hx : Ok V RX9 cX9_supposeBed 2 (d) X) (he : En layC V none (Rvo (stI σ t 3 v)) X) => ?_)
  change WS layC V 2 X σ 0 [(0, rf V t), (1, .int v)] []
  refine WS.aload_n hx dX9_supposeBed_0 rfl 0 rfl ?_
  refine WS.iload_n hx dX9_supposeBed_1 rfl 1 rfl ?_
  refine WS.putI hx okX9 lf9_29 (lay_th ht) rfl rfl rfl dX9_supposeBed_2 ?_
  exact WS.vret hx he dX9_supposeBed_5 Rvo.i
set_option maxHeartbeats 1000000 in
theorem c_X9_supposeLeads (V : Vt) (d : Nat) (σ : Sg) (t : Nat) (ht : 38 ≤ t ∧ t ≤ 51) (u v : Int32) : CT layC V mX9_supposeLeads (d) [rf V t, .int u, .int v] σ (Rvo (stI (stI σ t 7 u) t 8 v)) := by
  refine CT.of (own := RX9) rfl (by decide) (Nat.le_of_ble_eq_true rfl) (fun X (hx : Ok V RX9 cX9_supposeLeads 3 (d) X) (he : En layC V none (Rvo (stI (stI σ t 7 u) t 8 v)) X) => ?_)
  change WS layC V 3 X σ 0 [(0, rf V t), (1, .int u), (2, .int v)] []
  refine WS.aload_n hx dX9_supposeLeads_0 rfl 0 rfl ?_
  refine WS.iload_n hx dX9_supposeLeads_1 rfl 1 rfl ?_
  refine WS.putI hx okX9 lf9_56 (lay_th ht) rfl rfl rfl dX9_supposeLeads_2 ?_
  refine WS.aload_n hx dX9_supposeLeads_5 rfl 0 rfl ?_
  refine WS.iload_n hx dX9_supposeLeads_6 rfl 2 rfl ?_
  refine WS.putI hx okX9 lf9_59 (lay_th ht) rfl rfl rfl dX9_supposeLeads_7 ?_
  exact WS.vret hx he dX9_supposeLeads_10 Rvo.i
set_option maxHeartbeats 1000000 in
theorem c_X9_beOpen (V : Vt) (d : Nat) (σ : Sg) (t : Nat) (ht : 38 ≤ t ∧ t ≤ 51) : CT layC V mX9_beOpen (d) [rf V t] σ (Rvo (stI σ t 9 1)) := by
  refine CT.of (own := RX9) rfl (by decide) (Nat.le_of_ble_eq_true rfl) (fun X (hx : Ok V RX9 cX9_beOpen 1 (d) X) (he : En layC V none (Rvo (stI σ t 9 1)) X) => ?_)
  change WS layC V 1 X σ 0 [(0, rf V t)] []
  refine WS.aload_n hx dX9_beOpen_0 rfl 0 rfl ?_
  refine WS.iconst (v := 1) hx dX9_beOpen_1 (by decide) ?_
  refine WS.putZ hx okX9 lf9_39 (lay_th ht) rfl rfl rfl (Or.inr rfl) dX9_beOpen_2 ?_
  exact WS.vret hx he dX9_beOpen_5 Rvo.i
set_option maxHeartbeats 1000000 in
theorem c_X9_isOpened (V : Vt) (d : Nat) (σ : Sg) (t : Nat) (ht : 38 ≤ t ∧ t ≤ 51) (op : Bool) (h9 : σ.1 t 9 = bI op) : CT layC V mX9_isOpened (d) [rf V t] σ (Rb (op = true) σ) := by
  refine CT.of (own := RX9) rfl (by decide) (Nat.le_of_ble_eq_true rfl) (fun X (hx : Ok V RX9 cX9_isOpened 1 (d) X) (he : En layC V (some .boolean) (Rb (op = true) σ) X) => ?_)
  change WS layC V 1 X σ 0 [(0, rf V t)] []
  refine WS.aload_n hx dX9_isOpened_0 rfl 0 rfl ?_
  refine WS.getI hx okX9 lf9_39 (lay_th ht) rfl dX9_isOpened_1 ?_
  refine WS.as rfl rfl (congrArg (fun z => Value.int z :: _) (show σ.1 t 9 = bI op from h9)) ?_
  skip
  exact WS.zret hx he dX9_isOpened_4 (by cases op <;> decide) (by cases op; exact Rb.f (by decide); exact Rb.t rfl)
set_option maxHeartbeats 1000000 in
theorem c_X9_place (V : Vt) (d : Nat) (σ : Sg) (t : Nat) (ht : 38 ≤ t ∧ t ≤ 51) : CT layC V mX9_place (d) [rf V t] σ (Ro (σ.1 t 4) σ) := by
  refine CT.of (own := RX9) rfl (by decide) (Nat.le_of_ble_eq_true rfl) (fun X (hx : Ok V RX9 cX9_place 1 (d) X) (he : En layC V (some .int) (Ro (σ.1 t 4) σ) X) => ?_)
  change WS layC V 1 X σ 0 [(0, rf V t)] []
  refine WS.aload_n hx dX9_place_0 rfl 0 rfl ?_
  refine WS.getI hx okX9 lf9_32 (lay_th ht) rfl dX9_place_1 ?_
  exact WS.iret hx he dX9_place_4 (Ro.i rfl)
set_option maxHeartbeats 1000000 in
theorem c_X9_wouldSay (V : Vt) (d : Nat) (σ : Sg) (t : Nat) (ht : 38 ≤ t ∧ t ≤ 51) (a : Nat) (ha : a < 16) (h4 : σ.1 t 4 = nI a) : CT layC V mX9_wouldSay (d + 1) [rf V t] σ (Ro (σ.1 17 a) σ) := by
  refine CT.of (own := RX9) rfl (by decide) (Nat.le_of_ble_eq_true rfl) (fun X (hx : Ok V RX9 cX9_wouldSay 1 (d + 1) X) (he : En layC V (some .int) (Ro (σ.1 17 a) σ) X) => ?_)
  change WS layC V 1 X σ 0 [(0, rf V t)] []
  refine WS.aload_n hx dX9_wouldSay_0 rfl 0 rfl ?_
  refine WS.getR hx okX9 lf9_9 (lay_th ht) rfl dX9_wouldSay_1 ?_
  refine WS.aload_n hx dX9_wouldSay_4 rfl 0 rfl ?_
  refine WS.getI hx okX9 lf9_32 (lay_th ht) rfl dX9_wouldSay_5 ?_
  refine WS.as rfl rfl (congrArg (fun z => Value.int z :: _) (show σ.1 t 4 = nI a from h4)) ?_
  skip
  refine WS.callVi (st := []) [.int (nI a)] hx (c_X7_wordAt V d σ a ha) okX7_wordAt lm9_62 rfl rfl rfl rfl (Nat.le_of_ble_eq_true rfl) dX9_wouldSay_8 (fun v1 σ2 h3 => ?_)
  obtain ⟨rfl, rfl⟩ := h3
  show WS layC V 1 X σ 11 [(0, rf V t)] [.int (σ.1 17 a)]
  exact WS.iret hx he dX9_wouldSay_11 (Ro.i rfl)
theorem R6_of {σ : Sg} {n k b a y o : Nat} (hQ : QI σ n) (hr : Tr k b a y o) : R6 (nI b) (nI a) (σ.1 17 a) (nI k) (nI o) (nI y) := by
  obtain ⟨h1, h2, h3, h4, h5⟩ := hr
  exact ⟨rg_nI h2 (by decide), rg_nI h3 (by decide), hQ.2.2.2.2.2.2.2.2.1 a (by omega), rg_nI h1 (by decide), rg_nI h5 (by decide), rg_nI h4 (by decide)⟩
set_option maxHeartbeats 1000000 in
theorem c_X9_goesOnNow (V : Vt) (d : Nat) (σ : Sg) (t : Nat) (ht : 38 ≤ t ∧ t ≤ 51) (n : Nat) (hQ : QI σ n) (m c : Nat) (hL : LI V σ m c) (k b a y o : Nat) (ot ol : Int32) (op : Bool) (hT : Th σ t k b a y o ot ol op) (hr : Tr k b a y o) : CT layC V mX9_goesOnNow (d + 3) [rf V t] σ (Ri fun v σ' => lwF (σ.1 c) m (nI b) (nI a) (σ.1 17 a) (nI k) (nI o) (nI y) = v ∧ LE σ σ' ∧ LI V σ' m c) := by
  refine CT.of (own := RX9) rfl (by decide) (Nat.le_of_ble_eq_true rfl) (fun X (hx : Ok V RX9 cX9_goesOnNow 1 (d + 3) X) (he : En layC V (some .int) (Ri fun v σ' => lwF (σ.1 c) m (nI b) (nI a) (σ.1 17 a) (nI k) (nI o) (nI y) = v ∧ LE σ σ' ∧ LI V σ' m c) X) => ?_)
  change WS layC V 1 X σ 0 [(0, rf V t)] []
  obtain ⟨t2, t3, t4, t5, t6, t7, t8, t9⟩ := id hT
  have hr3 := hr.2.2.1
  refine WS.aload_n hx dX9_goesOnNow_0 rfl 0 rfl ?_
  refine WS.getR hx okX9 lf9_15 (lay_th ht) rfl dX9_goesOnNow_1 ?_
  refine WS.aload_n hx dX9_goesOnNow_4 rfl 0 rfl ?_
  refine WS.getI hx okX9 lf9_29 (lay_th ht) rfl dX9_goesOnNow_5 ?_
  refine WS.as rfl rfl (congrArg (fun z => Value.int z :: _) (show σ.1 t 3 = nI b from t3)) ?_
  skip
  refine WS.aload_n hx dX9_goesOnNow_8 rfl 0 rfl ?_
  refine WS.getI hx okX9 lf9_32 (lay_th ht) rfl dX9_goesOnNow_9 ?_
  refine WS.as rfl rfl (congrArg (fun z => Value.int z :: _) (show σ.1 t 4 = nI a from t4)) ?_
  skip
  refine WS.aload_n hx dX9_goesOnNow_12 rfl 0 rfl ?_
  refine WS.callVi (st := [.int (nI a), .int (nI b), rf V 2]) [] hx (c_X9_wouldSay V (d + 1) σ t ht a (by omega) t4) okX9_wouldSay lm9_66 rfl (lay_th ht) rfl rfl (Nat.le_of_ble_eq_true rfl) dX9_goesOnNow_13 (fun v1 σ2 h3 => ?_)
  obtain ⟨rfl, rfl⟩ := h3
  show WS layC V 1 X σ 16 [(0, rf V t)] [.int (σ.1 17 a), .int (nI a), .int (nI b), rf V 2]
  refine WS.aload_n hx dX9_goesOnNow_16 rfl 0 rfl ?_
  refine WS.getI hx okX9 lf9_19 (lay_th ht) rfl dX9_goesOnNow_17 ?_
  refine WS.as rfl rfl (congrArg (fun z => Value.int z :: _) (show σ.1 t 2 = nI k from t2)) ?_
  skip
  refine WS.aload_n hx dX9_goesOnNow_20 rfl 0 rfl ?_
  refine WS.getI hx okX9 lf9_53 (lay_th ht) rfl dX9_goesOnNow_21 ?_
  refine WS.as rfl rfl (congrArg (fun z => Value.int z :: _) (show σ.1 t 6 = nI o from t6)) ?_
  skip
  refine WS.aload_n hx dX9_goesOnNow_24 rfl 0 rfl ?_
  refine WS.getI hx okX9 lf9_47 (lay_th ht) rfl dX9_goesOnNow_25 ?_
  refine WS.as rfl rfl (congrArg (fun z => Value.int z :: _) (show σ.1 t 5 = nI y from t5)) ?_
  skip
  refine WS.callVi (st := []) [.int (nI b), .int (nI a), .int (σ.1 17 a), .int (nI k), .int (nI o), .int (nI y)] hx (c_X5_thoughts V d σ m c hL (nI b) (nI a) (σ.1 17 a) (nI k) (nI o) (nI y) (R6_of hQ hr)) okX5_thoughts lm9_69 rfl rfl rfl rfl (Nat.le_of_ble_eq_true rfl) dX9_goesOnNow_28 (fun v4 σ5 h6 => ?_)
  obtain ⟨rfl, hle28, hli28⟩ := h6
  show WS layC V 1 X σ5 31 [(0, rf V t)] [.int (lwF (σ.1 c) m (nI b) (nI a) (σ.1 17 a) (nI k) (nI o) (nI y))]
  exact WS.iret hx he dX9_goesOnNow_31 ⟨_, rfl, rfl, hle28, hli28⟩
/-- what leads on for a thinker; a century; centuries -/
def elF (L : Nat → Nat) (ot ol : Int32) (a : Nat) : Nat := if nI a = ot then nn ol else L a
def cen (lw : Int32 → Int32 → Int32 → Int32 → Int32 → Int32 → Int32) (L : Nat → Nat) (wd : Nat → Int32) (k b o : Nat) (op : Bool) (s : Nat × Nat) : Nat × Nat := (itr L (if op = true then 0 else nn (lw (nI b) (nI s.1) (wd s.1) (nI k) (nI o) (nI s.2))) s.1, min (s.2 + 1) 99)
theorem mn_99 {y : Nat} (h : y ≤ 99) : mn (nI y + 1) 99 = nI (min (y + 1) 99) := by
  rw [nI_1]
  have h1 : (nI (y + 1)).toInt = ((y + 1 : Nat) : Int) := nI_c (by omega)
  unfold mn
  by_cases h2 : (99 : Int32) < nI (y + 1)
  · rw [if_pos h2]
    rw [i_lt, tI_99, h1] at h2
    rw [show min (y + 1) 99 = 99 by omega]; rfl
  · rw [if_neg h2]
    rw [i_lt, tI_99, h1] at h2
    rw [show min (y + 1) 99 = y + 1 by omega]
theorem elF_lt {σ : Sg} {n : Nat} {ot ol : Int32} (hQ : QI σ n) (ho : ot = -1 ∨ rg ol 15) {a : Nat} (ha : a < 16) : elF (Lc σ) ot ol a < 16 := by
  unfold elF
  split
  · rcases ho with h | h
    · rename_i h2
      rw [h, i_eq, nI_c (by omega), tI_m1] at h2
      omega
    · have := h.le; omega
  · exact (hQ.L ha).2
theorem Th.at {σ : Sg} {t k b a y o : Nat} {ot ol : Int32} {op : Bool} (h : Th σ t k b a y o ot ol op) (a' : Nat) : Th (stI σ t 4 (nI a')) t k b a' y o ot ol op := by
  obtain ⟨t2, t3, t4, t5, t6, t7, t8, t9⟩ := h
  exact ⟨by rw [stI_k _ _ _ _ (by decide)]; exact t2, by rw [stI_k _ _ _ _ (by decide)]; exact t3, stI_1 _ _ _ _, by rw [stI_k _ _ _ _ (by decide)]; exact t5, by rw [stI_k _ _ _ _ (by decide)]; exact t6, by rw [stI_k _ _ _ _ (by decide)]; exact t7, by rw [stI_k _ _ _ _ (by decide)]; exact t8, by rw [stI_k _ _ _ _ (by decide)]; exact t9⟩
theorem Th.ce {σ : Sg} {t k b a y o : Nat} {ot ol : Int32} {op : Bool} (h : Th σ t k b a y o ot ol op) (y' : Nat) : Th (stI σ t 5 (nI y')) t k b a y' o ot ol op := by
  obtain ⟨t2, t3, t4, t5, t6, t7, t8, t9⟩ := h
  exact ⟨by rw [stI_k _ _ _ _ (by decide)]; exact t2, by rw [stI_k _ _ _ _ (by decide)]; exact t3, by rw [stI_k _ _ _ _ (by decide)]; exact t4, stI_1 _ _ _ _, by rw [stI_k _ _ _ _ (by decide)]; exact t6, by rw [stI_k _ _ _ _ (by decide)]; exact t7, by rw [stI_k _ _ _ _ (by decide)]; exact t8, by rw [stI_k _ _ _ _ (by decide)]; exact t9⟩
set_option maxHeartbeats 1000000 in
theorem lp_X9_passCentury (V : Vt) (d : Nat) (σ : Sg) (t : Nat) (ht : 38 ≤ t ∧ t ≤ 51) (n : Nat) (hQ : QI σ n) (m c k b y o : Nat) (ot ol : Int32) (op : Bool) (hy : y ≤ 99) (ho : ot = -1 ∨ rg ol 15) (u g af : Nat) (hg : g ≤ 100) (X : Xt) (hx : Ok V RX9 cX9_passCentury 4 (d + 3) X) (he : En layC V none (Rv fun σ' => ThE t σ σ' ∧ LI V σ' m c ∧ Th σ' t k b af (min (y + 1) 99) o ot ol op) X) : ∀ (j i a : Nat) (τ : Sg), i + j = g → a < 16 → ThE t σ τ → LI V τ m c → Th τ t k b a y o ot ol op → itr (elF (Lc σ) ot ol) j a = af → WS layC V 4 X τ 42 [(3, .int (nI i)), (2, .int (nI g)), (0, rf V t), (1, .int (nI u))] [] := by
  intro j
  induction j with
  | zero =>
    intro i a τ hij ha hE hL hT hf
    obtain ⟨t2, t3, t4, t5, t6, t7, t8, t9⟩ := id hT
    have hgI : (nI g).toInt = (g : Int) := nI_c (by omega)
    have hiI : (nI i).toInt = (i : Int) := nI_c (by omega)
    refine WS.iload_n hx dX9_passCentury_42 rfl 0 rfl ?_
    refine WS.iload_n hx dX9_passCentury_43 rfl 1 rfl ?_
    refine WS.icmp_ge (tgt := 86) hx dX9_passCentury_44 (by decide) (fun c44 => ?_) (fun c44 => by exfalso; (try simp only [i_le, i_lt, i_eq, tI_0, tI_1, tI_99] at c44); (try simp only [i_le, i_lt, i_eq, tI_0, tI_1, tI_99]); omega)
    refine WS.aload_n hx dX9_passCentury_86 rfl 2 rfl ?_
    refine WS.aload_n hx dX9_passCentury_87 rfl 2 rfl ?_
    refine WS.getI hx okX9 lf9_47 (lay_th ht) rfl dX9_passCentury_88 ?_
    refine WS.as rfl rfl (congrArg (fun z => Value.int z :: _) (show τ.1 t 5 = nI y from t5)) ?_
    skip
    refine WS.iconst (v := 1) hx dX9_passCentury_91 (by decide) ?_
    refine WS.iadd hx dX9_passCentury_92 ?_
    refine WS.bipush (v := 99) hx dX9_passCentury_93 (by decide) ?_
    refine WS.mmin hx lm9_82 (Nat.le_of_ble_eq_true rfl) dX9_passCentury_95 ?_
    refine WS.as rfl rfl (congrArg (fun z => Value.int z :: _) (show mn ((nI y) + 1) 99 = nI (min (y + 1) 99) from mn_99 hy)) ?_
    skip
    refine WS.putI hx okX9 lf9_47 (lay_th ht) rfl rfl rfl dX9_passCentury_98 ?_
    exact WS.vret hx he dX9_passCentury_101 ⟨rfl, hE.tr ThE.st, hL.th ht.1, by have h9 := hT.ce (min (y + 1) 99); rw [show a = af from hf] at h9; exact h9⟩
  | succ j ih =>
    intro i a τ hij ha hE hL hT hf
    obtain ⟨t2, t3, t4, t5, t6, t7, t8, t9⟩ := id hT
    have hgI : (nI g).toInt = (g : Int) := nI_c (by omega)
    have hiI : (nI i).toInt = (i : Int) := nI_c (by omega)
    have hQτ := hQ.the ht.1 hE
    obtain ⟨hL1, hL2⟩ := hQτ.L ha
    have hLc : Lc τ a = Lc σ a := by unfold Lc; rw [hE.1 16 (by decide) (by decide) (by decide) (by omega)]
    have hel := elF_lt hQ ho ha
    refine WS.iload_n hx dX9_passCentury_42 rfl 0 rfl ?_
    refine WS.iload_n hx dX9_passCentury_43 rfl 1 rfl ?_
    refine WS.icmp_ge (tgt := 86) hx dX9_passCentury_44 (by decide) (fun c44 => by exfalso; (try simp only [i_le, i_lt, i_eq, tI_0, tI_1, tI_99] at c44); (try simp only [i_le, i_lt, i_eq, tI_0, tI_1, tI_99]); omega) (fun c44 => ?_)
    refine WS.aload_n hx dX9_passCentury_47 rfl 2 rfl ?_
    refine WS.aload_n hx dX9_passCentury_48 rfl 2 rfl ?_
    refine WS.getI hx okX9 lf9_32 (lay_th ht) rfl dX9_passCentury_49 ?_
    refine WS.as rfl rfl (congrArg (fun z => Value.int z :: _) (show τ.1 t 4 = nI a from t4)) ?_
    skip
    refine WS.aload_n hx dX9_passCentury_52 rfl 2 rfl ?_
    refine WS.getI hx okX9 lf9_56 (lay_th ht) rfl dX9_passCentury_53 ?_
    refine WS.as rfl rfl (congrArg (fun z => Value.int z :: _) (show τ.1 t 7 = ot from t7)) ?_
    skip
    refine WS.icmp_ne (tgt := 66) hx dX9_passCentury_56 (by decide) (fun c56 => ?_) (fun c56 => ?_)
    · skip
      show WS layC V 4 X τ 66 [(3, .int (nI i)), (2, .int (nI g)), (0, rf V t), (1, .int (nI u))] [rf V t]
      have hE2 : elF (Lc σ) ot ol a = Lc σ a := if_neg c56
      refine WS.aload_n hx dX9_passCentury_66 rfl 2 rfl ?_
      refine WS.getR hx okX9 lf9_9 (lay_th ht) rfl dX9_passCentury_67 ?_
      refine WS.aload_n hx dX9_passCentury_70 rfl 2 rfl ?_
      refine WS.getI hx okX9 lf9_32 (lay_th ht) rfl dX9_passCentury_71 ?_
      refine WS.as rfl rfl (congrArg (fun z => Value.int z :: _) (show τ.1 t 4 = nI a from t4)) ?_
      skip
      refine WS.callVi (st := [rf V t]) [.int (nI a)] hx (c_X7_leadsFrom V (d + 2) τ a ha) okX7_leadsFrom lm9_79 rfl rfl rfl rfl (Nat.le_of_ble_eq_true rfl) dX9_passCentury_74 (fun v1 σ2 h3 => ?_)
      obtain ⟨rfl, rfl⟩ := h3
      show WS layC V 4 X τ 77 [(3, .int (nI i)), (2, .int (nI g)), (0, rf V t), (1, .int (nI u))] [.int (τ.1 16 a), rf V t]
      refine WS.as rfl rfl (congrArg (fun z => Value.int z :: _) (show τ.1 16 a = nI (Lc σ a) from by rw [hL1, hLc])) ?_
      skip
      refine WS.putI hx okX9 lf9_32 (lay_th ht) rfl rfl rfl dX9_passCentury_77 ?_
      refine WS.iinc (v := nI (i + 1)) (lo' := [(3, .int (nI (i + 1))), (2, .int (nI g)), (0, rf V t), (1, .int (nI u))]) hx dX9_passCentury_80 0 rfl (nI_1 i) (by decide) rfl ?_
      refine WS.goto (tgt := 42) hx dX9_passCentury_83 (by decide) ?_
      refine WS.los [0, 1, 2, 3] rfl ?_
      exact ih (i + 1) (elF (Lc σ) ot ol a) _ (by omega) hel (hE.tr ThE.st) (hL.th ht.1) (by have h9 := hT.at (elF (Lc σ) ot ol a); rw [hE2] at h9 ⊢; exact h9) hf
    · skip
      show WS layC V 4 X τ 59 [(3, .int (nI i)), (2, .int (nI g)), (0, rf V t), (1, .int (nI u))] [rf V t]
      have hE2 : elF (Lc σ) ot ol a = nn ol := if_pos c56
      have hol : rg ol 15 := by
        rcases ho with h | h
        · exfalso; rw [h, i_eq, nI_c (by omega), tI_m1] at c56; omega
        · exact h
      refine WS.aload_n hx dX9_passCentury_59 rfl 2 rfl ?_
      refine WS.getI hx okX9 lf9_59 (lay_th ht) rfl dX9_passCentury_60 ?_
      refine WS.as rfl rfl (congrArg (fun z => Value.int z :: _) (show τ.1 t 8 = nI (nn ol) from by rw [t8]; exact hol.i)) ?_
      skip
      refine WS.goto (tgt := 77) hx dX9_passCentury_63 (by decide) ?_
      refine WS.putI hx okX9 lf9_32 (lay_th ht) rfl rfl rfl dX9_passCentury_77 ?_
      refine WS.iinc (v := nI (i + 1)) (lo' := [(3, .int (nI (i + 1))), (2, .int (nI g)), (0, rf V t), (1, .int (nI u))]) hx dX9_passCentury_80 0 rfl (nI_1 i) (by decide) rfl ?_
      refine WS.goto (tgt := 42) hx dX9_passCentury_83 (by decide) ?_
      refine WS.los [0, 1, 2, 3] rfl ?_
      exact ih (i + 1) (elF (Lc σ) ot ol a) _ (by omega) hel (hE.tr ThE.st) (hL.th ht.1) (by have h9 := hT.at (elF (Lc σ) ot ol a); rw [hE2] at h9 ⊢; exact h9) hf
set_option maxHeartbeats 1000000 in
theorem c_X9_passCentury (V : Vt) (d : Nat) (σ : Sg) (t : Nat) (ht : 38 ≤ t ∧ t ≤ 51) (n : Nat) (hQ : QI σ n) (m c : Nat) (hL : LI V σ m c) (k b a y o : Nat) (ot ol : Int32) (op : Bool) (hT : Th σ t k b a y o ot ol op) (hr : Tr k b a y o) (ho : ot = -1 ∨ rg ol 15) (u : Nat) (hu : u ≤ 15) : CT layC V mX9_passCentury (d + 3) [rf V t, .int (nI u)] σ (Rv fun σ' => ThE t σ σ' ∧ LI V σ' m c ∧ Th σ' t k b (cen (lwF (σ.1 c) m) (elF (Lc σ) ot ol) (σ.1 17) k b u op (a, y)).1 (cen (lwF (σ.1 c) m) (elF (Lc σ) ot ol) (σ.1 17) k b u op (a, y)).2 o ot ol op) := by
  refine CT.of (own := RX9) rfl (by decide) (Nat.le_of_ble_eq_true rfl) (fun X (hx : Ok V RX9 cX9_passCentury 4 (d + 3) X) (he : En layC V none (Rv fun σ' => ThE t σ σ' ∧ LI V σ' m c ∧ Th σ' t k b (cen (lwF (σ.1 c) m) (elF (Lc σ) ot ol) (σ.1 17) k b u op (a, y)).1 (cen (lwF (σ.1 c) m) (elF (Lc σ) ot ol) (σ.1 17) k b u op (a, y)).2 o ot ol op) X) => ?_)
  change WS layC V 4 X σ 0 [(0, rf V t), (1, .int (nI u))] []
  obtain ⟨t2, t3, t4, t5, t6, t7, t8, t9⟩ := id hT
  have hr3 := hr.2.2.1
  have hr6 : Tr k b a y u := ⟨hr.1, hr.2.1, hr.2.2.1, hr.2.2.2.1, hu⟩
  have hlr := lwF_r (cs := σ.1 c) (m := m) (a := nI a) (w := σ.1 17 a) (k := nI k) (o := nI u) (y := nI y) (R6_of hQ hr6).1
  refine WS.aload_n hx dX9_passCentury_0 rfl 0 rfl ?_
  refine WS.getI hx okX9 lf9_39 (lay_th ht) rfl dX9_passCentury_1 ?_
  refine WS.as rfl rfl (congrArg (fun z => Value.int z :: _) (show σ.1 t 9 = bI op from t9)) ?_
  skip
  refine WS.if_eq (tgt := 11) hx dX9_passCentury_4 (by decide) (fun c4 => ?_) (fun c4 => ?_)
  · skip
    show WS layC V 4 X σ 11 [(0, rf V t), (1, .int (nI u))] []
    have hop : op = false := by cases op; rfl; exact absurd c4 (by decide)
    subst hop
    refine WS.aload_n hx dX9_passCentury_11 rfl 0 rfl ?_
    refine WS.getR hx okX9 lf9_15 (lay_th ht) rfl dX9_passCentury_12 ?_
    refine WS.aload_n hx dX9_passCentury_15 rfl 0 rfl ?_
    refine WS.getI hx okX9 lf9_29 (lay_th ht) rfl dX9_passCentury_16 ?_
    refine WS.as rfl rfl (congrArg (fun z => Value.int z :: _) (show σ.1 t 3 = nI b from t3)) ?_
    skip
    refine WS.aload_n hx dX9_passCentury_19 rfl 0 rfl ?_
    refine WS.getI hx okX9 lf9_32 (lay_th ht) rfl dX9_passCentury_20 ?_
    refine WS.as rfl rfl (congrArg (fun z => Value.int z :: _) (show σ.1 t 4 = nI a from t4)) ?_
    skip
    refine WS.aload_n hx dX9_passCentury_23 rfl 0 rfl ?_
    refine WS.callVi (st := [.int (nI a), .int (nI b), rf V 2]) [] hx (c_X9_wouldSay V (d + 1) σ t ht a (by omega) t4) okX9_wouldSay lm9_66 rfl (lay_th ht) rfl rfl (Nat.le_of_ble_eq_true rfl) dX9_passCentury_24 (fun v1 σ2 h3 => ?_)
    obtain ⟨rfl, rfl⟩ := h3
    show WS layC V 4 X σ 27 [(0, rf V t), (1, .int (nI u))] [.int (σ.1 17 a), .int (nI a), .int (nI b), rf V 2]
    refine WS.aload_n hx dX9_passCentury_27 rfl 0 rfl ?_
    refine WS.getI hx okX9 lf9_19 (lay_th ht) rfl dX9_passCentury_28 ?_
    refine WS.as rfl rfl (congrArg (fun z => Value.int z :: _) (show σ.1 t 2 = nI k from t2)) ?_
    skip
    refine WS.iload_n hx dX9_passCentury_31 rfl 1 rfl ?_
    refine WS.aload_n hx dX9_passCentury_32 rfl 0 rfl ?_
    refine WS.getI hx okX9 lf9_47 (lay_th ht) rfl dX9_passCentury_33 ?_
    refine WS.as rfl rfl (congrArg (fun z => Value.int z :: _) (show σ.1 t 5 = nI y from t5)) ?_
    skip
    refine WS.callVi (st := []) [.int (nI b), .int (nI a), .int (σ.1 17 a), .int (nI k), .int (nI u), .int (nI y)] hx (c_X5_thoughts V d σ m c hL (nI b) (nI a) (σ.1 17 a) (nI k) (nI u) (nI y) (R6_of hQ hr6)) okX5_thoughts lm9_69 rfl rfl rfl rfl (Nat.le_of_ble_eq_true rfl) dX9_passCentury_36 (fun v4 σ5 h6 => ?_)
    obtain ⟨rfl, hle36, hli36⟩ := h6
    show WS layC V 4 X σ5 39 [(0, rf V t), (1, .int (nI u))] [.int (lwF (σ.1 c) m (nI b) (nI a) (σ.1 17 a) (nI k) (nI u) (nI y))]
    refine WS.as rfl rfl (congrArg (fun z => Value.int z :: _) (show lwF (σ.1 c) m (nI b) (nI a) (σ.1 17 a) (nI k) (nI u) (nI y) = nI (nn (lwF (σ.1 c) m (nI b) (nI a) (σ.1 17 a) (nI k) (nI u) (nI y))) from hlr.i)) ?_
    skip
    refine WS.istore_n (lo' := [(2, .int (nI (nn (lwF (σ.1 c) m (nI b) (nI a) (σ.1 17 a) (nI k) (nI u) (nI y))))), (0, rf V t), (1, .int (nI u))]) hx dX9_passCentury_39 rfl (by decide) rfl ?_
    refine WS.iconst (v := 0) hx dX9_passCentury_40 (by decide) ?_
    refine WS.istore_n (lo' := [(3, .int 0), (2, .int (nI (nn (lwF (σ.1 c) m (nI b) (nI a) (σ.1 17 a) (nI k) (nI u) (nI y))))), (0, rf V t), (1, .int (nI u))]) hx dX9_passCentury_41 rfl (by decide) rfl ?_
    refine WS.los [0, 1, 2, 3] rfl ?_
    have hle := hlr.le
    exact lp_X9_passCentury V d σ t ht n hQ m c k b y o ot ol false hr.2.2.2.1 ho u _ _ (by omega) X hx he _ 0 a σ5 (Nat.zero_add _) (by omega) (ThE.le hle36) hli36 (hT.le ht.1 hle36) rfl
  · skip
    show WS layC V 4 X σ 7 [(0, rf V t), (1, .int (nI u))] []
    have hop : op = true := by cases op; exact absurd rfl c4; rfl
    subst hop
    refine WS.iconst (v := 0) hx dX9_passCentury_7 (by decide) ?_
    refine WS.goto (tgt := 39) hx dX9_passCentury_8 (by decide) ?_
    refine WS.istore_n (lo' := [(2, .int 0), (0, rf V t), (1, .int (nI u))]) hx dX9_passCentury_39 rfl (by decide) rfl ?_
    refine WS.iconst (v := 0) hx dX9_passCentury_40 (by decide) ?_
    refine WS.istore_n (lo' := [(3, .int 0), (2, .int 0), (0, rf V t), (1, .int (nI u))]) hx dX9_passCentury_41 rfl (by decide) rfl ?_
    refine WS.los [0, 1, 2, 3] rfl ?_
    exact lp_X9_passCentury V d σ t ht n hQ m c k b y o ot ol true hr.2.2.2.1 ho u 0 _ (by decide) X hx he 0 0 a σ rfl (by omega) ThE.rf hL hT rfl
def cenN (lw : Int32 → Int32 → Int32 → Int32 → Int32 → Int32 → Int32) (L : Nat → Nat) (wd : Nat → Int32) (k b o : Nat) (op : Bool) : Nat → Nat × Nat → Nat × Nat
  | 0, s => s
  | u + 1, s => cenN lw L wd k b o op u (cen lw L wd k b o op s)
theorem itr_lt {L : Nat → Nat} (hL : ∀ a, a < 16 → L a < 16) : ∀ (j a : Nat), a < 16 → itr L j a < 16
  | 0, a, h => h
  | j + 1, a, h => itr_lt hL j (L a) (hL a h)
theorem cen_r {lw : Int32 → Int32 → Int32 → Int32 → Int32 → Int32 → Int32} {L : Nat → Nat} {wd : Nat → Int32} {k b o : Nat} {op : Bool} {s : Nat × Nat} (hL : ∀ a, a < 16 → L a < 16) (ha : s.1 < 16) : (cen lw L wd k b o op s).1 < 16 ∧ (cen lw L wd k b o op s).2 ≤ 99 := ⟨itr_lt hL _ _ ha, by show min _ _ ≤ 99; omega⟩
set_option maxHeartbeats 1000000 in
theorem lp_X9_passCenturies (V : Vt) (d : Nat) (σ : Sg) (t : Nat) (ht : 38 ≤ t ∧ t ≤ 51) (n : Nat) (hQ : QI σ n) (m c k b o : Nat) (ot ol : Int32) (op : Bool) (hk : k ≤ 9 ∧ b ≤ 9 ∧ o ≤ 15) (hc : c = 19 ∨ c = 20) (ho : ot = -1 ∨ rg ol 15) (u : Nat) (hu : u ≤ 100) (s9 : Nat × Nat) (X : Xt) (hx : Ok V RX9 cX9_passCenturies 3 (d + 4) X) (he : En layC V none (Rv fun σ' => ThE t σ σ' ∧ LI V σ' m c ∧ Th σ' t k b s9.1 s9.2 o ot ol op) X) : ∀ (j i a y : Nat) (τ : Sg), i + j = u → a < 16 → y ≤ 99 → ThE t σ τ → LI V τ m c → Th τ t k b a y o ot ol op → cenN (lwF (σ.1 c) m) (elF (Lc σ) ot ol) (σ.1 17) k b o op j (a, y) = s9 → WS layC V 3 X τ 2 [(2, .int (nI i)), (0, rf V t), (1, .int (nI u))] [] := by
  intro j
  induction j with
  | zero =>
    intro i a y τ hij ha hy hE hL hT hf
    have huI : (nI u).toInt = (u : Int) := nI_c (by omega)
    have hiI : (nI i).toInt = (i : Int) := nI_c (by omega)
    refine WS.iload_n hx dX9_passCenturies_2 rfl 0 rfl ?_
    refine WS.iload_n hx dX9_passCenturies_3 rfl 2 rfl ?_
    refine WS.icmp_ge (tgt := 21) hx dX9_passCenturies_4 (by decide) (fun c4 => ?_) (fun c4 => by exfalso; (try simp only [i_le, i_lt, i_eq, tI_0, tI_1] at c4); (try simp only [i_le, i_lt, i_eq, tI_0, tI_1]); omega)
    exact WS.vret hx he dX9_passCenturies_21 ⟨rfl, hE, hL, by rw [← hf]; exact hT⟩
  | succ j ih =>
    intro i a y τ hij ha hy hE hL hT hf
    obtain ⟨t2, t3, t4, t5, t6, t7, t8, t9⟩ := id hT
    have huI : (nI u).toInt = (u : Int) := nI_c (by omega)
    have hiI : (nI i).toInt = (i : Int) := nI_c (by omega)
    have hQτ := hQ.the ht.1 hE
    have e16 : Lc τ = Lc σ := by funext z; unfold Lc; rw [hE.1 16 (by decide) (by decide) (by decide) (by omega)]
    have e17 : τ.1 17 = σ.1 17 := hE.1 17 (by decide) (by decide) (by decide) (by omega)
    have ec : τ.1 c = σ.1 c := by rcases hc with rfl | rfl <;> exact hE.1 _ (by decide) (by decide) (by decide) (by omega)
    have hcr := cen_r (lw := lwF (σ.1 c) m) (wd := σ.1 17) (k := k) (b := b) (o := o) (op := op) (s := (a, y)) (fun a ha => elF_lt hQ ho ha) ha
    refine WS.iload_n hx dX9_passCenturies_2 rfl 0 rfl ?_
    refine WS.iload_n hx dX9_passCenturies_3 rfl 2 rfl ?_
    refine WS.icmp_ge (tgt := 21) hx dX9_passCenturies_4 (by decide) (fun c4 => by exfalso; (try simp only [i_le, i_lt, i_eq, tI_0, tI_1] at c4); (try simp only [i_le, i_lt, i_eq, tI_0, tI_1]); omega) (fun c4 => ?_)
    refine WS.aload_n hx dX9_passCenturies_7 rfl 1 rfl ?_
    refine WS.aload_n hx dX9_passCenturies_8 rfl 1 rfl ?_
    refine WS.getI hx okX9 lf9_53 (lay_th ht) rfl dX9_passCenturies_9 ?_
    refine WS.as rfl rfl (congrArg (fun z => Value.int z :: _) (show τ.1 t 6 = nI o from t6)) ?_
    skip
    refine WS.callVv (st := []) [.int (nI o)] hx (c_X9_passCentury V d τ t ht n hQτ m c hL k b a y o ot ol op hT ⟨hk.1, hk.2.1, by omega, hy, hk.2.2⟩ ho o hk.2.2) okX9_passCentury lm9_75 rfl (lay_th ht) rfl rfl (Nat.le_of_ble_eq_true rfl) dX9_passCenturies_12 (fun σ2 h3 => ?_)
    obtain ⟨the12, li12, th12⟩ := h3
    rw [e16, e17, ec] at th12
    show WS layC V 3 X σ2 15 [(2, .int (nI i)), (0, rf V t), (1, .int (nI u))] []
    refine WS.iinc (v := nI (i + 1)) (lo' := [(2, .int (nI (i + 1))), (0, rf V t), (1, .int (nI u))]) hx dX9_passCenturies_15 0 rfl (nI_1 i) (by decide) rfl ?_
    refine WS.goto (tgt := 2) hx dX9_passCenturies_18 (by decide) ?_
    refine WS.los [0, 1, 2] rfl ?_
    exact ih (i + 1) _ _ σ2 (by omega) hcr.1 hcr.2 (hE.tr the12) li12 th12 hf
set_option maxHeartbeats 1000000 in
theorem c_X9_passCenturies (V : Vt) (d : Nat) (σ : Sg) (t : Nat) (ht : 38 ≤ t ∧ t ≤ 51) (n : Nat) (hQ : QI σ n) (m c : Nat) (hL : LI V σ m c) (k b a y o : Nat) (ot ol : Int32) (op : Bool) (hT : Th σ t k b a y o ot ol op) (hr : Tr k b a y o) (ho : ot = -1 ∨ rg ol 15) (u : Nat) (hu : u ≤ 100) : CT layC V mX9_passCenturies (d + 4) [rf V t, .int (nI u)] σ (Rv fun σ' => ThE t σ σ' ∧ LI V σ' m c ∧ Th σ' t k b (cenN (lwF (σ.1 c) m) (elF (Lc σ) ot ol) (σ.1 17) k b o op u (a, y)).1 (cenN (lwF (σ.1 c) m) (elF (Lc σ) ot ol) (σ.1 17) k b o op u (a, y)).2 o ot ol op) := by
  refine CT.of (own := RX9) rfl (by decide) (Nat.le_of_ble_eq_true rfl) (fun X (hx : Ok V RX9 cX9_passCenturies 3 (d + 4) X) (he : En layC V none (Rv fun σ' => ThE t σ σ' ∧ LI V σ' m c ∧ Th σ' t k b (cenN (lwF (σ.1 c) m) (elF (Lc σ) ot ol) (σ.1 17) k b o op u (a, y)).1 (cenN (lwF (σ.1 c) m) (elF (Lc σ) ot ol) (σ.1 17) k b o op u (a, y)).2 o ot ol op) X) => ?_)
  change WS layC V 3 X σ 0 [(0, rf V t), (1, .int (nI u))] []
  refine WS.iconst (v := 0) hx dX9_passCenturies_0 (by decide) ?_
  refine WS.istore_n (lo' := [(2, .int 0), (0, rf V t), (1, .int (nI u))]) hx dX9_passCenturies_1 rfl (by decide) rfl ?_
  exact lp_X9_passCenturies V d σ t ht n hQ m c k b o ot ol op ⟨hr.1, hr.2.1, hr.2.2.2.2⟩ hL.c.2.2 ho u hu _ X hx he u 0 a y σ (Nat.zero_add u) (by have := hr.2.2.1; omega) hr.2.2.2.1 ThE.rf hL hT rfl
