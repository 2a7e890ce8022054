/-! a node's log is shortened; a node compacts -/
theorem mnJ {x y : Int} : (if x < y then Int32.ofInt x else Int32.ofInt y) = Int32.ofInt (min x y) := by
  split
  · rw [Int.min_eq_left (by omega)]
  · rw [Int.min_eq_right (by omega)]
theorem mxJ {x y : Int} : (if x < y then Int32.ofInt y else Int32.ofInt x) = Int32.ofInt (max x y) := by
  split
  · rw [Int.max_eq_right (by omega)]
  · rw [Int.max_eq_left (by omega)]
theorem ndA_eq {w p q : Nat} {n : Int} : (ndA w n p = ndA w n q) = (p = q) := by
  apply propext; unfold ndA; omega
section Dr
variable {s : qS} {w p q : Nat} {c g r : qI} {S S' : qN} {n k v x y z : Int}
theorem hM_cN (hw : 8 ≤ w ∧ w ≤ 1462) (hn : 0 ≤ n ∧ n ≤ 6) (hp : p < 8) : hM (mkH s (jn c r)) (ndA w n p) k = Int32.ofInt (c (ndA w n p) k) := hM_c (ndA_lt hw hn hp)
theorem set_cN (hw : 8 ≤ w ∧ w ≤ 1462) (hn : 0 ≤ n ∧ n ≤ 6) (hp : p < 8) : setM (mkH s (jn c r)) (ndA w n p) k (Int32.ofInt v) = mkH s (jn (up c (ndA w n p) k v) r) := set_c (ndA_lt hw hn hp)
theorem cpy_c {a b : Nat} (ha : a < 2198) (hb : b < 2198) : cpyM (mkH s (jn c r)) a x b y z = mkH s (jn (cp c a x b y z) r) := by
  rw [cp_mk]
  congr 1
  funext a' k'
  unfold cp jn
  by_cases h : a' = b ∧ y ≤ k' ∧ k' < y + z
  · rw [if_pos h, if_neg (show ¬ 2198 ≤ a' by omega), if_neg (by omega)]
    exact (if_pos h).symm
  · rw [if_neg h]
    split
    · rfl
    · exact (if_neg h).symm
theorem cpy_cN (hw : 8 ≤ w ∧ w ≤ 1462) (hn : 0 ≤ n ∧ n ≤ 6) (hp : p < 8) (hq : q < 8) : cpyM (mkH s (jn c r)) (ndA w n p) x (ndA w n q) y z = mkH s (jn (cp c (ndA w n p) x (ndA w n q) y z) r) := cpy_c (ndA_lt hw hn hp) (ndA_lt hw hn hq)
def drL (c : qI) (a1 : Nat) (b j : Int) : qI := fun a k => if a = a1 ∧ 0 ≤ k ∧ k < j then c a1 (k + b) else c a k
theorem drL_0 {a1 : Nat} {b : Int} : drL c a1 b 0 = c := by
  funext a k
  unfold drL
  rw [if_neg (by omega)]
theorem drL_s {a1 : Nat} {b j : Int} (hb : 0 ≤ b) (hj : 0 ≤ j) : up (drL c a1 b j) a1 j (drL c a1 b j a1 (j + b)) = drL c a1 b (j + 1) := by
  funext a k
  unfold up drL
  by_cases h1 : a = a1 ∧ k = j
  · rw [if_pos h1, if_neg (by omega), if_pos (by omega), h1.2]
  · rw [if_neg h1]
    by_cases h2 : a = a1 ∧ 0 ≤ k ∧ k < j
    · rw [if_pos h2, if_pos (by omega)]
    · rw [if_neg h2, if_neg (by omega)]
theorem mk_node {c' : qI} (hn : 0 ≤ n ∧ n ≤ 6) (ho : offN S S' n) (h1 : ∀ a k, (∀ p, p < 8 → a ≠ ndA w n p) → c' a k = mkC w S g a k) (h2 : ∀ p k, p < 8 → c' (ndA w n p) k = ndC (nd S' n) n p k (mkC w S g (ndA w n p) k)) : c' = mkC w S' (mkC w S g) := by
  have e2 : ∀ a k, (∀ p, p < 8 → a ≠ ndA w n p) → mkC w S' (mkC w S g) a k = mkC w S g a k := by
      intro a k h0
      refine Eq.trans ?_ (congrFun (congrFun (mkC_id (w := w) (S := S) (g := g)) a) k)
      clear h1 h2
      generalize mkC w S g = c0
      revert h0
      refine mk_cases (w := w) (P := fun a => (∀ p, p < 8 → a ≠ ndA w n p) → mkC w S' c0 a k = mkC w S c0 a k) ?_ ?_ ?_ ?_ ?_ ?_ ?_ a
      · intro m q a1 a2 a3 h0
        have hmn : m ≠ n := fun e => h0 q a3 (by rw [e])
        rw [mkC_N ⟨a1, a2⟩ a3, mkC_N (S := S) ⟨a1, a2⟩ a3, nd_c (fun e e0 e1 => nd_off hn ho hmn ⟨e0, e1⟩)]
      · intro j a1 a2 _
        rw [mkC_R ⟨a1, a2⟩, mkC_R (S := S) ⟨a1, a2⟩]
        unfold rdC
        rw [ho 11135 (by omega), ho (11028 + 6 * j + 4) (by omega), ho (11028 + 6 * j) (by omega), ho (11028 + 6 * j + 1) (by omega), ho (11028 + 6 * j + 2) (by omega), ho (11028 + 6 * j + 3) (by omega), ho (11028 + 6 * j + 5) (by omega)]
      · intro _
        rw [mkC_w, mkC_w (S := S)]
        unfold wlC
        rw [ho 11133 (by omega), ho 11135 (by omega), ho 11134 (by omega), ho 11131 (by omega), ho 11132 (by omega), ho 11136 (by omega), ho 11137 (by omega), hcnt_c (fun j a b => ho j (by omega))]
      · intro _
        rw [mkC_8, mkC_8 (S := S)]
        unfold heC pk
        by_cases h : 1 ≤ k ∧ k ≤ 999
        · rw [ho (6028 + 4 * k) (by omega), ho (6028 + 4 * k + 1) (by omega), ho (6028 + 4 * k + 2) (by omega), ho (6028 + 4 * k + 3) (by omega)]
        · rw [if_neg h, if_neg h]
      · intro _
        rw [mkC_9, mkC_9 (S := S)]
        by_cases h : 0 ≤ k ∧ k ≤ 999
        · rw [ho (10028 + k) (by omega)]
        · rw [if_neg h, if_neg h]
      · intro _
        rw [mkC_10, mkC_10 (S := S)]
        by_cases h : 0 ≤ k ∧ k ≤ 6
        · rw [ho (11124 + k) (by omega)]
        · rw [if_neg h, if_neg h]
      · intro a h _
        rw [mkC_o h, mkC_o (S := S) h]
  funext a k
  by_cases h : ∃ p, p < 8 ∧ a = ndA w n p
  · obtain ⟨p, hp, rfl⟩ := h
    rw [h2 p k hp, mkC_N (S := S') hn hp]
  · have h0 : ∀ p, p < 8 → a ≠ ndA w n p := fun p hp q => h ⟨p, hp, q⟩
    rw [h1 a k h0, e2 a k h0]
end Dr
section CS
variable {l : Launch} {V : qV} {d : Nat} {s : qS} {w : Nat} {S : qN} {c g r : qI} {R n : Int} {Q : Option Value → qH → Prop}
theorem LC_dropUpTo (hd : 3 ≤ d) (hw : 8 ≤ w ∧ w ≤ 1462) (hS : ShW s w) (hn : 0 ≤ n ∧ n ≤ 6) {b m : Int} {x1 : Value} (hm : c (ndA w n 0) 5 = m) (h1 : 0 ≤ b ∧ 0 ≤ m ∧ m + b ≤ 48) (hQ : Q none (mkH s (jn (drL c (ndA w n 1) b m) r))) : ∀ (i : Nat) (j : Int), j + i = m → 0 ≤ j → G l V mi_Node_dropUpTo (rm d) 0 0 Q 0 0 40 [.ref (ndA w n 0), x1, .int (Int32.ofInt b), .int (Int32.ofInt j)] [] (mkH s (jn (drL c (ndA w n 1) b j) r)) := by
  have e5 : ∀ j, drL c (ndA w n 1) b j (ndA w n 0) 5 = m := fun j => by unfold drL; rw [if_neg (by rw [ndA_eq]; omega), hm]
  intro i
  induction i with
  | zero =>
    intro j hj h0
    refine G_ev ok_Node_dropUpTo (smL_ok (d := d - 1) (by omega)) (fun pc => pc == 40) 200 (by omega) (fun K kK => ?_)
    simp (disch := omega) only [ev_s, evN_ap, List.getElem?_cons_zero, List.getElem?_cons_succ, List.set_cons_zero, List.set_cons_succ, Bool.false_eq_true, ↓reduceIte, qrest_n, qrest_1, qrest_2, qrest_3, qrest_4, qrest_5, qrest_6, qtr_i, qtr_r, true_and, and_true, List.length_cons, List.length_nil, Int.cast_ofNat_Int, Int32.toInt_zero, false_implies, true_implies, not_false_eq_true, not_true_eq_false, Option.toList_some, Option.toList_none, List.cons_append, List.nil_append, Nat.reduceBEq, Nat.reduceEqDiff, Bool.or_self, or_self, Nat.reduceAdd, Nat.reduceLT, Nat.zero_add, Int.reduceAdd, Int.reduceLE, Int.reduceLT, Int.reduceEq, and_self, Int.reduceNeg, qrok_i, qrok_b0, qrok_b1, qrok_bI, Option.some.injEq, Value.int.injEq, J_bI0, J_bI1, Classical.not_not, Int.zero_add, Int.add_zero, Int.sub_zero, false_and, and_false, and_true, true_and, e_0, v_0, e_1, v_1, e_2, v_2, e_3, v_3, e_5, v_5, e_6, v_6, e_10, v_10, e_13, v_13, e_14, v_14, e_15, v_15, e_19, v_19, e_20, v_20, e_21, v_21, e_24, v_24, e_25, v_25, e_41, c_3, c_5, b_0, b_1, r_Node_dropUpTo_0, r_Node_dropUpTo_1, r_Node_dropUpTo_2, r_Node_dropUpTo_5, r_Node_dropUpTo_8, r_Node_dropUpTo_9, r_Node_dropUpTo_10, r_Node_dropUpTo_11, r_Node_dropUpTo_14, r_Node_dropUpTo_15, r_Node_dropUpTo_16, r_Node_dropUpTo_17, r_Node_dropUpTo_20, r_Node_dropUpTo_23, r_Node_dropUpTo_24, r_Node_dropUpTo_27, r_Node_dropUpTo_28, r_Node_dropUpTo_29, r_Node_dropUpTo_30, r_Node_dropUpTo_33, r_Node_dropUpTo_34, r_Node_dropUpTo_35, r_Node_dropUpTo_38, r_Node_dropUpTo_39, r_Node_dropUpTo_40, r_Node_dropUpTo_41, r_Node_dropUpTo_42, r_Node_dropUpTo_45, r_Node_dropUpTo_48, r_Node_dropUpTo_49, r_Node_dropUpTo_52, r_Node_dropUpTo_53, r_Node_dropUpTo_54, r_Node_dropUpTo_57, r_Node_dropUpTo_58, r_Node_dropUpTo_59, r_Node_dropUpTo_60, r_Node_dropUpTo_61, r_Node_dropUpTo_62, r_Node_dropUpTo_65, r_Node_dropUpTo_68, sv_k hS, sv_0 hS, sv_1 hS, sv_k1 hS, sv_n hS, sv_2 hS, sv_k2 hS, sv_b, sv_4, sv_5 hS, sv_k7 hS, sv_r hS, sv_kr hS, sv_7 hS, sv_k8 hS, sv_10 hS, sv_k9 hS, sv_11 hS, sv_k10 hS, sn_k hS, sn_4 hS, sn_k1 hS, sn_6 hS, sn_k2 hS, sn_24 hS, sn_k3 hS, sn_9 hS, sn_k4 hS, sn_13 hS, sn_k5 hS, sn_14 hS, sn_k6 hS, sn_15 hS, sn_k7 hS, sl_k hS, sl_2 hS, sl_k4 hS, sl_3 hS, sl_k5 hS, sl_4 hS, sl_k6 hS, sl_5 hS, sl_k7 hS, hM_cN, set_cN, cpy_cN, I_val, I_add, I_sub, I_mul, inB, beq_iff_eq, or_false, false_or, Bool.or_eq_true, Bool.or_false, Bool.false_or, bI_z, mnJ, mxJ, e5]
    refine ⟨fun _ => ?_, fun q => absurd q (by omega)⟩
    rw [show j = m by omega]
    exact hQ
  | succ i ih =>
    intro j hj h0
    refine G_ev ok_Node_dropUpTo (smL_ok (d := d - 1) (by omega)) (fun pc => pc == 40) 200 (by omega) (fun K kK => ?_)
    simp (disch := omega) only [ev_s, evN_ap, List.getElem?_cons_zero, List.getElem?_cons_succ, List.set_cons_zero, List.set_cons_succ, Bool.false_eq_true, ↓reduceIte, qrest_n, qrest_1, qrest_2, qrest_3, qrest_4, qrest_5, qrest_6, qtr_i, qtr_r, true_and, and_true, List.length_cons, List.length_nil, Int.cast_ofNat_Int, Int32.toInt_zero, false_implies, true_implies, not_false_eq_true, not_true_eq_false, Option.toList_some, Option.toList_none, List.cons_append, List.nil_append, Nat.reduceBEq, Nat.reduceEqDiff, Bool.or_self, or_self, Nat.reduceAdd, Nat.reduceLT, Nat.zero_add, Int.reduceAdd, Int.reduceLE, Int.reduceLT, Int.reduceEq, and_self, Int.reduceNeg, qrok_i, qrok_b0, qrok_b1, qrok_bI, Option.some.injEq, Value.int.injEq, J_bI0, J_bI1, Classical.not_not, Int.zero_add, Int.add_zero, Int.sub_zero, false_and, and_false, and_true, true_and, e_0, v_0, e_1, v_1, e_2, v_2, e_3, v_3, e_5, v_5, e_6, v_6, e_10, v_10, e_13, v_13, e_14, v_14, e_15, v_15, e_19, v_19, e_20, v_20, e_21, v_21, e_24, v_24, e_25, v_25, e_41, c_3, c_5, b_0, b_1, r_Node_dropUpTo_0, r_Node_dropUpTo_1, r_Node_dropUpTo_2, r_Node_dropUpTo_5, r_Node_dropUpTo_8, r_Node_dropUpTo_9, r_Node_dropUpTo_10, r_Node_dropUpTo_11, r_Node_dropUpTo_14, r_Node_dropUpTo_15, r_Node_dropUpTo_16, r_Node_dropUpTo_17, r_Node_dropUpTo_20, r_Node_dropUpTo_23, r_Node_dropUpTo_24, r_Node_dropUpTo_27, r_Node_dropUpTo_28, r_Node_dropUpTo_29, r_Node_dropUpTo_30, r_Node_dropUpTo_33, r_Node_dropUpTo_34, r_Node_dropUpTo_35, r_Node_dropUpTo_38, r_Node_dropUpTo_39, r_Node_dropUpTo_40, r_Node_dropUpTo_41, r_Node_dropUpTo_42, r_Node_dropUpTo_45, r_Node_dropUpTo_48, r_Node_dropUpTo_49, r_Node_dropUpTo_52, r_Node_dropUpTo_53, r_Node_dropUpTo_54, r_Node_dropUpTo_57, r_Node_dropUpTo_58, r_Node_dropUpTo_59, r_Node_dropUpTo_60, r_Node_dropUpTo_61, r_Node_dropUpTo_62, r_Node_dropUpTo_65, r_Node_dropUpTo_68, sv_k hS, sv_0 hS, sv_1 hS, sv_k1 hS, sv_n hS, sv_2 hS, sv_k2 hS, sv_b, sv_4, sv_5 hS, sv_k7 hS, sv_r hS, sv_kr hS, sv_7 hS, sv_k8 hS, sv_10 hS, sv_k9 hS, sv_11 hS, sv_k10 hS, sn_k hS, sn_4 hS, sn_k1 hS, sn_6 hS, sn_k2 hS, sn_24 hS, sn_k3 hS, sn_9 hS, sn_k4 hS, sn_13 hS, sn_k5 hS, sn_14 hS, sn_k6 hS, sn_15 hS, sn_k7 hS, sl_k hS, sl_2 hS, sl_k4 hS, sl_3 hS, sl_k5 hS, sl_4 hS, sl_k6 hS, sl_5 hS, sl_k7 hS, hM_cN, set_cN, cpy_cN, I_val, I_add, I_sub, I_mul, inB, beq_iff_eq, or_false, false_or, Bool.or_eq_true, Bool.or_false, Bool.false_or, bI_z, mnJ, mxJ, e5]
    refine ⟨fun q => absurd q (by omega), fun _ => ⟨by omega, by omega, kK _ _ _ _ ?_⟩⟩
    rw [drL_s (by omega) h0]
    exact ih (j + 1) (by omega) (by omega)
/-- the log without its first ones -/
def drC (c : qI) (w : Nat) (n b m : Int) : qI := drL (up c (ndA w n 0) 5 (m - b)) (ndA w n 1) b (m - b)
theorem C_dropUpTo (hd : 3 ≤ d) (hw : 8 ≤ w ∧ w ≤ 1462) (hS : ShW s w) (hn : 0 ≤ n ∧ n ≤ 6) {b m i : Int} (hb : c (ndA w n 2) 0 = b) (hm : c (ndA w n 0) 5 = m) (h1 : 0 ≤ b ∧ b ≤ 999) (h2 : 0 ≤ m ∧ m ≤ 48) (hi : b ≤ i ∧ i ≤ 2000) : T l V mi_Node_dropUpTo (rm d) 0 0 [.ref (ndA w n 0), .int (Int32.ofInt i)] (mkH s (jn c r)) (fun v h' => v = none ∧ h' = mkH s (jn (drC c w n (min (i - b) m) m) r)) := by
  refine T_ev qm_Node_dropUpTo [.ref (ndA w n 0), .int (Int32.ofInt i), .retAddr 0, .retAddr 0] rfl rfl (Nat.le_of_ble_eq_true rfl) ok_Node_dropUpTo (smL_ok (d := d - 1) (by omega)) (fun pc => pc == 40) 200 (by omega) (fun K kK => ?_)
  simp (disch := omega) only [ev_s, evN_ap, List.getElem?_cons_zero, List.getElem?_cons_succ, List.set_cons_zero, List.set_cons_succ, Bool.false_eq_true, ↓reduceIte, qrest_n, qrest_1, qrest_2, qrest_3, qrest_4, qrest_5, qrest_6, qtr_i, qtr_r, true_and, and_true, List.length_cons, List.length_nil, Int.cast_ofNat_Int, Int32.toInt_zero, false_implies, true_implies, not_false_eq_true, not_true_eq_false, Option.toList_some, Option.toList_none, List.cons_append, List.nil_append, Nat.reduceBEq, Nat.reduceEqDiff, Bool.or_self, or_self, Nat.reduceAdd, Nat.reduceLT, Nat.zero_add, Int.reduceAdd, Int.reduceLE, Int.reduceLT, Int.reduceEq, and_self, Int.reduceNeg, qrok_i, qrok_b0, qrok_b1, qrok_bI, Option.some.injEq, Value.int.injEq, J_bI0, J_bI1, Classical.not_not, Int.zero_add, Int.add_zero, Int.sub_zero, false_and, and_false, and_true, true_and, e_0, v_0, e_1, v_1, e_2, v_2, e_3, v_3, e_5, v_5, e_6, v_6, e_10, v_10, e_13, v_13, e_14, v_14, e_15, v_15, e_19, v_19, e_20, v_20, e_21, v_21, e_24, v_24, e_25, v_25, e_41, c_3, c_5, b_0, b_1, r_Node_dropUpTo_0, r_Node_dropUpTo_1, r_Node_dropUpTo_2, r_Node_dropUpTo_5, r_Node_dropUpTo_8, r_Node_dropUpTo_9, r_Node_dropUpTo_10, r_Node_dropUpTo_11, r_Node_dropUpTo_14, r_Node_dropUpTo_15, r_Node_dropUpTo_16, r_Node_dropUpTo_17, r_Node_dropUpTo_20, r_Node_dropUpTo_23, r_Node_dropUpTo_24, r_Node_dropUpTo_27, r_Node_dropUpTo_28, r_Node_dropUpTo_29, r_Node_dropUpTo_30, r_Node_dropUpTo_33, r_Node_dropUpTo_34, r_Node_dropUpTo_35, r_Node_dropUpTo_38, r_Node_dropUpTo_39, r_Node_dropUpTo_40, r_Node_dropUpTo_41, r_Node_dropUpTo_42, r_Node_dropUpTo_45, r_Node_dropUpTo_48, r_Node_dropUpTo_49, r_Node_dropUpTo_52, r_Node_dropUpTo_53, r_Node_dropUpTo_54, r_Node_dropUpTo_57, r_Node_dropUpTo_58, r_Node_dropUpTo_59, r_Node_dropUpTo_60, r_Node_dropUpTo_61, r_Node_dropUpTo_62, r_Node_dropUpTo_65, r_Node_dropUpTo_68, sv_k hS, sv_0 hS, sv_1 hS, sv_k1 hS, sv_n hS, sv_2 hS, sv_k2 hS, sv_b, sv_4, sv_5 hS, sv_k7 hS, sv_r hS, sv_kr hS, sv_7 hS, sv_k8 hS, sv_10 hS, sv_k9 hS, sv_11 hS, sv_k10 hS, sn_k hS, sn_4 hS, sn_k1 hS, sn_6 hS, sn_k2 hS, sn_24 hS, sn_k3 hS, sn_9 hS, sn_k4 hS, sn_13 hS, sn_k5 hS, sn_14 hS, sn_k6 hS, sn_15 hS, sn_k7 hS, sl_k hS, sl_2 hS, sl_k4 hS, sl_3 hS, sl_k5 hS, sl_4 hS, sl_k6 hS, sl_5 hS, sl_k7 hS, hM_cN, set_cN, cpy_cN, I_val, I_add, I_sub, I_mul, inB, beq_iff_eq, or_false, false_or, Bool.or_eq_true, Bool.or_false, Bool.false_or, bI_z, mnJ, mxJ, hb, hm]
  have key : ∀ x1 y, y = min (i - b) m → G l V mi_Node_dropUpTo (rm d) 0 0 (fun v h' => v = none ∧ h' = mkH s (jn (drC c w n (min (i - b) m) m) r)) 0 0 40 [.ref (ndA w n 0), x1, .int (Int32.ofInt y), .int (Int32.ofInt 0)] [] (mkH s (jn (up c (ndA w n 0) 5 (m - y)) r)) := by
    intro x1 y hy
    have := LC_dropUpTo (l := l) (V := V) (d := d) (s := s) (r := r) (w := w) (c := up c (ndA w n 0) 5 (m - y)) (n := n) (b := y) (m := m - y) (x1 := x1) (Q := (fun v h' => v = none ∧ h' = mkH s (jn (drC c w n (min (i - b) m) m) r))) hd hw hS hn up_same (by omega) ⟨rfl, by rw [hy]; rfl⟩ (m - y).toNat 0 (by omega) (by omega)
    rw [drL_0] at this
    exact this
  refine ⟨fun q => ⟨fun q2 => ?_, fun q2 => ?_⟩, fun q => absurd q (by omega)⟩
  all_goals exact kK _ _ _ _ (key _ _ (by omega))
end CS
