/-! the class: arrays are filled; snapshots and nodes begin -/
def fl (c : qI) (a : Nat) (v n : Int) : qI := fun b j => if b = a ∧ 0 ≤ j ∧ j < n then v else c b j
def sbC (c : qI) (a a' : Nat) (v : Int) : qI := fl (up (up (up (up c a 0 0) a 1 0) a 2 v) a 3 0) a' 0 8
def rsC (c : qI) (w : Nat) (n : Int) : qI := up (up (up (up (cp (up (up (up c (ndA w n 0) 1 1) (ndA w n 0) 7 0) (ndA w n 0) 8 (c (ndA w n 2) 0)) (ndA w n 3) 0 (ndA w n 4) 0 8) (ndA w n 0) 11 (-2)) (ndA w n 0) 12 0) (ndA w n 0) 16 0) (ndA w n 0) 17 0
def nbC (c : qI) (w : Nat) (n v : Int) : qI := rsC (sbC (up (up (up c (ndA w n 0) 2 0) (ndA w n 0) 3 (-2)) (ndA w n 0) 5 0) (ndA w n 2) (ndA w n 3) v) w n
section Fl
variable {c : qI} {a w : Nat} {v n k : Int}
theorem fl_0 : fl c a v 0 = c := by funext b j; unfold fl; rw [if_neg (by omega)]
theorem fl_s (hn : 0 ≤ n) : up (fl c a v n) a n v = fl c a v (n + 1) := by
  funext b j
  unfold up fl
  by_cases h1 : b = a ∧ j = n
  · rw [if_pos h1, if_pos (by omega)]
  · rw [if_neg h1]
    by_cases h2 : b = a ∧ 0 ≤ j ∧ j < n
    · rw [if_pos h2, if_pos (by omega)]
    · rw [if_neg h2, if_neg (by omega)]
theorem rs_o {b : Nat} (h : ∀ p, p < 8 → b ≠ ndA w n p) : rsC c w n b k = c b k := by
  have h0 := h 0 (by omega)
  have h4 := h 4 (by omega)
  simp [rsC, up, cp, h0, h4]
theorem nb_o {b : Nat} (h : ∀ p, p < 8 → b ≠ ndA w n p) : nbC c w n v b k = c b k := by
  have h0 := h 0 (by omega)
  have h2 := h 2 (by omega)
  have h3 := h 3 (by omega)
  unfold nbC
  rw [rs_o h]
  simp [sbC, fl, up, h0, h2, h3]
theorem nb_0 {b : Nat} (h : c (ndA w n 0) 0 = b) : nbC c w n v (ndA w n 0) 0 = b := by
  simp [nbC, rsC, sbC, fl, up, cp, ndA_eq, h]
theorem nb_10 : nbC c w n v (ndA w n 0) 10 = c (ndA w n 0) 10 := by
  simp [nbC, rsC, sbC, fl, up, cp, ndA_eq]
/-- what a row must say of a node that began -/
def Nb (f : qN) (v t : Int) : Prop := ((f 0 = 1 ∧ f 1 = 0) ∧ (f 2 = -1 ∧ f 3 = 0)) ∧ ((f 4 = 0 ∧ f 5 = 0) ∧ (f 6 = v ∧ f 7 = 0)) ∧ ((f 8 = 0 ∧ f 9 = 0) ∧ (f 10 = t ∧ f 11 = -1)) ∧ (f 12 = 0 ∧ f 13 = 0) ∧ f 14 = 0 ∧ ∀ k, 15 ≤ k → k < 31 → f k = 0
theorem nb_N {f : qN} (h0 : c (ndA w n 0) 0 = n) (hf : Nb f v (c (ndA w n 0) 10)) {p : Nat} (hp : p < 8) : ndC f n p k (nbC c w n v (ndA w n p) k) = nbC c w n v (ndA w n p) k := by
  obtain ⟨⟨⟨e0, e1⟩, e2, e3⟩, ⟨⟨e4, e5⟩, e6, e7⟩, ⟨⟨e8, e9⟩, e10, e11⟩, ⟨e12, e13⟩, e14, e15⟩ := hf
  have hp8 : p = 0 ∨ p = 1 ∨ p = 2 ∨ p = 3 ∨ p = 4 ∨ p = 5 ∨ p = 6 ∨ p = 7 := by omega
  have e2' : onS (f 2) = -2 := by rw [e2]; rfl
  have e11' : onS (f 11) = -2 := by rw [e11]; rfl
  rcases hp8 with rfl | rfl | rfl | rfl | rfl | rfl | rfl | rfl
  · simp only [ndC, e2', e11', e0, e1, e3, e8, e9, e10, e12, e13, e14]
    simp [nbC, rsC, sbC, fl, up, cp, ndA_eq]
    grind (splits := 60)
  · simp only [ndC, e8]
    simp; intro a b; omega
  · simp only [ndC, e4, e5, e6, e7]
    simp [nbC, rsC, sbC, fl, up, cp, ndA_eq]
    grind (splits := 60)
  · simp only [ndC]
    by_cases q : 0 ≤ k ∧ k < 8
    · rw [e15 (23 + k) (by omega) (by omega)]
      simp [nbC, rsC, sbC, fl, up, cp, ndA_eq, q]
    · simp [q]
  · simp only [ndC]
    by_cases q : 0 ≤ k ∧ k < 8
    · rw [e15 (15 + k) (by omega) (by omega)]
      simp [nbC, rsC, sbC, fl, up, cp, ndA_eq, q]
    · simp [q]
  all_goals (simp only [ndC, e3]; simp)
end Fl
section CS
variable {l : Launch} {V : qV} {d : Nat} {s : qS} {w : Nat} {S : qN} {c g r : qI} {R n i v : Int} {Q : Option Value → qH → Prop}
theorem C_flw (hd : 3 ≤ d) {a m : Nat} (ha : a < 2198) (hm : m ≤ 2000) (hk : ∀ m', hK (mkH s m') a = (100, m)) : T l V mi_J_fill (rm d) 0 0 [.ref a, .int (Int32.ofInt v)] (mkH s (jn c r)) (fun v' h' => v' = none ∧ h' = mkH s (jn (fl c a v m) r)) := C_fill (c := c) hd ha hk (by omega)
theorem C_Snap_begin (hd : 5 ≤ d) {a a' : Nat} (ha : a < 2198) (ha' : a' < 2198) (h1 : ∀ m, hK (mkH s m) a = (6, 0)) (h2 : ∀ m, hR (mkH s m) a 4 = a') (h3 : ∀ m, hK (mkH s m) a' = (100, 8)) : T l V mi_Snap_begin (rm d) 0 0 [.ref a, .int (Int32.ofInt v)] (mkH s (jn c r)) (fun v' h' => v' = none ∧ h' = mkH s (jn (sbC c a a' v) r)) := by
  refine T_ev qm_Snap_begin [.ref a, .int (Int32.ofInt v)] rfl rfl (Nat.le_of_ble_eq_true rfl) ok_Snap_begin (smL_ok (d := d - 1) (by omega)) (fun _ => false) 200 (by omega) (fun K kK => ?_)
  have sa : ∀ (c : qI) k v, setM (mkH s (jn c r)) a k (Int32.ofInt v) = mkH s (jn (up c a k v) r) := fun c k v => set_c ha
  have z0 : (0 : Int32) = Int32.ofInt 0 := rfl
  simp (disch := omega) only [ev_s, evN_ap, List.getElem?_cons_zero, List.getElem?_cons_succ, List.set_cons_zero, List.set_cons_succ, Bool.false_eq_true, ↓reduceIte, qrest_n, qrest_1, qrest_2, qrest_3, qrest_4, qrest_5, qrest_6, qtr_i, qtr_r, true_and, and_true, List.length_cons, List.length_nil, Int.cast_ofNat_Int, Int32.toInt_zero, false_implies, true_implies, not_false_eq_true, not_true_eq_false, Option.toList_some, Option.toList_none, List.cons_append, List.nil_append, Nat.reduceBEq, Nat.reduceEqDiff, Bool.or_self, or_self, Nat.reduceAdd, Nat.reduceLT, Nat.zero_add, Int.reduceAdd, Int.reduceLE, Int.reduceLT, Int.reduceEq, and_self, Int.reduceNeg, qrok_i, qrok_b0, qrok_b1, qrok_bI, Option.some.injEq, Value.int.injEq, J_bI0, J_bI1, Classical.not_not, Int.zero_add, Int.add_zero, Int.sub_zero, false_and, and_false, and_true, true_and, e_0, v_0, e_1, v_1, e_2, v_2, e_20, v_20, e_21, v_21, e_41, e_45, qspl_z, qspl_s, evC_s, evD_none, evD_v, evD_s, (smL_no (k := 313) rfl), r_Snap_begin_0, r_Snap_begin_1, r_Snap_begin_2, r_Snap_begin_5, r_Snap_begin_6, r_Snap_begin_7, r_Snap_begin_10, r_Snap_begin_11, r_Snap_begin_12, r_Snap_begin_15, r_Snap_begin_16, r_Snap_begin_17, r_Snap_begin_20, r_Snap_begin_21, r_Snap_begin_24, r_Snap_begin_25, r_Snap_begin_28, h1, h2, h3, sa, I_val]
  refine kK _ _ _ _ (GCD ok_Snap_begin r_Snap_begin_25 ⟨by decide, by decide⟩ qm_J_fill (C_flw (d := d - 1) (v := 0) (by omega) ha' (by omega) h3) rfl rfl (fun q => absurd q (by decide)) rfl (Nat.le_of_ble_eq_true rfl) (by omega) ?_)
  refine G_ev ok_Snap_begin (smL_ok (d := d - 1) (by omega)) (fun _ => false) 200 (by omega) (fun K kK => ?_)
  simp (disch := omega) only [ev_s, evN_ap, List.getElem?_cons_zero, List.getElem?_cons_succ, List.set_cons_zero, List.set_cons_succ, Bool.false_eq_true, ↓reduceIte, qrest_n, qrest_1, qrest_2, qrest_3, qrest_4, qrest_5, qrest_6, qtr_i, qtr_r, true_and, and_true, List.length_cons, List.length_nil, Int.cast_ofNat_Int, Int32.toInt_zero, false_implies, true_implies, not_false_eq_true, not_true_eq_false, Option.toList_some, Option.toList_none, List.cons_append, List.nil_append, Nat.reduceBEq, Nat.reduceEqDiff, Bool.or_self, or_self, Nat.reduceAdd, Nat.reduceLT, Nat.zero_add, Int.reduceAdd, Int.reduceLE, Int.reduceLT, Int.reduceEq, and_self, Int.reduceNeg, qrok_i, qrok_b0, qrok_b1, qrok_bI, Option.some.injEq, Value.int.injEq, J_bI0, J_bI1, Classical.not_not, Int.zero_add, Int.add_zero, Int.sub_zero, false_and, and_false, and_true, true_and, e_0, v_0, e_1, v_1, e_2, v_2, e_20, v_20, e_21, v_21, e_41, e_45, qspl_z, qspl_s, evC_s, evD_none, evD_v, evD_s, (smL_no (k := 313) rfl), r_Snap_begin_0, r_Snap_begin_1, r_Snap_begin_2, r_Snap_begin_5, r_Snap_begin_6, r_Snap_begin_7, r_Snap_begin_10, r_Snap_begin_11, r_Snap_begin_12, r_Snap_begin_15, r_Snap_begin_16, r_Snap_begin_17, r_Snap_begin_20, r_Snap_begin_21, r_Snap_begin_24, r_Snap_begin_25, r_Snap_begin_28, h1, h2, h3, sa, I_val]
  rfl
theorem C_Node_rise (hd : 5 ≤ d) (hw : 8 ≤ w ∧ w ≤ 1462) (hS : ShW s w) (hn : 0 ≤ n ∧ n ≤ 6) : T l V mi_Node_rise (rm d) 0 0 [.ref (ndA w n 0)] (mkH s (jn c r)) (fun v' h' => v' = none ∧ h' = mkH s (jn (rsC c w n) r)) := by
  refine T_ev qm_Node_rise [.ref (ndA w n 0)] rfl rfl (Nat.le_of_ble_eq_true rfl) ok_Node_rise (smL_ok (d := d - 1) (by omega)) (fun _ => false) 200 (by omega) (fun K kK => ?_)
  have ub : ∀ (c : qI) k v j, up c (ndA w n 0) k v (ndA w n 2) j = c (ndA w n 2) j := fun c k v j => up_ne (Or.inl (by rw [ne_eq, ndA_eq]; omega))
  simp (disch := omega) only [ev_s, evN_ap, List.getElem?_cons_zero, List.getElem?_cons_succ, List.set_cons_zero, List.set_cons_succ, Bool.false_eq_true, ↓reduceIte, qrest_n, qrest_1, qrest_2, qrest_3, qrest_4, qrest_5, qrest_6, qtr_i, qtr_r, true_and, and_true, List.length_cons, List.length_nil, Int.cast_ofNat_Int, Int32.toInt_zero, false_implies, true_implies, not_false_eq_true, not_true_eq_false, Option.toList_some, Option.toList_none, List.cons_append, List.nil_append, Nat.reduceBEq, Nat.reduceEqDiff, Bool.or_self, or_self, Nat.reduceAdd, Nat.reduceLT, Nat.zero_add, Int.reduceAdd, Int.reduceLE, Int.reduceLT, Int.reduceEq, and_self, Int.reduceNeg, qrok_i, qrok_b0, qrok_b1, qrok_bI, Option.some.injEq, Value.int.injEq, J_bI0, J_bI1, Classical.not_not, Int.zero_add, Int.add_zero, Int.sub_zero, false_and, and_false, and_true, true_and, e_0, v_0, e_2, v_2, e_19, v_19, e_20, v_20, e_21, v_21, e_22, v_22, e_33, v_33, e_41, r_Node_rise_0, r_Node_rise_1, r_Node_rise_2, r_Node_rise_5, r_Node_rise_6, r_Node_rise_7, r_Node_rise_10, r_Node_rise_11, r_Node_rise_12, r_Node_rise_15, r_Node_rise_18, r_Node_rise_21, r_Node_rise_22, r_Node_rise_25, r_Node_rise_28, r_Node_rise_29, r_Node_rise_30, r_Node_rise_33, r_Node_rise_34, r_Node_rise_36, r_Node_rise_39, r_Node_rise_40, r_Node_rise_42, r_Node_rise_45, r_Node_rise_46, r_Node_rise_47, r_Node_rise_50, r_Node_rise_51, r_Node_rise_52, r_Node_rise_55, r_Node_rise_56, r_Node_rise_57, r_Node_rise_60, sv_k hS, sv_0 hS, sv_1 hS, sv_k1 hS, sv_n hS, sv_2 hS, sv_k2 hS, sv_b, sv_4, sv_5 hS, sv_k7 hS, sv_r hS, sv_kr hS, sv_7 hS, sv_k8 hS, sv_10 hS, sv_k9 hS, sv_11 hS, sv_k10 hS, sn_k hS, sn_4 hS, sn_k1 hS, sn_6 hS, sn_k2 hS, sn_24 hS, sn_k3 hS, sn_9 hS, sn_k4 hS, sn_13 hS, sn_k5 hS, sn_14 hS, sn_k6 hS, sn_15 hS, sn_k7 hS, sl_k hS, sl_2 hS, sl_k4 hS, sl_3 hS, sl_k5 hS, sl_4 hS, sl_k6 hS, sl_5 hS, sl_k7 hS, hM_cN, set_cN, cpy_cN, I_val, I_add, I_sub, I_mul, inB, beq_iff_eq, or_false, false_or, Bool.or_eq_true, Bool.or_false, Bool.false_or, bI_z, mnJ, mxJ, ub]
  repeat' (first | with_reducible apply And.intro | intro _)
  all_goals try (clear kK; omega)
  all_goals first | omega | decide | rfl | trivial
theorem C_Node_begin (hd : 6 ≤ d) (hw : 8 ≤ w ∧ w ≤ 1462) (hS : ShW s w) (hn : 0 ≤ n ∧ n ≤ 6) : T l V mi_Node_begin (rm d) 0 0 [.ref (ndA w n 0), .int (Int32.ofInt v)] (mkH s (jn c r)) (fun v' h' => v' = none ∧ h' = mkH s (jn (nbC c w n v) r)) := by
  refine T_ev qm_Node_begin [.ref (ndA w n 0), .int (Int32.ofInt v)] rfl rfl (Nat.le_of_ble_eq_true rfl) ok_Node_begin (smL_ok (d := d - 1) (by omega)) (fun _ => false) 200 (by omega) (fun K kK => ?_)
  simp (disch := omega) only [ev_s, evN_ap, List.getElem?_cons_zero, List.getElem?_cons_succ, List.set_cons_zero, List.set_cons_succ, Bool.false_eq_true, ↓reduceIte, qrest_n, qrest_1, qrest_2, qrest_3, qrest_4, qrest_5, qrest_6, qtr_i, qtr_r, true_and, and_true, List.length_cons, List.length_nil, Int.cast_ofNat_Int, Int32.toInt_zero, false_implies, true_implies, not_false_eq_true, not_true_eq_false, Option.toList_some, Option.toList_none, List.cons_append, List.nil_append, Nat.reduceBEq, Nat.reduceEqDiff, Bool.or_self, or_self, Nat.reduceAdd, Nat.reduceLT, Nat.zero_add, Int.reduceAdd, Int.reduceLE, Int.reduceLT, Int.reduceEq, and_self, Int.reduceNeg, qrok_i, qrok_b0, qrok_b1, qrok_bI, Option.some.injEq, Value.int.injEq, J_bI0, J_bI1, Classical.not_not, Int.zero_add, Int.add_zero, Int.sub_zero, false_and, and_false, and_true, true_and, e_0, v_0, e_1, v_1, e_2, v_2, e_20, v_20, e_21, v_21, e_41, e_44, qspl_z, qspl_s, evC_s, evD_none, evD_v, evD_s, (smL_no (k := 31) rfl), (smL_no (k := 76) rfl), r_Node_begin_0, r_Node_begin_1, r_Node_begin_2, r_Node_begin_5, r_Node_begin_6, r_Node_begin_8, r_Node_begin_11, r_Node_begin_12, r_Node_begin_13, r_Node_begin_16, r_Node_begin_17, r_Node_begin_20, r_Node_begin_21, r_Node_begin_24, r_Node_begin_25, r_Node_begin_28, sv_k hS, sv_0 hS, sv_1 hS, sv_k1 hS, sv_n hS, sv_2 hS, sv_k2 hS, sv_b, sv_4, sv_5 hS, sv_k7 hS, sv_r hS, sv_kr hS, sv_7 hS, sv_k8 hS, sv_10 hS, sv_k9 hS, sv_11 hS, sv_k10 hS, sn_k hS, sn_4 hS, sn_k1 hS, sn_6 hS, sn_k2 hS, sn_24 hS, sn_k3 hS, sn_9 hS, sn_k4 hS, sn_13 hS, sn_k5 hS, sn_14 hS, sn_k6 hS, sn_15 hS, sn_k7 hS, sl_k hS, sl_2 hS, sl_k4 hS, sl_3 hS, sl_k5 hS, sl_4 hS, sl_k6 hS, sl_5 hS, sl_k7 hS, hM_cN, set_cN, cpy_cN, I_val, I_add, I_sub, I_mul, inB, beq_iff_eq, or_false, false_or, Bool.or_eq_true, Bool.or_false, Bool.false_or, bI_z, mnJ, mxJ]
  refine kK _ _ _ _ (GCD ok_Node_begin r_Node_begin_21 ⟨by decide, by decide⟩ qm_Snap_begin (C_Snap_begin (d := d - 1) (v := v) (by omega) (ndA_lt hw hn (by omega)) (ndA_lt hw hn (by omega)) (fun _ => sn_k2 hS hn) (fun _ => sn_24 hS hn) (fun _ => sn_k3 hS hn)) rfl rfl (fun _ => by first | exact rcN hS (by omega) | exact rcW hS | exact rcG hS (by assumption) | exact rcL hS | exact rcN2 hS (by omega) | exact rcG2 hS (by assumption)) rfl (Nat.le_of_ble_eq_true rfl) (by omega) ?_)
  refine G_ev ok_Node_begin (smL_ok (d := d - 1) (by omega)) (fun _ => false) 200 (by omega) (fun K kK => ?_)
  simp (disch := omega) only [ev_s, evN_ap, List.getElem?_cons_zero, List.getElem?_cons_succ, List.set_cons_zero, List.set_cons_succ, Bool.false_eq_true, ↓reduceIte, qrest_n, qrest_1, qrest_2, qrest_3, qrest_4, qrest_5, qrest_6, qtr_i, qtr_r, true_and, and_true, List.length_cons, List.length_nil, Int.cast_ofNat_Int, Int32.toInt_zero, false_implies, true_implies, not_false_eq_true, not_true_eq_false, Option.toList_some, Option.toList_none, List.cons_append, List.nil_append, Nat.reduceBEq, Nat.reduceEqDiff, Bool.or_self, or_self, Nat.reduceAdd, Nat.reduceLT, Nat.zero_add, Int.reduceAdd, Int.reduceLE, Int.reduceLT, Int.reduceEq, and_self, Int.reduceNeg, qrok_i, qrok_b0, qrok_b1, qrok_bI, Option.some.injEq, Value.int.injEq, J_bI0, J_bI1, Classical.not_not, Int.zero_add, Int.add_zero, Int.sub_zero, false_and, and_false, and_true, true_and, e_0, v_0, e_1, v_1, e_2, v_2, e_20, v_20, e_21, v_21, e_41, e_44, qspl_z, qspl_s, evC_s, evD_none, evD_v, evD_s, (smL_no (k := 31) rfl), (smL_no (k := 76) rfl), r_Node_begin_0, r_Node_begin_1, r_Node_begin_2, r_Node_begin_5, r_Node_begin_6, r_Node_begin_8, r_Node_begin_11, r_Node_begin_12, r_Node_begin_13, r_Node_begin_16, r_Node_begin_17, r_Node_begin_20, r_Node_begin_21, r_Node_begin_24, r_Node_begin_25, r_Node_begin_28, sv_k hS, sv_0 hS, sv_1 hS, sv_k1 hS, sv_n hS, sv_2 hS, sv_k2 hS, sv_b, sv_4, sv_5 hS, sv_k7 hS, sv_r hS, sv_kr hS, sv_7 hS, sv_k8 hS, sv_10 hS, sv_k9 hS, sv_11 hS, sv_k10 hS, sn_k hS, sn_4 hS, sn_k1 hS, sn_6 hS, sn_k2 hS, sn_24 hS, sn_k3 hS, sn_9 hS, sn_k4 hS, sn_13 hS, sn_k5 hS, sn_14 hS, sn_k6 hS, sn_15 hS, sn_k7 hS, sl_k hS, sl_2 hS, sl_k4 hS, sl_3 hS, sl_k5 hS, sl_4 hS, sl_k6 hS, sl_5 hS, sl_k7 hS, hM_cN, set_cN, cpy_cN, I_val, I_add, I_sub, I_mul, inB, beq_iff_eq, or_false, false_or, Bool.or_eq_true, Bool.or_false, Bool.false_or, bI_z, mnJ, mxJ]
  refine kK _ _ _ _ (GCD ok_Node_begin r_Node_begin_25 ⟨by decide, by decide⟩ qm_Node_rise (C_Node_rise (d := d - 1) (by omega) hw hS hn) rfl rfl (fun _ => by first | exact rcN hS (by omega) | exact rcW hS | exact rcG hS (by assumption) | exact rcL hS | exact rcN2 hS (by omega) | exact rcG2 hS (by assumption)) rfl (Nat.le_of_ble_eq_true rfl) (by omega) ?_)
  refine G_ev ok_Node_begin (smL_ok (d := d - 1) (by omega)) (fun _ => false) 200 (by omega) (fun K kK => ?_)
  simp (disch := omega) only [ev_s, evN_ap, List.getElem?_cons_zero, List.getElem?_cons_succ, List.set_cons_zero, List.set_cons_succ, Bool.false_eq_true, ↓reduceIte, qrest_n, qrest_1, qrest_2, qrest_3, qrest_4, qrest_5, qrest_6, qtr_i, qtr_r, true_and, and_true, List.length_cons, List.length_nil, Int.cast_ofNat_Int, Int32.toInt_zero, false_implies, true_implies, not_false_eq_true, not_true_eq_false, Option.toList_some, Option.toList_none, List.cons_append, List.nil_append, Nat.reduceBEq, Nat.reduceEqDiff, Bool.or_self, or_self, Nat.reduceAdd, Nat.reduceLT, Nat.zero_add, Int.reduceAdd, Int.reduceLE, Int.reduceLT, Int.reduceEq, and_self, Int.reduceNeg, qrok_i, qrok_b0, qrok_b1, qrok_bI, Option.some.injEq, Value.int.injEq, J_bI0, J_bI1, Classical.not_not, Int.zero_add, Int.add_zero, Int.sub_zero, false_and, and_false, and_true, true_and, e_0, v_0, e_1, v_1, e_2, v_2, e_20, v_20, e_21, v_21, e_41, e_44, qspl_z, qspl_s, evC_s, evD_none, evD_v, evD_s, (smL_no (k := 31) rfl), (smL_no (k := 76) rfl), r_Node_begin_0, r_Node_begin_1, r_Node_begin_2, r_Node_begin_5, r_Node_begin_6, r_Node_begin_8, r_Node_begin_11, r_Node_begin_12, r_Node_begin_13, r_Node_begin_16, r_Node_begin_17, r_Node_begin_20, r_Node_begin_21, r_Node_begin_24, r_Node_begin_25, r_Node_begin_28, sv_k hS, sv_0 hS, sv_1 hS, sv_k1 hS, sv_n hS, sv_2 hS, sv_k2 hS, sv_b, sv_4, sv_5 hS, sv_k7 hS, sv_r hS, sv_kr hS, sv_7 hS, sv_k8 hS, sv_10 hS, sv_k9 hS, sv_11 hS, sv_k10 hS, sn_k hS, sn_4 hS, sn_k1 hS, sn_6 hS, sn_k2 hS, sn_24 hS, sn_k3 hS, sn_9 hS, sn_k4 hS, sn_13 hS, sn_k5 hS, sn_14 hS, sn_k6 hS, sn_15 hS, sn_k7 hS, sl_k hS, sl_2 hS, sl_k4 hS, sl_3 hS, sl_k5 hS, sl_4 hS, sl_k6 hS, sl_5 hS, sl_k7 hS, hM_cN, set_cN, cpy_cN, I_val, I_add, I_sub, I_mul, inB, beq_iff_eq, or_false, false_or, Bool.or_eq_true, Bool.or_false, Bool.false_or, bI_z, mnJ, mxJ]
  rfl
end CS
