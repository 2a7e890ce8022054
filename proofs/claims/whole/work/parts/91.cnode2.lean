/-! a node of the class: rows filled, hints, candidates, who has what -/
def fiC (c : qI) (A : Nat) (N v : Int) : qI := fun a k => if a = A ∧ 0 ≤ k ∧ k < N then v else c a k
theorem fiC_0 {c : qI} {A : Nat} {v : Int} : fiC c A 0 v = c := by
  funext a k
  unfold fiC
  rw [if_neg (by omega)]
theorem fiC_s {c : qI} {A : Nat} {j v : Int} (hj : 0 ≤ j) : up (fiC c A j v) A j v = fiC c A (j + 1) v := by
  funext a k
  unfold up fiC
  by_cases h1 : a = A ∧ k = j
  · rw [if_pos h1, if_pos (by omega)]
  · rw [if_neg h1]
    by_cases h2 : a = A ∧ 0 ≤ k ∧ k < j
    · rw [if_pos h2, if_pos (by omega)]
    · rw [if_neg h2, if_neg (by omega)]
noncomputable def hiS (S : qN) (n p t : Int) : Int := if nd S n 4 + nd S n 8 < p then nd S n 4 + nd S n 8 + 1 else if nd S n 4 ≤ p ∧ tAS S n p ≠ t then ftS S n p else 0
section CS
variable {l : Launch} {V : qV} {d : Nat} {s : qS} {w : Nat} {S : qN} {c g r : qI} {R n : Int} {Q : Option Value → qH → Prop}
theorem LC_fill (hd : 3 ≤ d) {A : Nat} {N : Nat} {v : Int} (hA : A < 2198) (hk : ∀ m, hK (mkH s m) A = (100, N)) (hN : N ≤ 100000) (hQ : Q none (mkH s (jn (fiC c A N v) r))) : ∀ (i : Nat) (j : Int), j + i = N → 0 ≤ j → G l V mi_J_fill (rm d) 0 0 Q 0 0 5 [.ref A, .int (Int32.ofInt v), .int (Int32.ofInt j), .int (Int32.ofInt N)] [] (mkH s (jn (fiC c A j v) r)) := by
  intro i
  induction i with
  | zero =>
    intro j hj h0
    refine G_ev ok_J_fill (smL_ok (d := d - 1) (by omega)) (fun pc => pc == 5) 200 (by omega) (fun K kK => ?_)
    simp (disch := omega) only [ev_s, evN_ap, List.getElem?_cons_zero, List.getElem?_cons_succ, List.set_cons_zero, List.set_cons_succ, Bool.false_eq_true, ↓reduceIte, qrest_n, qrest_1, qrest_2, qrest_3, qrest_4, qrest_5, qrest_6, qtr_i, qtr_r, true_and, and_true, List.length_cons, List.length_nil, Int.cast_ofNat_Int, Int32.toInt_zero, false_implies, true_implies, not_false_eq_true, not_true_eq_false, Option.toList_some, Option.toList_none, List.cons_append, List.nil_append, Nat.reduceBEq, Nat.reduceEqDiff, Bool.or_self, or_self, Nat.reduceAdd, Nat.reduceLT, Nat.zero_add, Int.reduceAdd, Int.reduceLE, Int.reduceLT, Int.reduceEq, and_self, Int.reduceNeg, qrok_i, qrok_b0, qrok_b1, qrok_bI, Option.some.injEq, Value.int.injEq, J_bI0, J_bI1, Classical.not_not, Int.zero_add, Int.add_zero, Int.sub_zero, false_and, and_false, and_true, true_and, e_0, v_0, e_1, v_1, e_2, v_2, e_3, v_3, e_5, v_5, e_13, v_13, e_15, v_15, e_25, v_25, e_30, v_30, e_41, c_3, r_J_fill_0, r_J_fill_1, r_J_fill_2, r_J_fill_3, r_J_fill_4, r_J_fill_5, r_J_fill_6, r_J_fill_7, r_J_fill_10, r_J_fill_11, r_J_fill_12, r_J_fill_13, r_J_fill_14, r_J_fill_17, r_J_fill_20, hk, set_c, I_val, I_add, inB]
    refine ⟨fun _ => ?_, fun q => absurd q (by omega)⟩
    rw [show j = N by omega]
    exact hQ
  | succ i ih =>
    intro j hj h0
    refine G_ev ok_J_fill (smL_ok (d := d - 1) (by omega)) (fun pc => pc == 5) 200 (by omega) (fun K kK => ?_)
    simp (disch := omega) only [ev_s, evN_ap, List.getElem?_cons_zero, List.getElem?_cons_succ, List.set_cons_zero, List.set_cons_succ, Bool.false_eq_true, ↓reduceIte, qrest_n, qrest_1, qrest_2, qrest_3, qrest_4, qrest_5, qrest_6, qtr_i, qtr_r, true_and, and_true, List.length_cons, List.length_nil, Int.cast_ofNat_Int, Int32.toInt_zero, false_implies, true_implies, not_false_eq_true, not_true_eq_false, Option.toList_some, Option.toList_none, List.cons_append, List.nil_append, Nat.reduceBEq, Nat.reduceEqDiff, Bool.or_self, or_self, Nat.reduceAdd, Nat.reduceLT, Nat.zero_add, Int.reduceAdd, Int.reduceLE, Int.reduceLT, Int.reduceEq, and_self, Int.reduceNeg, qrok_i, qrok_b0, qrok_b1, qrok_bI, Option.some.injEq, Value.int.injEq, J_bI0, J_bI1, Classical.not_not, Int.zero_add, Int.add_zero, Int.sub_zero, false_and, and_false, and_true, true_and, e_0, v_0, e_1, v_1, e_2, v_2, e_3, v_3, e_5, v_5, e_13, v_13, e_15, v_15, e_25, v_25, e_30, v_30, e_41, c_3, r_J_fill_0, r_J_fill_1, r_J_fill_2, r_J_fill_3, r_J_fill_4, r_J_fill_5, r_J_fill_6, r_J_fill_7, r_J_fill_10, r_J_fill_11, r_J_fill_12, r_J_fill_13, r_J_fill_14, r_J_fill_17, r_J_fill_20, hk, set_c, I_val, I_add, inB]
    refine ⟨fun q => absurd q (by omega), fun _ => ⟨by omega, kK _ _ _ _ ?_⟩⟩
    rw [fiC_s h0]
    exact ih (j + 1) (by omega) (by omega)
theorem C_fill (hd : 3 ≤ d) {A : Nat} {N : Nat} {v : Int} (hA : A < 2198) (hk : ∀ m, hK (mkH s m) A = (100, N)) (hN : N ≤ 100000) : T l V mi_J_fill (rm d) 0 0 [.ref A, .int (Int32.ofInt v)] (mkH s (jn c r)) (fun v' h' => v' = none ∧ h' = mkH s (jn (fiC c A N v) r)) := by
  refine T_ev qm_J_fill [.ref A, .int (Int32.ofInt v), .retAddr 0, .retAddr 0] rfl rfl (Nat.le_of_ble_eq_true rfl) ok_J_fill (smL_ok (d := d - 1) (by omega)) (fun pc => pc == 5) 200 (by omega) (fun K kK => ?_)
  simp (disch := omega) only [ev_s, evN_ap, List.getElem?_cons_zero, List.getElem?_cons_succ, List.set_cons_zero, List.set_cons_succ, Bool.false_eq_true, ↓reduceIte, qrest_n, qrest_1, qrest_2, qrest_3, qrest_4, qrest_5, qrest_6, qtr_i, qtr_r, true_and, and_true, List.length_cons, List.length_nil, Int.cast_ofNat_Int, Int32.toInt_zero, false_implies, true_implies, not_false_eq_true, not_true_eq_false, Option.toList_some, Option.toList_none, List.cons_append, List.nil_append, Nat.reduceBEq, Nat.reduceEqDiff, Bool.or_self, or_self, Nat.reduceAdd, Nat.reduceLT, Nat.zero_add, Int.reduceAdd, Int.reduceLE, Int.reduceLT, Int.reduceEq, and_self, Int.reduceNeg, qrok_i, qrok_b0, qrok_b1, qrok_bI, Option.some.injEq, Value.int.injEq, J_bI0, J_bI1, Classical.not_not, Int.zero_add, Int.add_zero, Int.sub_zero, false_and, and_false, and_true, true_and, e_0, v_0, e_1, v_1, e_2, v_2, e_3, v_3, e_5, v_5, e_13, v_13, e_15, v_15, e_25, v_25, e_30, v_30, e_41, c_3, r_J_fill_0, r_J_fill_1, r_J_fill_2, r_J_fill_3, r_J_fill_4, r_J_fill_5, r_J_fill_6, r_J_fill_7, r_J_fill_10, r_J_fill_11, r_J_fill_12, r_J_fill_13, r_J_fill_14, r_J_fill_17, r_J_fill_20, hk, I_val, I_add, inB]
  refine ⟨by omega, kK _ _ _ _ ?_⟩
  have := LC_fill (l := l) (V := V) (d := d) (s := s) (r := r) (c := c) (A := A) (N := N) (v := v) (Q := (fun v' h' => v' = none ∧ h' = mkH s (jn (fiC c A N v) r))) hd hA hk hN ⟨rfl, rfl⟩ N 0 (by omega) (by omega)
  rw [fiC_0] at this
  exact this
theorem LC_hint (hd : 3 ≤ d) (hw : 8 ≤ w ∧ w ≤ 1462) (hS : ShW s w) (hn : 0 ≤ n ∧ n ≤ 6) (ho : OK R S) {p : Int} {x2 : Value} (hp : nd S n 4 < p ∧ p ≤ nd S n 4 + nd S n 8) : ∀ (i : Nat) (f : Int), f - nd S n 4 ≤ i → nd S n 4 < f → f ≤ p → Q (some (.int (Int32.ofInt (ftF S n p i f)))) (mkH s (jn (mkC w S g) r)) →
    G l V mi_Node_hintAgainst (rm d) 0 0 Q 0 0 64 [.ref (ndA w n 0), .int (Int32.ofInt p), x2, .int (Int32.ofInt (tAS S n p)), .int (Int32.ofInt f), .int (Int32.ofInt (f + -1))] [] (mkH s (jn (mkC w S g) r)) := by
  obtain ⟨-, n3, n4, n5, n6⟩ := OK_nOk ho hn
  have tp := tA_rng ho hn (i := p) (by omega) (by omega)
  intro i
  induction i with
  | zero => intro f h1 h2; omega
  | succ i ih =>
    intro f h1 h2 h3 hQ
    have tf := tA_rng ho hn (i := f - 1) (by omega) (by omega)
    rw [ftF] at hQ
    refine G_ev ok_Node_hintAgainst (smL_ok (d := d - 1) (by omega)) (fun pc => pc == 64) 200 (by omega) (fun K kK => ?_)
    rw [show f + -1 = f - 1 by omega]
    simp (disch := omega) only [ev_s, evN_ap, List.getElem?_cons_zero, List.getElem?_cons_succ, List.set_cons_zero, List.set_cons_succ, Bool.false_eq_true, ↓reduceIte, qrest_n, qrest_1, qrest_2, qrest_3, qrest_4, qrest_5, qrest_6, qtr_i, qtr_r, true_and, and_true, List.length_cons, List.length_nil, Int.cast_ofNat_Int, Int32.toInt_zero, false_implies, true_implies, not_false_eq_true, not_true_eq_false, Option.toList_some, Option.toList_none, List.cons_append, List.nil_append, Nat.reduceBEq, Nat.reduceEqDiff, Bool.or_self, or_self, Nat.reduceAdd, Nat.reduceLT, Nat.zero_add, Int.reduceAdd, Int.reduceLE, Int.reduceLT, Int.reduceEq, and_self, Int.reduceNeg, qrok_i, qrok_b0, qrok_b1, qrok_bI, Option.some.injEq, Value.int.injEq, J_bI0, J_bI1, Classical.not_not, Int.zero_add, Int.add_zero, Int.sub_zero, false_and, and_false, and_true, true_and, e_0, v_0, e_1, v_1, e_2, v_2, e_3, v_3, e_5, v_5, e_6, v_6, e_13, v_13, e_15, v_15, e_19, v_19, e_20, v_20, e_36, v_36, e_40, e_44, qspl_z, qspl_s, evC_s, evD_none, evD_v, evD_s, c_0, c_1, c_2, c_5, b_0, b_1, smL_34, sw_Node_last, smL_36, sw_Node_termAt, r_Node_hintAgainst_0, r_Node_hintAgainst_1, r_Node_hintAgainst_2, r_Node_hintAgainst_5, r_Node_hintAgainst_8, r_Node_hintAgainst_9, r_Node_hintAgainst_12, r_Node_hintAgainst_13, r_Node_hintAgainst_14, r_Node_hintAgainst_15, r_Node_hintAgainst_16, r_Node_hintAgainst_17, r_Node_hintAgainst_20, r_Node_hintAgainst_21, r_Node_hintAgainst_22, r_Node_hintAgainst_23, r_Node_hintAgainst_26, r_Node_hintAgainst_29, r_Node_hintAgainst_32, r_Node_hintAgainst_33, r_Node_hintAgainst_34, r_Node_hintAgainst_37, r_Node_hintAgainst_38, r_Node_hintAgainst_39, r_Node_hintAgainst_40, r_Node_hintAgainst_41, r_Node_hintAgainst_44, r_Node_hintAgainst_47, r_Node_hintAgainst_50, r_Node_hintAgainst_51, r_Node_hintAgainst_52, r_Node_hintAgainst_55, r_Node_hintAgainst_56, r_Node_hintAgainst_57, r_Node_hintAgainst_59, r_Node_hintAgainst_60, r_Node_hintAgainst_61, r_Node_hintAgainst_62, r_Node_hintAgainst_64, r_Node_hintAgainst_66, r_Node_hintAgainst_67, r_Node_hintAgainst_70, r_Node_hintAgainst_73, r_Node_hintAgainst_76, r_Node_hintAgainst_77, r_Node_hintAgainst_79, r_Node_hintAgainst_82, r_Node_hintAgainst_83, r_Node_hintAgainst_86, r_Node_hintAgainst_89, r_Node_hintAgainst_91, r_Node_hintAgainst_93, r_Node_hintAgainst_96, r_Node_hintAgainst_99, r_Node_hintAgainst_101, sv_k hS, sv_0 hS, sv_1 hS, sv_k1 hS, sv_n hS, sv_2 hS, sv_k2 hS, sv_b, sv_4, sv_5 hS, sv_k7 hS, sv_r hS, sv_kr hS, sv_7 hS, sv_k8 hS, sv_10 hS, sv_k9 hS, sv_11 hS, sv_k10 hS, sn_k hS, sn_4 hS, sn_k1 hS, sn_6 hS, sn_k2 hS, sn_24 hS, sn_k3 hS, sn_9 hS, sn_k4 hS, sn_13 hS, sn_k5 hS, sn_14 hS, sn_k6 hS, sn_15 hS, sn_k7 hS, sl_k hS, sl_2 hS, sl_k4 hS, sl_3 hS, sl_k5 hS, sl_4 hS, sl_k6 hS, sl_5 hS, sl_k7 hS, rn_0, rn_1, rn_2, rn_3, rn_5, rn_7, rn_8, rn_10, rn_11, rn_12, rn_16, rn_17, rn_log, rn_20, rn_21, rn_22, rn_23, rn_sk, rn_key, rn_next, rn_match, rn_heard, rw_3, rw_6, rw_8, rw_9, rw_12, rw_13, rw_14, rw_15, rw_he, rw_ld, rw_cu, rr_0, rr_1, rr_2, rr_3, rr_4, rr_5, su_2, su_8, su_10, su_12, su_16, su_17, su_20, su_21, su_22, su_23, su_sk, su_key, su_next, su_match, su_heard, su_3m, su_3, su_11m, su_11, su_7, sw_3, sw_8, sw_12, sw_13, sw_14, sw_15, sw_ld, sw_cu, sr_0, sr_5, I_val, I_add, I_sub, I_mul, inB, beq_iff_eq, or_false, false_or, u1_ne, u1_same, nd_u1, nd_u1s, lpS_u1, Bool.or_eq_true, Bool.or_false, Bool.false_or, bI_z, mnI_I, mxI_I, tmI_S hw hS ho, tC_eq]
    by_cases h : nd S n 4 < f - 1 ∧ tAS S n (f - 1) = tAS S n p
    · rw [if_pos h] at hQ
      refine ⟨fun q => absurd q (by omega), fun _ => ⟨n5, fun _ => kK _ _ _ _ ?_, fun q => absurd h.2 q⟩⟩
      exact ih (f - 1) (by omega) (by omega) (by omega) hQ
    · rw [if_neg h] at hQ
      refine ⟨fun _ => hQ, fun q => ⟨n5, fun q2 => absurd ⟨by omega, q2⟩ h, fun _ => hQ⟩⟩
set_option maxHeartbeats 2000000 in
set_option maxRecDepth 100000 in
theorem C_Node_hintAgainst (hd : 4 ≤ d) (hw : 8 ≤ w ∧ w ≤ 1462) (hS : ShW s w) {n p t : Int} (hn : 0 ≤ n ∧ n ≤ 6) (ho : OK R S) (hp : 0 ≤ p ∧ p ≤ 999) (ht : -100000 ≤ t ∧ t ≤ 100000) : T l V mi_Node_hintAgainst (rm d) 0 0 [.ref (ndA w n 0), .int (Int32.ofInt p), .int (Int32.ofInt t)] (mkH s (jn (mkC w S g) r)) (fun v h' => v = some (.int (Int32.ofInt (hiS S n p t))) ∧ h' = mkH s (jn (mkC w S g) r)) := by
  refine T_ev qm_Node_hintAgainst [.ref (ndA w n 0), .int (Int32.ofInt p), .int (Int32.ofInt t), .retAddr 0, .retAddr 0, .retAddr 0] rfl rfl (Nat.le_of_ble_eq_true rfl) ok_Node_hintAgainst (smL_ok (d := d - 1) (by omega)) (fun pc => pc == 64) 200 (by omega) (fun K kK => ?_)
  obtain ⟨-, n3, n4, n5, n6⟩ := OK_nOk ho hn
  simp (disch := omega) only [ev_s, evN_ap, List.getElem?_cons_zero, List.getElem?_cons_succ, List.set_cons_zero, List.set_cons_succ, Bool.false_eq_true, ↓reduceIte, qrest_n, qrest_1, qrest_2, qrest_3, qrest_4, qrest_5, qrest_6, qtr_i, qtr_r, true_and, and_true, List.length_cons, List.length_nil, Int.cast_ofNat_Int, Int32.toInt_zero, false_implies, true_implies, not_false_eq_true, not_true_eq_false, Option.toList_some, Option.toList_none, List.cons_append, List.nil_append, Nat.reduceBEq, Nat.reduceEqDiff, Bool.or_self, or_self, Nat.reduceAdd, Nat.reduceLT, Nat.zero_add, Int.reduceAdd, Int.reduceLE, Int.reduceLT, Int.reduceEq, and_self, Int.reduceNeg, qrok_i, qrok_b0, qrok_b1, qrok_bI, Option.some.injEq, Value.int.injEq, J_bI0, J_bI1, Classical.not_not, Int.zero_add, Int.add_zero, Int.sub_zero, false_and, and_false, and_true, true_and, e_0, v_0, e_1, v_1, e_2, v_2, e_3, v_3, e_5, v_5, e_6, v_6, e_13, v_13, e_15, v_15, e_19, v_19, e_20, v_20, e_36, v_36, e_40, e_44, qspl_z, qspl_s, evC_s, evD_none, evD_v, evD_s, c_0, c_1, c_2, c_5, b_0, b_1, smL_34, sw_Node_last, smL_36, sw_Node_termAt, r_Node_hintAgainst_0, r_Node_hintAgainst_1, r_Node_hintAgainst_2, r_Node_hintAgainst_5, r_Node_hintAgainst_8, r_Node_hintAgainst_9, r_Node_hintAgainst_12, r_Node_hintAgainst_13, r_Node_hintAgainst_14, r_Node_hintAgainst_15, r_Node_hintAgainst_16, r_Node_hintAgainst_17, r_Node_hintAgainst_20, r_Node_hintAgainst_21, r_Node_hintAgainst_22, r_Node_hintAgainst_23, r_Node_hintAgainst_26, r_Node_hintAgainst_29, r_Node_hintAgainst_32, r_Node_hintAgainst_33, r_Node_hintAgainst_34, r_Node_hintAgainst_37, r_Node_hintAgainst_38, r_Node_hintAgainst_39, r_Node_hintAgainst_40, r_Node_hintAgainst_41, r_Node_hintAgainst_44, r_Node_hintAgainst_47, r_Node_hintAgainst_50, r_Node_hintAgainst_51, r_Node_hintAgainst_52, r_Node_hintAgainst_55, r_Node_hintAgainst_56, r_Node_hintAgainst_57, r_Node_hintAgainst_59, r_Node_hintAgainst_60, r_Node_hintAgainst_61, r_Node_hintAgainst_62, r_Node_hintAgainst_64, r_Node_hintAgainst_66, r_Node_hintAgainst_67, r_Node_hintAgainst_70, r_Node_hintAgainst_73, r_Node_hintAgainst_76, r_Node_hintAgainst_77, r_Node_hintAgainst_79, r_Node_hintAgainst_82, r_Node_hintAgainst_83, r_Node_hintAgainst_86, r_Node_hintAgainst_89, r_Node_hintAgainst_91, r_Node_hintAgainst_93, r_Node_hintAgainst_96, r_Node_hintAgainst_99, r_Node_hintAgainst_101, sv_k hS, sv_0 hS, sv_1 hS, sv_k1 hS, sv_n hS, sv_2 hS, sv_k2 hS, sv_b, sv_4, sv_5 hS, sv_k7 hS, sv_r hS, sv_kr hS, sv_7 hS, sv_k8 hS, sv_10 hS, sv_k9 hS, sv_11 hS, sv_k10 hS, sn_k hS, sn_4 hS, sn_k1 hS, sn_6 hS, sn_k2 hS, sn_24 hS, sn_k3 hS, sn_9 hS, sn_k4 hS, sn_13 hS, sn_k5 hS, sn_14 hS, sn_k6 hS, sn_15 hS, sn_k7 hS, sl_k hS, sl_2 hS, sl_k4 hS, sl_3 hS, sl_k5 hS, sl_4 hS, sl_k6 hS, sl_5 hS, sl_k7 hS, rn_0, rn_1, rn_2, rn_3, rn_5, rn_7, rn_8, rn_10, rn_11, rn_12, rn_16, rn_17, rn_log, rn_20, rn_21, rn_22, rn_23, rn_sk, rn_key, rn_next, rn_match, rn_heard, rw_3, rw_6, rw_8, rw_9, rw_12, rw_13, rw_14, rw_15, rw_he, rw_ld, rw_cu, rr_0, rr_1, rr_2, rr_3, rr_4, rr_5, su_2, su_8, su_10, su_12, su_16, su_17, su_20, su_21, su_22, su_23, su_sk, su_key, su_next, su_match, su_heard, su_3m, su_3, su_11m, su_11, su_7, sw_3, sw_8, sw_12, sw_13, sw_14, sw_15, sw_ld, sw_cu, sr_0, sr_5, I_val, I_add, I_sub, I_mul, inB, beq_iff_eq, or_false, false_or, u1_ne, u1_same, nd_u1, nd_u1s, lpS_u1, Bool.or_eq_true, Bool.or_false, Bool.false_or, bI_z, mnI_I, mxI_I, tmI_S hw hS ho, mxJ]
  unfold hiS
  refine ⟨fun q => ?_, fun q => ?_⟩
  · rw [if_neg (by omega)]
    refine ⟨n5, fun q2 => ?_, fun q2 => ?_⟩
    · rw [if_neg (by omega)]
    · have e := tC_eq (S := S) (n := n) (i := p) (by omega)
      have tp := tA_rng ho hn (i := p) (by omega) (by omega)
      rw [e, I_val (by omega) (by omega)]
      refine ⟨fun q3 => ?_, fun q3 => ?_⟩
      · rw [if_pos ⟨by omega, by omega⟩]
        unfold ftS
        refine ⟨fun q4 => ?_, fun q4 => ⟨by omega, ?_⟩⟩
        · have hv : hiS S n p t = ftF S n p (p - nd S n 4).toNat p := by
            unfold hiS ftS
            rw [if_neg (by omega), if_pos ⟨by omega, by omega⟩, if_neg (by omega)]
          rw [show p - 1 = p + -1 by omega]
          refine kK _ _ _ _ (LC_hint (by omega) hw hS hn ho (by omega) (p - nd S n 4).toNat p (by omega) (by omega) (by omega) ⟨by rw [hv], rfl⟩)
        · rw [if_pos (by omega), Int.max_comm]
      · rw [if_neg (by omega)]
  · rw [if_pos (by omega)]
set_option maxHeartbeats 2000000 in
set_option maxRecDepth 100000 in
theorem C_Node_becomeCandidate (hd : 3 ≤ d) (hw : 8 ≤ w ∧ w ≤ 1462) (hS : ShW s w) {n : Int} (hn : 0 ≤ n ∧ n ≤ 6) (ho : OK R S) (hu : nd S n 0 = 1) : T l V mi_Node_becomeCandidate (rm d) 0 0 [.ref (ndA w n 0)] (mkH s (jn (mkC w S g) r)) (fun v h' => v = none ∧ ∃ g', h' = mkH s (jn (mkC w (cdS S n (shZ 1 n)) g') r) ∧ FrN w g g') := by
  refine T_ev qm_Node_becomeCandidate [.ref (ndA w n 0)] rfl rfl (Nat.le_of_ble_eq_true rfl) ok_Node_becomeCandidate (smL_ok (d := d - 1) (by omega)) (fun _ => false) 200 (by omega) (fun K kK => ?_)
  have o1 := (OK_n ho hn).1
  unfold NOKa at o1
  simp (disch := first | omega | (simp (disch := omega) only [nd_u1, nd_u1s]; omega)) only [ev_s, evN_ap, List.getElem?_cons_zero, List.getElem?_cons_succ, List.set_cons_zero, List.set_cons_succ, Bool.false_eq_true, ↓reduceIte, qrest_n, qrest_1, qrest_2, qrest_3, qrest_4, qrest_5, qrest_6, qtr_i, qtr_r, true_and, and_true, List.length_cons, List.length_nil, Int.cast_ofNat_Int, Int32.toInt_zero, false_implies, true_implies, not_false_eq_true, not_true_eq_false, Option.toList_some, Option.toList_none, List.cons_append, List.nil_append, Nat.reduceBEq, Nat.reduceEqDiff, Bool.or_self, or_self, Nat.reduceAdd, Nat.reduceLT, Nat.zero_add, Int.reduceAdd, Int.reduceLE, Int.reduceLT, Int.reduceEq, and_self, Int.reduceNeg, qrok_i, qrok_b0, qrok_b1, qrok_bI, Option.some.injEq, Value.int.injEq, J_bI0, J_bI1, Classical.not_not, Int.zero_add, Int.add_zero, Int.sub_zero, false_and, and_false, and_true, true_and, e_0, v_0, e_2, v_2, e_6, v_6, e_10, v_10, e_19, v_19, e_21, v_21, e_41, b_0, b_6, r_Node_becomeCandidate_0, r_Node_becomeCandidate_1, r_Node_becomeCandidate_2, r_Node_becomeCandidate_5, r_Node_becomeCandidate_6, r_Node_becomeCandidate_7, r_Node_becomeCandidate_10, r_Node_becomeCandidate_11, r_Node_becomeCandidate_12, r_Node_becomeCandidate_15, r_Node_becomeCandidate_16, r_Node_becomeCandidate_17, r_Node_becomeCandidate_20, r_Node_becomeCandidate_23, r_Node_becomeCandidate_24, r_Node_becomeCandidate_25, r_Node_becomeCandidate_26, r_Node_becomeCandidate_29, r_Node_becomeCandidate_30, r_Node_becomeCandidate_33, r_Node_becomeCandidate_34, r_Node_becomeCandidate_36, r_Node_becomeCandidate_39, sv_k hS, sv_0 hS, sv_1 hS, sv_k1 hS, sv_n hS, sv_2 hS, sv_k2 hS, sv_b, sv_4, sv_5 hS, sv_k7 hS, sv_r hS, sv_kr hS, sv_7 hS, sv_k8 hS, sv_10 hS, sv_k9 hS, sv_11 hS, sv_k10 hS, sn_k hS, sn_4 hS, sn_k1 hS, sn_6 hS, sn_k2 hS, sn_24 hS, sn_k3 hS, sn_9 hS, sn_k4 hS, sn_13 hS, sn_k5 hS, sn_14 hS, sn_k6 hS, sn_15 hS, sn_k7 hS, sl_k hS, sl_2 hS, sl_k4 hS, sl_3 hS, sl_k5 hS, sl_4 hS, sl_k6 hS, sl_5 hS, sl_k7 hS, rn_0, rn_1, rn_2, rn_3, rn_5, rn_7, rn_8, rn_10, rn_11, rn_12, rn_16, rn_17, rn_log, rn_20, rn_21, rn_22, rn_23, rn_sk, rn_key, rn_next, rn_match, rn_heard, rw_3, rw_6, rw_8, rw_9, rw_12, rw_13, rw_14, rw_15, rw_he, rw_ld, rw_cu, rr_0, rr_1, rr_2, rr_3, rr_4, rr_5, su_2, su_8, su_10, su_12, su_16, su_17, su_20, su_21, su_22, su_23, su_sk, su_key, su_next, su_match, su_heard, su_3m, su_3, su_11m, su_11, su_7, sw_3, sw_8, sw_12, sw_13, sw_14, sw_15, sw_ld, sw_cu, sr_0, sr_5, I_val, I_add, I_sub, I_mul, inB, beq_iff_eq, or_false, false_or, u1_ne, u1_same, nd_u1, nd_u1s, lpS_u1, Bool.or_eq_true, Bool.or_false, Bool.false_or, bI_z, mnI_I, mxI_I, I_sh]
  repeat' (first | with_reducible apply And.intro | intro _)
  all_goals (try clear kK)
  all_goals first | omega | exact ⟨_, rfl, FrN_mk⟩ | exact ⟨_, rfl, FrN_rf⟩ | trivial
end CS
