/-! the class's world: a node goes down -/
section Dn
variable {w : Nat} {S : qN} {g : qI} {n x : Int}
theorem mk_kn (hn : 0 ≤ n ∧ n ≤ 6) (hu : nd S n 0 ≠ 1) : mkC w (u1 S (244 * n + 11) x) g = mkC w S g := by
  have h : up (mkC w S g) (ndA w n 0) 11 (mkC w S g (ndA w n 0) 11) = mkC w (u1 S (244 * n + 11) x) g := by
    refine up_N hn (by omega) (offN_u1 (by omega)) (fun p' k' hp' => ?_) (fun _ _ _ => rfl)
    rw [nd_u1c, mkC_N hn (by omega)]
    have hp8 : p' = 0 ∨ p' = 1 ∨ p' = 2 ∨ p' = 3 ∨ p' = 4 ∨ p' = 5 ∨ p' = 6 ∨ p' = 7 := by omega
    rcases hp8 with rfl | rfl | rfl | rfl | rfl | rfl | rfl | rfl <;> simp only [ndC, pk, u1] <;> grind (splits := 60)
  rw [← h]
  funext a k'
  rw [up_at]
  split
  · rename_i q; rw [q.1, q.2]
  · rfl
theorem up_dn (hn : 0 ≤ n ∧ n ≤ 6) : up (mkC w S g) (ndA w n 0) 1 0 = mkC w (u1 S (244 * n + 0) 0) (mkC w S g) := by
  refine (congrArg (fun c => up c (ndA w n 0) 1 0) mkC_id.symm).trans ?_
  refine up_N hn (by omega) (offN_u1 (by omega)) (fun p' k' hp' => ?_) (fun _ _ _ => rfl)
  rw [nd_u1c, mkC_N hn hp']
  generalize g (ndA w n p') k' = x
  have hp8 : p' = 0 ∨ p' = 1 ∨ p' = 2 ∨ p' = 3 ∨ p' = 4 ∨ p' = 5 ∨ p' = 6 ∨ p' = 7 := by omega
  rcases hp8 with rfl | rfl | rfl | rfl | rfl | rfl | rfl | rfl <;> simp only [ndC, pk, u1] <;> grind (splits := 60)
theorem dn_fo (hn : 0 ≤ n ∧ n ≤ 6) (h : RI S) : mkC w (lrF (u1 (u1 S (244 * n + 0) 0) (244 * n + 3) 0) n (S 11135)) g = mkC w (u1 (foS S n (-1)) (244 * n + 0) 0) g := by
  rw [← fo_lr hn h, lrF_u1 (by omega), lrF_u1 (by omega), lrF_u1 (by omega), lrF_u1 (by omega)]
  generalize lrF S n (S 11135) = X
  have e : u1 (u1 (u1 X (244 * n + 3) 0) (244 * n + 11) (-1)) (244 * n + 0) 0 = u1 (u1 (u1 X (244 * n + 0) 0) (244 * n + 3) 0) (244 * n + 11) (-1) := by
    funext j
    unfold u1
    grind
  rw [e, mk_kn hn]
  rw [nd_u1 (by omega), nd_u1s]
  omega
end Dn
section CS
variable {l : Launch} {V : qV} {d : Nat} {s : qS} {w : Nat} {S : qN} {c g r : qI} {R n : Int} {Q : Option Value → qH → Prop}
theorem su_dn (hw : 8 ≤ w ∧ w ≤ 1462) (hn : 0 ≤ n ∧ n ≤ 6) : setM (mkH s (jn (mkC w S g) r)) (ndA w n 0) 1 (Int32.ofInt 0) = mkH s (jn (mkC w (u1 S (244 * n + 0) 0) (mkC w S g)) r) := by rw [set_c (ndA_lt hw hn (by omega))]; rw [up_dn hn]
set_option maxHeartbeats 2000000 in
set_option maxRecDepth 100000 in
theorem C_World_goDown (hd : 5 ≤ d) (hw : 8 ≤ w ∧ w ≤ 1462) (hS : ShW s w) {n : Int} (hn : 0 ≤ n ∧ n ≤ 6) (ho : OK R S) (hr : RI S) : T l V mi_World_goDown (rm d) 0 0 [.ref w, .ref (ndA w n 0)] (mkH s (jn (mkC w S g) r)) (fun v h' => v = none ∧ ∃ g', h' = mkH s (jn (mkC w (u1 (foS S n (-1)) (244 * n) 0) g') r) ∧ FrN w g g') := by
  refine T_ev qm_World_goDown [.ref w, .ref (ndA w n 0)] rfl rfl (Nat.le_of_ble_eq_true rfl) ok_World_goDown (smL_ok (d := d - 1) (by omega)) (fun _ => false) 200 (by omega) (fun K kK => ?_)
  have hm := OK_sm ho
  have e5 : u1 (u1 S (244 * n) 0) (244 * n + 3) 0 11135 = S 11135 := by rw [u1_ne (by omega), u1_ne (by omega)]
  simp (disch := omega) only [ev_s, evN_ap, List.getElem?_cons_zero, List.getElem?_cons_succ, List.set_cons_zero, List.set_cons_succ, Bool.false_eq_true, ↓reduceIte, qrest_n, qrest_1, qrest_2, qrest_3, qrest_4, qrest_5, qrest_6, qtr_i, qtr_r, true_and, and_true, List.length_cons, List.length_nil, Int.cast_ofNat_Int, Int32.toInt_zero, false_implies, true_implies, not_false_eq_true, not_true_eq_false, Option.toList_some, Option.toList_none, List.cons_append, List.nil_append, Nat.reduceBEq, Nat.reduceEqDiff, Bool.or_self, or_self, Nat.reduceAdd, Nat.reduceLT, Nat.zero_add, Int.reduceAdd, Int.reduceLE, Int.reduceLT, Int.reduceEq, and_self, Int.reduceNeg, qrok_i, qrok_b0, qrok_b1, qrok_bI, Option.some.injEq, Value.int.injEq, J_bI0, J_bI1, Classical.not_not, Int.zero_add, Int.add_zero, Int.sub_zero, false_and, and_false, and_true, true_and, e_0, v_0, e_2, v_2, e_21, v_21, e_22, v_22, e_41, e_44, qspl_z, qspl_s, evC_s, evD_none, evD_v, evD_s, (smL_no (k := 108) rfl), r_World_goDown_0, r_World_goDown_1, r_World_goDown_2, r_World_goDown_5, r_World_goDown_6, r_World_goDown_7, r_World_goDown_10, r_World_goDown_11, r_World_goDown_12, r_World_goDown_15, sv_k hS, sv_0 hS, sv_1 hS, sv_k1 hS, sv_n hS, sv_2 hS, sv_k2 hS, sv_b, sv_4, sv_5 hS, sv_k7 hS, sv_r hS, sv_kr hS, sv_7 hS, sv_k8 hS, sv_10 hS, sv_k9 hS, sv_11 hS, sv_k10 hS, sn_k hS, sn_4 hS, sn_k1 hS, sn_6 hS, sn_k2 hS, sn_24 hS, sn_k3 hS, sn_9 hS, sn_k4 hS, sn_13 hS, sn_k5 hS, sn_14 hS, sn_k6 hS, sn_15 hS, sn_k7 hS, sl_k hS, sl_2 hS, sl_k4 hS, sl_3 hS, sl_k5 hS, sl_4 hS, sl_k6 hS, sl_5 hS, sl_k7 hS, rn_0, rn_1, rn_2, rn_3, rn_5, rn_7, rn_8, rn_10, rn_11, rn_12, rn_16, rn_17, rn_log, rn_20, rn_21, rn_22, rn_23, rn_sk, rn_key, rn_next, rn_match, rn_heard, rw_3, rw_6, rw_8, rw_9, rw_12, rw_13, rw_14, rw_15, rw_he, rw_ld, rw_cu, rr_0, rr_1, rr_2, rr_3, rr_4, rr_5, su_2, su_8, su_10, su_12, su_16, su_17, su_20, su_21, su_22, su_23, su_sk, su_key, su_next, su_match, su_heard, su_3m, su_3, su_11m, su_11, su_7, sw_3, sw_8, sw_12, sw_13, sw_14, sw_15, sw_ld, sw_cu, sr_0, sr_5, I_val, I_add, I_sub, I_mul, inB, beq_iff_eq, or_false, false_or, u1_ne, u1_same, nd_u1, nd_u1s, lpS_u1, Bool.or_eq_true, Bool.or_false, Bool.false_or, bI_z, mnI_I, mxI_I, su_dn hw hn]
  refine ⟨Or.inl (by decide), ?_⟩
  refine kK _ _ _ _ (GCD ok_World_goDown r_World_goDown_12 ⟨by decide, by decide⟩ qm_World_loseReads (C_World_loseReads (d := d - 1) (S := u1 (u1 S (244 * n) 0) (244 * n + 3) 0) (by omega) hw hS hn (smS_u1 (smS_u1 hm (by omega) (by omega)) (by omega) (by omega)) (by have := OK_aOk ho; unfold aOk at *; rw [e5]; exact this) (fun m m0 m1 => by rw [e5] at m1; rw [u1_ne (by omega), u1_ne (by omega), u1_ne (by omega), u1_ne (by omega)]; exact OK_q ho m m0 m1)) rfl rfl (fun _ => by first | exact rcN hS (by omega) | exact rcW hS | exact rcG hS (by assumption) | exact rcL hS | exact rcN2 hS (by omega) | exact rcG2 hS (by assumption)) rfl (Nat.le_of_ble_eq_true rfl) (by omega) ?_)
  refine G_ev ok_World_goDown (smL_ok (d := d - 1) (by omega)) (fun _ => false) 200 (by omega) (fun K kK => ?_)
  simp (disch := omega) only [ev_s, evN_ap, List.getElem?_cons_zero, List.getElem?_cons_succ, List.set_cons_zero, List.set_cons_succ, Bool.false_eq_true, ↓reduceIte, qrest_n, qrest_1, qrest_2, qrest_3, qrest_4, qrest_5, qrest_6, qtr_i, qtr_r, true_and, and_true, List.length_cons, List.length_nil, Int.cast_ofNat_Int, Int32.toInt_zero, false_implies, true_implies, not_false_eq_true, not_true_eq_false, Option.toList_some, Option.toList_none, List.cons_append, List.nil_append, Nat.reduceBEq, Nat.reduceEqDiff, Bool.or_self, or_self, Nat.reduceAdd, Nat.reduceLT, Nat.zero_add, Int.reduceAdd, Int.reduceLE, Int.reduceLT, Int.reduceEq, and_self, Int.reduceNeg, qrok_i, qrok_b0, qrok_b1, qrok_bI, Option.some.injEq, Value.int.injEq, J_bI0, J_bI1, Classical.not_not, Int.zero_add, Int.add_zero, Int.sub_zero, false_and, and_false, and_true, true_and, e_0, v_0, e_2, v_2, e_21, v_21, e_22, v_22, e_41, e_44, qspl_z, qspl_s, evC_s, evD_none, evD_v, evD_s, (smL_no (k := 108) rfl), r_World_goDown_0, r_World_goDown_1, r_World_goDown_2, r_World_goDown_5, r_World_goDown_6, r_World_goDown_7, r_World_goDown_10, r_World_goDown_11, r_World_goDown_12, r_World_goDown_15, sv_k hS, sv_0 hS, sv_1 hS, sv_k1 hS, sv_n hS, sv_2 hS, sv_k2 hS, sv_b, sv_4, sv_5 hS, sv_k7 hS, sv_r hS, sv_kr hS, sv_7 hS, sv_k8 hS, sv_10 hS, sv_k9 hS, sv_11 hS, sv_k10 hS, sn_k hS, sn_4 hS, sn_k1 hS, sn_6 hS, sn_k2 hS, sn_24 hS, sn_k3 hS, sn_9 hS, sn_k4 hS, sn_13 hS, sn_k5 hS, sn_14 hS, sn_k6 hS, sn_15 hS, sn_k7 hS, sl_k hS, sl_2 hS, sl_k4 hS, sl_3 hS, sl_k5 hS, sl_4 hS, sl_k6 hS, sl_5 hS, sl_k7 hS, rn_0, rn_1, rn_2, rn_3, rn_5, rn_7, rn_8, rn_10, rn_11, rn_12, rn_16, rn_17, rn_log, rn_20, rn_21, rn_22, rn_23, rn_sk, rn_key, rn_next, rn_match, rn_heard, rw_3, rw_6, rw_8, rw_9, rw_12, rw_13, rw_14, rw_15, rw_he, rw_ld, rw_cu, rr_0, rr_1, rr_2, rr_3, rr_4, rr_5, su_2, su_8, su_10, su_12, su_16, su_17, su_20, su_21, su_22, su_23, su_sk, su_key, su_next, su_match, su_heard, su_3m, su_3, su_11m, su_11, su_7, sw_3, sw_8, sw_12, sw_13, sw_14, sw_15, sw_ld, sw_cu, sr_0, sr_5, I_val, I_add, I_sub, I_mul, inB, beq_iff_eq, or_false, false_or, u1_ne, u1_same, nd_u1, nd_u1s, lpS_u1, Bool.or_eq_true, Bool.or_false, Bool.false_or, bI_z, mnI_I, mxI_I]
  have hd0 := fun g => dn_fo (w := w) (g := g) hn hr
  simp only [Int.add_zero] at hd0
  rw [hd0]
  exact ⟨_, rfl, FrN_tr FrN_mk FrN_mk⟩
end CS
