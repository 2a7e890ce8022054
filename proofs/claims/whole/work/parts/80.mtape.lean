/-! the tape: what a place of it holds -/
section MS
variable {l : Launch} {V : qV} {d : Nat} {s : qS} {c r r0 : qI} {R n : Int} {Q : Option Value → qH → Prop}
set_option maxHeartbeats 2000000 in
set_option maxRecDepth 100000 in
theorem T_M_octet (hd : 8 ≤ d) (hs : ShMs s) {j : Int} (hj : 0 ≤ j ∧ j < 260) (hm : smS (r 2199)) : T l V mi_M_octet (rm d) 0 0 [.ref 2198, .int (Int32.ofInt j)] (mkH s (jn c r)) (fun v h' => v = some (.int (Int32.ofInt (r 2204 j) &&& 255)) ∧ h' = mkH s (jn c r)) := by
  refine T_ev qm_M_octet [.ref 2198, .int (Int32.ofInt j)] rfl rfl (Nat.le_of_ble_eq_true rfl) ok_M_octet (smE_ok (d := d - 1) (by omega)) (fun _ => false) 200 (by omega) (fun K kK => ?_)
  simp (disch := omega) only [ev_s, evN_ap, List.getElem?_cons_zero, List.getElem?_cons_succ, List.set_cons_zero, List.set_cons_succ, Bool.false_eq_true, ↓reduceIte, qrest_n, qrest_1, qrest_2, qrest_3, qrest_4, qrest_5, qrest_6, qtr_i, qtr_r, true_and, and_true, List.length_cons, List.length_nil, Int.cast_ofNat_Int, Int32.toInt_zero, false_implies, true_implies, not_false_eq_true, not_true_eq_false, Option.toList_some, Option.toList_none, List.cons_append, List.nil_append, Nat.reduceBEq, Nat.reduceEqDiff, Bool.or_self, or_self, Nat.reduceAdd, Nat.reduceLT, Nat.zero_add, Int.reduceAdd, Int.reduceLE, Int.reduceLT, Int.reduceEq, and_self, Int.reduceNeg, qrok_i, qrok_b0, qrok_b1, qrok_bI, Option.some.injEq, Value.int.injEq, J_bI0, J_bI1, Classical.not_not, Int.zero_add, Int.add_zero, Int.sub_zero, false_and, and_false, and_true, true_and, e_0, v_0, e_1, v_1, e_2, v_2, e_6, v_6, e_20, v_20, e_28, v_28, e_40, b_3, r_M_octet_0, r_M_octet_1, r_M_octet_4, r_M_octet_5, r_M_octet_6, r_M_octet_9, r_M_octet_10, (shS_o hs), (shS_r_now hs), (shS_k_now hs), nA_mk, lpI_mk, mnI_I, mxI_I, I_val, I_add, I_sub, I_mul, ShM_mk, hs, ndB_I, hM_jr, inB, smv hm, smn hm, bI_z, Bool.or_eq_true, Bool.or_false, Bool.false_or, beq_iff_eq, or_false, false_or, set_jA, uA_uA, uA_same, uA_ne, u1_ne, u1_same, nd_u1, nd_u1s, lpS_u1, (shS_o hs), (shS_r_tape hs), (shS_k_tape hs)]
  repeat' (first | with_reducible apply And.intro | intro _)
  all_goals first | assumption | contradiction | trivial | (clear kK; omega)
end MS
