section Tst
variable {l : Launch} {V : qV}
theorem t_M_in {h : qH} {x y z : Int32} : T l V mi_M_in (rm 1) 0 0 [.int x, .int y, .int z] h (fun v h' => v = some (.int (bI (y.toInt ≤ x.toInt ∧ x.toInt ≤ z.toInt))) ∧ h' = h) := by
  refine T_ev qm_M_in [.int x, .int y, .int z] rfl rfl (Nat.le_of_ble_eq_true rfl) ok_M_in sm0_ok (fun _ => false) 60 Nat.zero_lt_one (fun K hK => ?_)
  simp only [ev_s, evN_ap, List.getElem?_cons_zero, List.getElem?_cons_succ, List.set_cons_zero, List.set_cons_succ, Bool.false_eq_true, if_false, if_true, reduceIte, qrest_n, qrest_1, qrest_2, qrest_3, qrest_4, qrest_5, qrest_6, qtr_i, qtr_r, true_and, and_true, List.length_cons, List.length_nil, Int.cast_ofNat_Int, Int32.toInt_zero, qrok_i, qrok_b0, qrok_b1, qrok_bI, Option.some.injEq, Value.int.injEq, J_bI0, J_bI1, e_0, v_0, e_1, v_1, e_13, v_13, e_15, v_15, e_40, c_2, c_4, r_M_in_0, r_M_in_1, r_M_in_2, r_M_in_5, r_M_in_6, r_M_in_7, r_M_in_10, r_M_in_11, r_M_in_14, r_M_in_15]
  omega
theorem t_M_min {h : qH} {x y : Int32} : T l V mi_M_min (rm 1) 0 0 [.int x, .int y] h (fun v h' => v = some (.int (mnI x y)) ∧ h' = h) := by
  refine T_ev qm_M_min [.int x, .int y] rfl rfl (Nat.le_of_ble_eq_true rfl) ok_M_min sm0_ok (fun _ => false) 60 Nat.zero_lt_one (fun K hK => ?_)
  simp only [ev_s, evN_ap, List.getElem?_cons_zero, List.getElem?_cons_succ, List.set_cons_zero, List.set_cons_succ, Bool.false_eq_true, if_false, if_true, reduceIte, qrest_n, qrest_1, qrest_2, qrest_3, qrest_4, qrest_5, qrest_6, qtr_i, qtr_r, true_and, and_true, List.length_cons, List.length_nil, Int.cast_ofNat_Int, Int32.toInt_zero, qrok_i, qrok_b0, qrok_b1, qrok_bI, Option.some.injEq, Value.int.injEq, J_bI0, J_bI1, e_1, v_1, e_13, v_13, e_15, v_15, e_40, c_3, r_M_min_0, r_M_min_1, r_M_min_2, r_M_min_5, r_M_min_6, r_M_min_9, r_M_min_10]
  unfold mnI
  refine ⟨fun a => ?_, fun a => ?_⟩
  · rw [if_neg (by omega)]
  · rw [if_pos (by omega)]
theorem t_M_max {h : qH} {x y : Int32} : T l V mi_M_max (rm 1) 0 0 [.int x, .int y] h (fun v h' => v = some (.int (mxI x y)) ∧ h' = h) := by
  refine T_ev qm_M_max [.int x, .int y] rfl rfl (Nat.le_of_ble_eq_true rfl) ok_M_max sm0_ok (fun _ => false) 60 Nat.zero_lt_one (fun K hK => ?_)
  simp only [ev_s, evN_ap, List.getElem?_cons_zero, List.getElem?_cons_succ, List.set_cons_zero, List.set_cons_succ, Bool.false_eq_true, if_false, if_true, reduceIte, qrest_n, qrest_1, qrest_2, qrest_3, qrest_4, qrest_5, qrest_6, qtr_i, qtr_r, true_and, and_true, List.length_cons, List.length_nil, Int.cast_ofNat_Int, Int32.toInt_zero, qrok_i, qrok_b0, qrok_b1, qrok_bI, Option.some.injEq, Value.int.injEq, J_bI0, J_bI1, e_1, v_1, e_13, v_13, e_15, v_15, e_40, c_5, r_M_max_0, r_M_max_1, r_M_max_2, r_M_max_5, r_M_max_6, r_M_max_9, r_M_max_10]
  unfold mxI
  refine ⟨fun a => ?_, fun a => ?_⟩
  · rw [if_neg (by omega)]
  · rw [if_pos (by omega)]
theorem t_M_has {h : qH} {x y : Int32} : T l V mi_M_has (rm 1) 0 0 [.int x, .int y] h (fun v h' => v = some (.int (bI (hasP x y))) ∧ h' = h) := by
  refine T_ev qm_M_has [.int x, .int y] rfl rfl (Nat.le_of_ble_eq_true rfl) ok_M_has sm0_ok (fun _ => false) 60 Nat.zero_lt_one (fun K hK => ?_)
  simp only [ev_s, evN_ap, List.getElem?_cons_zero, List.getElem?_cons_succ, List.set_cons_zero, List.set_cons_succ, Bool.false_eq_true, if_false, if_true, reduceIte, qrest_n, qrest_1, qrest_2, qrest_3, qrest_4, qrest_5, qrest_6, qtr_i, qtr_r, true_and, and_true, List.length_cons, List.length_nil, Int.cast_ofNat_Int, Int32.toInt_zero, qrok_i, qrok_b0, qrok_b1, qrok_bI, Option.some.injEq, Value.int.injEq, J_bI0, J_bI1, e_0, v_0, e_1, v_1, e_6, v_6, e_13, v_13, e_15, v_15, e_40, c_1, b_3, b_7, r_M_has_0, r_M_has_1, r_M_has_2, r_M_has_3, r_M_has_4, r_M_has_5, r_M_has_6, r_M_has_9, r_M_has_10, r_M_has_13, r_M_has_14]
  simp (disch := omega) only [I_val, hasP]
  exact ⟨fun a => a, fun a => Classical.not_not.mp a⟩
theorem t_M_the {h : qH} {x y : Int32} (hp : ShM h ∧ ndB x ∧ (0 ≤ y.toInt ∧ y.toInt ≤ 243)) : T l V mi_M_the (rm 1) 0 0 [.ref 2198, .int x, .int y] h (fun v h' => v = some (.int (nA h x y.toInt)) ∧ h' = h) := by
  refine T_ev qm_M_the [.ref 2198, .int x, .int y] rfl rfl (Nat.le_of_ble_eq_true rfl) ok_M_the sm0_ok (fun _ => false) 60 Nat.zero_lt_one (fun K hK => ?_)
  obtain ⟨hs, ⟨p1, p2⟩, p3, p4⟩ := hp
  obtain ⟨a, a1, a2, rfl⟩ := I_all x
  obtain ⟨b, b1, b2, rfl⟩ := I_all y
  rw [I_val a1 a2] at p1 p2
  rw [I_val b1 b2] at p3 p4
  simp (disch := omega) only [ev_s, evN_ap, List.getElem?_cons_zero, List.getElem?_cons_succ, List.set_cons_zero, List.set_cons_succ, Bool.false_eq_true, if_false, if_true, reduceIte, qrest_n, qrest_1, qrest_2, qrest_3, qrest_4, qrest_5, qrest_6, qtr_i, qtr_r, true_and, and_true, List.length_cons, List.length_nil, Int.cast_ofNat_Int, Int32.toInt_zero, qrok_i, qrok_b0, qrok_b1, qrok_bI, Option.some.injEq, Value.int.injEq, J_bI0, J_bI1, e_0, v_0, e_1, v_1, e_2, v_2, e_6, v_6, e_20, v_20, e_24, v_24, e_40, b_0, b_2, r_M_the_0, r_M_the_1, r_M_the_4, r_M_the_7, r_M_the_8, r_M_the_9, r_M_the_10, r_M_the_11, r_M_the_12, (shM_o hs), (shM_r_now hs), (shM_k_now hs), I_add, I_mul, I_val, nA, inB]
  omega
theorem t_M_sets {h : qH} {x y z : Int32} (hp : ShM h ∧ ndB x ∧ (0 ≤ y.toInt ∧ y.toInt ≤ 243)) : T l V mi_M_sets (rm 1) 0 0 [.ref 2198, .int x, .int y, .int z] h (fun v h' => v = none ∧ h' = setM h 2199 (244 * x.toInt + y.toInt) z) := by
  refine T_ev qm_M_sets [.ref 2198, .int x, .int y, .int z] rfl rfl (Nat.le_of_ble_eq_true rfl) ok_M_sets sm0_ok (fun _ => false) 60 Nat.zero_lt_one (fun K hK => ?_)
  obtain ⟨hs, ⟨p1, p2⟩, p3, p4⟩ := hp
  obtain ⟨a, a1, a2, rfl⟩ := I_all x
  obtain ⟨b, b1, b2, rfl⟩ := I_all y
  rw [I_val a1 a2] at p1 p2
  rw [I_val b1 b2] at p3 p4
  simp (disch := omega) only [ev_s, evN_ap, List.getElem?_cons_zero, List.getElem?_cons_succ, List.set_cons_zero, List.set_cons_succ, Bool.false_eq_true, if_false, if_true, reduceIte, qrest_n, qrest_1, qrest_2, qrest_3, qrest_4, qrest_5, qrest_6, qtr_i, qtr_r, true_and, and_true, List.length_cons, List.length_nil, Int.cast_ofNat_Int, Int32.toInt_zero, qrok_i, qrok_b0, qrok_b1, qrok_bI, Option.some.injEq, Value.int.injEq, J_bI0, J_bI1, e_0, v_0, e_1, v_1, e_2, v_2, e_6, v_6, e_20, v_20, e_25, v_25, e_41, b_0, b_2, r_M_sets_0, r_M_sets_1, r_M_sets_4, r_M_sets_7, r_M_sets_8, r_M_sets_9, r_M_sets_10, r_M_sets_11, r_M_sets_12, r_M_sets_13, (shM_o hs), (shM_r_now hs), (shM_k_now hs), I_add, I_mul, I_val, inB]
  omega
end Tst
