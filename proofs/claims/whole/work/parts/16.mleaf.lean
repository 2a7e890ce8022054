/-! leaves of the reference -/
noncomputable def lpI (h : qH) (x y : Int32) : Int32 := Int32.ofInt 244 * x + Int32.ofInt 52 + Int32.ofInt 4 * (y - nA h x 4 - Int32.ofInt 1)
noncomputable def tAI (h : qH) (x y : Int32) : Int32 := if y.toInt = (nA h x 4).toInt then nA h x 5 else hM h 2199 (lpI h x y).toInt
theorem ndB_I {a : Int} (h1 : -2147483648 ≤ a) (h2 : a ≤ 2147483647) : ndB (Int32.ofInt a) = (0 ≤ a ∧ a ≤ 6) := by unfold ndB; rw [I_val h1 h2]
noncomputable def sm_M_in (as : List Value) (h : qH) : Option (Prop × Option Value × qH) := match as with
  | [.int x, .int y, .int z] => some (True, (some (.int (bI (y.toInt ≤ x.toInt ∧ x.toInt ≤ z.toInt)))), h)
  | _ => none
theorem sw_M_in {h : qH} {x y z : Int32} : sm_M_in [.int x, .int y, .int z] h = some (True, (some (.int (bI (y.toInt ≤ x.toInt ∧ x.toInt ≤ z.toInt)))), h) := nrfl rfl
set_option maxHeartbeats 2000000 in
set_option maxRecDepth 100000 in
theorem t_M_in {l : Launch} {V : qV} {d : Nat} (hd : 1 ≤ d) {h : qH} {x y z : Int32} (hp : True) : T l V mi_M_in (rm d) 0 0 [.int x, .int y, .int z] h (fun v h' => v = (some (.int (bI (y.toInt ≤ x.toInt ∧ x.toInt ≤ z.toInt)))) ∧ h' = h) := by
  refine T_ev qm_M_in [.int x, .int y, .int z] rfl rfl (Nat.le_of_ble_eq_true rfl) ok_M_in (sm0_ok (d := d - 1) (by omega)) (fun _ => false) 200 (by omega) (fun K kK => ?_)
  simp only [ev_s, evN_ap, List.getElem?_cons_zero, List.getElem?_cons_succ, List.set_cons_zero, List.set_cons_succ, Bool.false_eq_true, ↓reduceIte, qrest_n, qrest_1, qrest_2, qrest_3, qrest_4, qrest_5, qrest_6, qtr_i, qtr_r, true_and, and_true, List.length_cons, List.length_nil, Int.cast_ofNat_Int, Int32.toInt_zero, false_implies, true_implies, not_false_eq_true, not_true_eq_false, Option.toList_some, Option.toList_none, List.cons_append, List.nil_append, Nat.reduceBEq, Nat.reduceAdd, Nat.reduceLT, Nat.zero_add, Int.reduceAdd, Int.reduceLE, Int.reduceLT, Int.reduceEq, and_self, Int.reduceNeg, qrok_i, qrok_b0, qrok_b1, qrok_bI, Option.some.injEq, Value.int.injEq, J_bI0, J_bI1, e_0, v_0, e_1, v_1, e_13, v_13, e_15, v_15, e_40, c_2, c_4, r_M_in_0, r_M_in_1, r_M_in_2, r_M_in_5, r_M_in_6, r_M_in_7, r_M_in_10, r_M_in_11, r_M_in_14, r_M_in_15]
  all_goals omega
theorem sk_M_in {l : Launch} {V : qV} {d : Nat} (hd : 1 ≤ d) (as : List Value) (h : qH) (P : Prop) (v : Option Value) (h' : qH) (e : sm_M_in as h = some (P, v, h')) (hp : P) : ∃ t, qms[169]? = some t ∧ T l V t (rm d) 0 0 as h (fun v' h'' => v' = v ∧ h'' = h') ∧ (t.2.2.2.2.2.2 ≠ 0 → ∃ x as', as = .ref x :: as' ∧ (hK h x).1 = t.2.2.2.2.2.1 ∧ t.2.2.2.2.2.1 < 10) := by
  unfold sm_M_in at e
  split at e
  · cases e
    exact ⟨_, qm_M_in, t_M_in hd hp, fun q => absurd rfl q⟩
  · cases e
noncomputable def sm_M_min (as : List Value) (h : qH) : Option (Prop × Option Value × qH) := match as with
  | [.int x, .int y] => some (True, (some (.int (mnI x y))), h)
  | _ => none
theorem sw_M_min {h : qH} {x y : Int32} : sm_M_min [.int x, .int y] h = some (True, (some (.int (mnI x y))), h) := nrfl rfl
set_option maxHeartbeats 2000000 in
set_option maxRecDepth 100000 in
theorem t_M_min {l : Launch} {V : qV} {d : Nat} (hd : 1 ≤ d) {h : qH} {x y : Int32} (hp : True) : T l V mi_M_min (rm d) 0 0 [.int x, .int y] h (fun v h' => v = (some (.int (mnI x y))) ∧ h' = h) := by
  refine T_ev qm_M_min [.int x, .int y] rfl rfl (Nat.le_of_ble_eq_true rfl) ok_M_min (sm0_ok (d := d - 1) (by omega)) (fun _ => false) 200 (by omega) (fun K kK => ?_)
  simp only [ev_s, evN_ap, List.getElem?_cons_zero, List.getElem?_cons_succ, List.set_cons_zero, List.set_cons_succ, Bool.false_eq_true, ↓reduceIte, qrest_n, qrest_1, qrest_2, qrest_3, qrest_4, qrest_5, qrest_6, qtr_i, qtr_r, true_and, and_true, List.length_cons, List.length_nil, Int.cast_ofNat_Int, Int32.toInt_zero, false_implies, true_implies, not_false_eq_true, not_true_eq_false, Option.toList_some, Option.toList_none, List.cons_append, List.nil_append, Nat.reduceBEq, Nat.reduceAdd, Nat.reduceLT, Nat.zero_add, Int.reduceAdd, Int.reduceLE, Int.reduceLT, Int.reduceEq, and_self, Int.reduceNeg, qrok_i, qrok_b0, qrok_b1, qrok_bI, Option.some.injEq, Value.int.injEq, J_bI0, J_bI1, e_1, v_1, e_13, v_13, e_15, v_15, e_40, c_3, r_M_min_0, r_M_min_1, r_M_min_2, r_M_min_5, r_M_min_6, r_M_min_9, r_M_min_10]
  unfold mnI
  refine ⟨fun a => ?_, fun a => ?_⟩
  · rw [if_neg (by omega)]
  · rw [if_pos (by omega)]
theorem sk_M_min {l : Launch} {V : qV} {d : Nat} (hd : 1 ≤ d) (as : List Value) (h : qH) (P : Prop) (v : Option Value) (h' : qH) (e : sm_M_min as h = some (P, v, h')) (hp : P) : ∃ t, qms[170]? = some t ∧ T l V t (rm d) 0 0 as h (fun v' h'' => v' = v ∧ h'' = h') ∧ (t.2.2.2.2.2.2 ≠ 0 → ∃ x as', as = .ref x :: as' ∧ (hK h x).1 = t.2.2.2.2.2.1 ∧ t.2.2.2.2.2.1 < 10) := by
  unfold sm_M_min at e
  split at e
  · cases e
    exact ⟨_, qm_M_min, t_M_min hd hp, fun q => absurd rfl q⟩
  · cases e
noncomputable def sm_M_max (as : List Value) (h : qH) : Option (Prop × Option Value × qH) := match as with
  | [.int x, .int y] => some (True, (some (.int (mxI x y))), h)
  | _ => none
theorem sw_M_max {h : qH} {x y : Int32} : sm_M_max [.int x, .int y] h = some (True, (some (.int (mxI x y))), h) := nrfl rfl
set_option maxHeartbeats 2000000 in
set_option maxRecDepth 100000 in
theorem t_M_max {l : Launch} {V : qV} {d : Nat} (hd : 1 ≤ d) {h : qH} {x y : Int32} (hp : True) : T l V mi_M_max (rm d) 0 0 [.int x, .int y] h (fun v h' => v = (some (.int (mxI x y))) ∧ h' = h) := by
  refine T_ev qm_M_max [.int x, .int y] rfl rfl (Nat.le_of_ble_eq_true rfl) ok_M_max (sm0_ok (d := d - 1) (by omega)) (fun _ => false) 200 (by omega) (fun K kK => ?_)
  simp only [ev_s, evN_ap, List.getElem?_cons_zero, List.getElem?_cons_succ, List.set_cons_zero, List.set_cons_succ, Bool.false_eq_true, ↓reduceIte, qrest_n, qrest_1, qrest_2, qrest_3, qrest_4, qrest_5, qrest_6, qtr_i, qtr_r, true_and, and_true, List.length_cons, List.length_nil, Int.cast_ofNat_Int, Int32.toInt_zero, false_implies, true_implies, not_false_eq_true, not_true_eq_false, Option.toList_some, Option.toList_none, List.cons_append, List.nil_append, Nat.reduceBEq, Nat.reduceAdd, Nat.reduceLT, Nat.zero_add, Int.reduceAdd, Int.reduceLE, Int.reduceLT, Int.reduceEq, and_self, Int.reduceNeg, qrok_i, qrok_b0, qrok_b1, qrok_bI, Option.some.injEq, Value.int.injEq, J_bI0, J_bI1, e_1, v_1, e_13, v_13, e_15, v_15, e_40, c_5, r_M_max_0, r_M_max_1, r_M_max_2, r_M_max_5, r_M_max_6, r_M_max_9, r_M_max_10]
  unfold mxI
  refine ⟨fun a => ?_, fun a => ?_⟩
  · rw [if_neg (by omega)]
  · rw [if_pos (by omega)]
theorem sk_M_max {l : Launch} {V : qV} {d : Nat} (hd : 1 ≤ d) (as : List Value) (h : qH) (P : Prop) (v : Option Value) (h' : qH) (e : sm_M_max as h = some (P, v, h')) (hp : P) : ∃ t, qms[171]? = some t ∧ T l V t (rm d) 0 0 as h (fun v' h'' => v' = v ∧ h'' = h') ∧ (t.2.2.2.2.2.2 ≠ 0 → ∃ x as', as = .ref x :: as' ∧ (hK h x).1 = t.2.2.2.2.2.1 ∧ t.2.2.2.2.2.1 < 10) := by
  unfold sm_M_max at e
  split at e
  · cases e
    exact ⟨_, qm_M_max, t_M_max hd hp, fun q => absurd rfl q⟩
  · cases e
noncomputable def sm_M_has (as : List Value) (h : qH) : Option (Prop × Option Value × qH) := match as with
  | [.int x, .int y] => some (True, (some (.int (bI (hasP x y)))), h)
  | _ => none
theorem sw_M_has {h : qH} {x y : Int32} : sm_M_has [.int x, .int y] h = some (True, (some (.int (bI (hasP x y)))), h) := nrfl rfl
set_option maxHeartbeats 2000000 in
set_option maxRecDepth 100000 in
theorem t_M_has {l : Launch} {V : qV} {d : Nat} (hd : 1 ≤ d) {h : qH} {x y : Int32} (hp : True) : T l V mi_M_has (rm d) 0 0 [.int x, .int y] h (fun v h' => v = (some (.int (bI (hasP x y)))) ∧ h' = h) := by
  refine T_ev qm_M_has [.int x, .int y] rfl rfl (Nat.le_of_ble_eq_true rfl) ok_M_has (sm0_ok (d := d - 1) (by omega)) (fun _ => false) 200 (by omega) (fun K kK => ?_)
  simp (disch := omega) only [ev_s, evN_ap, List.getElem?_cons_zero, List.getElem?_cons_succ, List.set_cons_zero, List.set_cons_succ, Bool.false_eq_true, ↓reduceIte, qrest_n, qrest_1, qrest_2, qrest_3, qrest_4, qrest_5, qrest_6, qtr_i, qtr_r, true_and, and_true, List.length_cons, List.length_nil, Int.cast_ofNat_Int, Int32.toInt_zero, false_implies, true_implies, not_false_eq_true, not_true_eq_false, Option.toList_some, Option.toList_none, List.cons_append, List.nil_append, Nat.reduceBEq, Nat.reduceAdd, Nat.reduceLT, Nat.zero_add, Int.reduceAdd, Int.reduceLE, Int.reduceLT, Int.reduceEq, and_self, Int.reduceNeg, qrok_i, qrok_b0, qrok_b1, qrok_bI, Option.some.injEq, Value.int.injEq, J_bI0, J_bI1, e_0, v_0, e_1, v_1, e_6, v_6, e_13, v_13, e_15, v_15, e_40, c_1, b_3, b_7, r_M_has_0, r_M_has_1, r_M_has_2, r_M_has_3, r_M_has_4, r_M_has_5, r_M_has_6, r_M_has_9, r_M_has_10, r_M_has_13, r_M_has_14, I_val, hasP]
  exact ⟨fun a => a, fun a => Classical.not_not.mp a⟩
theorem sk_M_has {l : Launch} {V : qV} {d : Nat} (hd : 1 ≤ d) (as : List Value) (h : qH) (P : Prop) (v : Option Value) (h' : qH) (e : sm_M_has as h = some (P, v, h')) (hp : P) : ∃ t, qms[172]? = some t ∧ T l V t (rm d) 0 0 as h (fun v' h'' => v' = v ∧ h'' = h') ∧ (t.2.2.2.2.2.2 ≠ 0 → ∃ x as', as = .ref x :: as' ∧ (hK h x).1 = t.2.2.2.2.2.1 ∧ t.2.2.2.2.2.1 < 10) := by
  unfold sm_M_has at e
  split at e
  · cases e
    exact ⟨_, qm_M_has, t_M_has hd hp, fun q => absurd rfl q⟩
  · cases e
noncomputable def sm_M_the (as : List Value) (h : qH) : Option (Prop × Option Value × qH) := match as with
  | [.ref 2198, .int x, .int y] => some (ShM h ∧ ndB x ∧ (0 ≤ y.toInt ∧ y.toInt ≤ 243), (some (.int (nA h x y.toInt))), h)
  | _ => none
theorem sw_M_the {h : qH} {x y : Int32} : sm_M_the [.ref 2198, .int x, .int y] h = some (ShM h ∧ ndB x ∧ (0 ≤ y.toInt ∧ y.toInt ≤ 243), (some (.int (nA h x y.toInt))), h) := nrfl rfl
set_option maxHeartbeats 2000000 in
set_option maxRecDepth 100000 in
theorem t_M_the {l : Launch} {V : qV} {d : Nat} (hd : 1 ≤ d) {h : qH} {x y : Int32} (hp : ShM h ∧ ndB x ∧ (0 ≤ y.toInt ∧ y.toInt ≤ 243)) : T l V mi_M_the (rm d) 0 0 [.ref 2198, .int x, .int y] h (fun v h' => v = (some (.int (nA h x y.toInt))) ∧ h' = h) := by
  refine T_ev qm_M_the [.ref 2198, .int x, .int y] rfl rfl (Nat.le_of_ble_eq_true rfl) ok_M_the (sm0_ok (d := d - 1) (by omega)) (fun _ => false) 200 (by omega) (fun K kK => ?_)
  obtain ⟨hs, ⟨p1, p2⟩, p3, p4⟩ := hp
  obtain ⟨a, a1, a2, rfl⟩ := I_all x
  obtain ⟨b, b1, b2, rfl⟩ := I_all y
  rw [I_val a1 a2] at p1 p2
  rw [I_val b1 b2] at p3 p4
  simp (disch := omega) only [ev_s, evN_ap, List.getElem?_cons_zero, List.getElem?_cons_succ, List.set_cons_zero, List.set_cons_succ, Bool.false_eq_true, ↓reduceIte, qrest_n, qrest_1, qrest_2, qrest_3, qrest_4, qrest_5, qrest_6, qtr_i, qtr_r, true_and, and_true, List.length_cons, List.length_nil, Int.cast_ofNat_Int, Int32.toInt_zero, false_implies, true_implies, not_false_eq_true, not_true_eq_false, Option.toList_some, Option.toList_none, List.cons_append, List.nil_append, Nat.reduceBEq, Nat.reduceAdd, Nat.reduceLT, Nat.zero_add, Int.reduceAdd, Int.reduceLE, Int.reduceLT, Int.reduceEq, and_self, Int.reduceNeg, qrok_i, qrok_b0, qrok_b1, qrok_bI, Option.some.injEq, Value.int.injEq, J_bI0, J_bI1, e_0, v_0, e_1, v_1, e_2, v_2, e_6, v_6, e_20, v_20, e_24, v_24, e_40, b_0, b_2, r_M_the_0, r_M_the_1, r_M_the_4, r_M_the_7, r_M_the_8, r_M_the_9, r_M_the_10, r_M_the_11, r_M_the_12, (shM_o hs), (shM_r_now hs), (shM_k_now hs), I_add, I_mul, I_val, nA, inB]
  all_goals omega
theorem sk_M_the {l : Launch} {V : qV} {d : Nat} (hd : 1 ≤ d) (as : List Value) (h : qH) (P : Prop) (v : Option Value) (h' : qH) (e : sm_M_the as h = some (P, v, h')) (hp : P) : ∃ t, qms[176]? = some t ∧ T l V t (rm d) 0 0 as h (fun v' h'' => v' = v ∧ h'' = h') ∧ (t.2.2.2.2.2.2 ≠ 0 → ∃ x as', as = .ref x :: as' ∧ (hK h x).1 = t.2.2.2.2.2.1 ∧ t.2.2.2.2.2.1 < 10) := by
  unfold sm_M_the at e
  split at e
  · cases e
    exact ⟨_, qm_M_the, t_M_the hd hp, fun _ => ⟨2198, _, rfl, by rw [shM_o hp.1], by decide⟩⟩
  · cases e
noncomputable def sm_M_sets (as : List Value) (h : qH) : Option (Prop × Option Value × qH) := match as with
  | [.ref 2198, .int x, .int y, .int z] => some (ShM h ∧ ndB x ∧ (0 ≤ y.toInt ∧ y.toInt ≤ 243), none, setM h 2199 (244 * x.toInt + y.toInt) z)
  | _ => none
theorem sw_M_sets {h : qH} {x y z : Int32} : sm_M_sets [.ref 2198, .int x, .int y, .int z] h = some (ShM h ∧ ndB x ∧ (0 ≤ y.toInt ∧ y.toInt ≤ 243), none, setM h 2199 (244 * x.toInt + y.toInt) z) := nrfl rfl
set_option maxHeartbeats 2000000 in
set_option maxRecDepth 100000 in
theorem t_M_sets {l : Launch} {V : qV} {d : Nat} (hd : 1 ≤ d) {h : qH} {x y z : Int32} (hp : ShM h ∧ ndB x ∧ (0 ≤ y.toInt ∧ y.toInt ≤ 243)) : T l V mi_M_sets (rm d) 0 0 [.ref 2198, .int x, .int y, .int z] h (fun v h' => v = none ∧ h' = setM h 2199 (244 * x.toInt + y.toInt) z) := by
  refine T_ev qm_M_sets [.ref 2198, .int x, .int y, .int z] rfl rfl (Nat.le_of_ble_eq_true rfl) ok_M_sets (sm0_ok (d := d - 1) (by omega)) (fun _ => false) 200 (by omega) (fun K kK => ?_)
  obtain ⟨hs, ⟨p1, p2⟩, p3, p4⟩ := hp
  obtain ⟨a, a1, a2, rfl⟩ := I_all x
  obtain ⟨b, b1, b2, rfl⟩ := I_all y
  rw [I_val a1 a2] at p1 p2
  rw [I_val b1 b2] at p3 p4
  simp (disch := omega) only [ev_s, evN_ap, List.getElem?_cons_zero, List.getElem?_cons_succ, List.set_cons_zero, List.set_cons_succ, Bool.false_eq_true, ↓reduceIte, qrest_n, qrest_1, qrest_2, qrest_3, qrest_4, qrest_5, qrest_6, qtr_i, qtr_r, true_and, and_true, List.length_cons, List.length_nil, Int.cast_ofNat_Int, Int32.toInt_zero, false_implies, true_implies, not_false_eq_true, not_true_eq_false, Option.toList_some, Option.toList_none, List.cons_append, List.nil_append, Nat.reduceBEq, Nat.reduceAdd, Nat.reduceLT, Nat.zero_add, Int.reduceAdd, Int.reduceLE, Int.reduceLT, Int.reduceEq, and_self, Int.reduceNeg, qrok_i, qrok_b0, qrok_b1, qrok_bI, Option.some.injEq, Value.int.injEq, J_bI0, J_bI1, e_0, v_0, e_1, v_1, e_2, v_2, e_6, v_6, e_20, v_20, e_25, v_25, e_41, b_0, b_2, r_M_sets_0, r_M_sets_1, r_M_sets_4, r_M_sets_7, r_M_sets_8, r_M_sets_9, r_M_sets_10, r_M_sets_11, r_M_sets_12, r_M_sets_13, (shM_o hs), (shM_r_now hs), (shM_k_now hs), I_add, I_mul, I_val, inB]
  all_goals omega
theorem sk_M_sets {l : Launch} {V : qV} {d : Nat} (hd : 1 ≤ d) (as : List Value) (h : qH) (P : Prop) (v : Option Value) (h' : qH) (e : sm_M_sets as h = some (P, v, h')) (hp : P) : ∃ t, qms[177]? = some t ∧ T l V t (rm d) 0 0 as h (fun v' h'' => v' = v ∧ h'' = h') ∧ (t.2.2.2.2.2.2 ≠ 0 → ∃ x as', as = .ref x :: as' ∧ (hK h x).1 = t.2.2.2.2.2.1 ∧ t.2.2.2.2.2.1 < 10) := by
  unfold sm_M_sets at e
  split at e
  · cases e
    exact ⟨_, qm_M_sets, t_M_sets hd hp, fun _ => ⟨2198, _, rfl, by rw [shM_o hp.1], by decide⟩⟩
  · cases e
noncomputable def sm_M_breaks (as : List Value) (h : qH) : Option (Prop × Option Value × qH) := match as with
  | [.ref 2198] => some (ShM h ∧ True, none, setM h 2199 11136 (hM h 2199 11136 + Int32.ofInt 1))
  | _ => none
theorem sw_M_breaks {h : qH} : sm_M_breaks [.ref 2198] h = some (ShM h ∧ True, none, setM h 2199 11136 (hM h 2199 11136 + Int32.ofInt 1)) := nrfl rfl
set_option maxHeartbeats 2000000 in
set_option maxRecDepth 100000 in
theorem t_M_breaks {l : Launch} {V : qV} {d : Nat} (hd : 1 ≤ d) {h : qH} (hp : ShM h ∧ True) : T l V mi_M_breaks (rm d) 0 0 [.ref 2198] h (fun v h' => v = none ∧ h' = setM h 2199 11136 (hM h 2199 11136 + Int32.ofInt 1)) := by
  refine T_ev qm_M_breaks [.ref 2198] rfl rfl (Nat.le_of_ble_eq_true rfl) ok_M_breaks (sm0_ok (d := d - 1) (by omega)) (fun _ => false) 200 (by omega) (fun K kK => ?_)
  obtain ⟨hs, -⟩ := hp
  simp (disch := omega) only [ev_s, evN_ap, List.getElem?_cons_zero, List.getElem?_cons_succ, List.set_cons_zero, List.set_cons_succ, Bool.false_eq_true, ↓reduceIte, qrest_n, qrest_1, qrest_2, qrest_3, qrest_4, qrest_5, qrest_6, qtr_i, qtr_r, true_and, and_true, List.length_cons, List.length_nil, Int.cast_ofNat_Int, Int32.toInt_zero, false_implies, true_implies, not_false_eq_true, not_true_eq_false, Option.toList_some, Option.toList_none, List.cons_append, List.nil_append, Nat.reduceBEq, Nat.reduceAdd, Nat.reduceLT, Nat.zero_add, Int.reduceAdd, Int.reduceLE, Int.reduceLT, Int.reduceEq, and_self, Int.reduceNeg, qrok_i, qrok_b0, qrok_b1, qrok_bI, Option.some.injEq, Value.int.injEq, J_bI0, J_bI1, e_0, v_0, e_2, v_2, e_6, v_6, e_20, v_20, e_24, v_24, e_25, v_25, e_41, b_0, r_M_breaks_0, r_M_breaks_1, r_M_breaks_4, r_M_breaks_7, r_M_breaks_8, r_M_breaks_11, r_M_breaks_14, r_M_breaks_15, r_M_breaks_16, r_M_breaks_17, r_M_breaks_18, (shM_o hs), (shM_r_now hs), (shM_k_now hs), I_val, inB]
  all_goals omega
theorem sk_M_breaks {l : Launch} {V : qV} {d : Nat} (hd : 1 ≤ d) (as : List Value) (h : qH) (P : Prop) (v : Option Value) (h' : qH) (e : sm_M_breaks as h = some (P, v, h')) (hp : P) : ∃ t, qms[237]? = some t ∧ T l V t (rm d) 0 0 as h (fun v' h'' => v' = v ∧ h'' = h') ∧ (t.2.2.2.2.2.2 ≠ 0 → ∃ x as', as = .ref x :: as' ∧ (hK h x).1 = t.2.2.2.2.2.1 ∧ t.2.2.2.2.2.1 < 10) := by
  unfold sm_M_breaks at e
  split at e
  · cases e
    exact ⟨_, qm_M_breaks, t_M_breaks hd hp, fun _ => ⟨2198, _, rfl, by rw [shM_o hp.1], by decide⟩⟩
  · cases e
noncomputable def smA : qSm := fun a as h => if a = 169 then sm_M_in as h else if a = 170 then sm_M_min as h else if a = 171 then sm_M_max as h else if a = 172 then sm_M_has as h else if a = 176 then sm_M_the as h else if a = 177 then sm_M_sets as h else if a = 237 then sm_M_breaks as h else sm0 a as h
theorem smA_ok {l : Launch} {V : qV} {d : Nat} (hd : 1 ≤ d) : smok l V d smA := by
  intro a as h P v h' e hp
  unfold smA at e
  split at e
  · rename_i ha; subst ha; exact sk_M_in (by omega) _ _ _ _ _ e hp
  split at e
  · rename_i ha; subst ha; exact sk_M_min (by omega) _ _ _ _ _ e hp
  split at e
  · rename_i ha; subst ha; exact sk_M_max (by omega) _ _ _ _ _ e hp
  split at e
  · rename_i ha; subst ha; exact sk_M_has (by omega) _ _ _ _ _ e hp
  split at e
  · rename_i ha; subst ha; exact sk_M_the (by omega) _ _ _ _ _ e hp
  split at e
  · rename_i ha; subst ha; exact sk_M_sets (by omega) _ _ _ _ _ e hp
  split at e
  · rename_i ha; subst ha; exact sk_M_breaks (by omega) _ _ _ _ _ e hp
  exact sm0_ok (d := d) (Nat.zero_le _) _ _ _ _ _ _ e hp
theorem smA_169 {as : List Value} {h : qH} : smA 169 as h = sm_M_in as h := nrfl (by simp [smA])
theorem smA_170 {as : List Value} {h : qH} : smA 170 as h = sm_M_min as h := nrfl (by simp [smA])
theorem smA_171 {as : List Value} {h : qH} : smA 171 as h = sm_M_max as h := nrfl (by simp [smA])
theorem smA_172 {as : List Value} {h : qH} : smA 172 as h = sm_M_has as h := nrfl (by simp [smA])
theorem smA_176 {as : List Value} {h : qH} : smA 176 as h = sm_M_the as h := nrfl (by simp [smA])
theorem smA_177 {as : List Value} {h : qH} : smA 177 as h = sm_M_sets as h := nrfl (by simp [smA])
theorem smA_237 {as : List Value} {h : qH} : smA 237 as h = sm_M_breaks as h := nrfl (by simp [smA])
theorem smA_no {k : Nat} {as : List Value} {h : qH} (hk : List.elem k [169, 170, 171, 172, 176, 177, 237] = false) : smA k as h = none := by
  simp only [List.elem_eq_mem, List.mem_cons, List.not_mem_nil, or_false, not_or, decide_eq_false_iff_not] at hk
  simp [hk, smA, sm0]
noncomputable def sm_M_isNode (as : List Value) (h : qH) : Option (Prop × Option Value × qH) := match as with
  | [.int x] => some (True, (some (.int (bI (ndB x)))), h)
  | _ => none
theorem sw_M_isNode {h : qH} {x : Int32} : sm_M_isNode [.int x] h = some (True, (some (.int (bI (ndB x)))), h) := nrfl rfl
set_option maxHeartbeats 2000000 in
set_option maxRecDepth 100000 in
theorem t_M_isNode {l : Launch} {V : qV} {d : Nat} (hd : 2 ≤ d) {h : qH} {x : Int32} (hp : True) : T l V mi_M_isNode (rm d) 0 0 [.int x] h (fun v h' => v = (some (.int (bI (ndB x)))) ∧ h' = h) := by
  refine T_ev qm_M_isNode [.int x] rfl rfl (Nat.le_of_ble_eq_true rfl) ok_M_isNode (smA_ok (d := d - 1) (by omega)) (fun _ => false) 200 (by omega) (fun K kK => ?_)
  simp (disch := omega) only [ev_s, evN_ap, List.getElem?_cons_zero, List.getElem?_cons_succ, List.set_cons_zero, List.set_cons_succ, Bool.false_eq_true, ↓reduceIte, qrest_n, qrest_1, qrest_2, qrest_3, qrest_4, qrest_5, qrest_6, qtr_i, qtr_r, true_and, and_true, List.length_cons, List.length_nil, Int.cast_ofNat_Int, Int32.toInt_zero, false_implies, true_implies, not_false_eq_true, not_true_eq_false, Option.toList_some, Option.toList_none, List.cons_append, List.nil_append, Nat.reduceBEq, Nat.reduceAdd, Nat.reduceLT, Nat.zero_add, Int.reduceAdd, Int.reduceLE, Int.reduceLT, Int.reduceEq, and_self, Int.reduceNeg, qrok_i, qrok_b0, qrok_b1, qrok_bI, Option.some.injEq, Value.int.injEq, J_bI0, J_bI1, e_0, v_0, e_1, v_1, e_40, e_45, qspl_z, qspl_s, evC_s, evD_none, evD_v, evD_s, smA_169, sw_M_in, r_M_isNode_0, r_M_isNode_1, r_M_isNode_2, r_M_isNode_4, r_M_isNode_7, I_val, inB, and_self, Int.reduceLE, Int.reduceLT, ndB]
  all_goals (clear kK; first | omega | grind)
theorem sk_M_isNode {l : Launch} {V : qV} {d : Nat} (hd : 2 ≤ d) (as : List Value) (h : qH) (P : Prop) (v : Option Value) (h' : qH) (e : sm_M_isNode as h = some (P, v, h')) (hp : P) : ∃ t, qms[175]? = some t ∧ T l V t (rm d) 0 0 as h (fun v' h'' => v' = v ∧ h'' = h') ∧ (t.2.2.2.2.2.2 ≠ 0 → ∃ x as', as = .ref x :: as' ∧ (hK h x).1 = t.2.2.2.2.2.1 ∧ t.2.2.2.2.2.1 < 10) := by
  unfold sm_M_isNode at e
  split at e
  · cases e
    exact ⟨_, qm_M_isNode, t_M_isNode hd hp, fun q => absurd rfl q⟩
  · cases e
noncomputable def sm_M_lastOf (as : List Value) (h : qH) : Option (Prop × Option Value × qH) := match as with
  | [.ref 2198, .int x] => some (ShM h ∧ ndB x, (some (.int (nA h x 4 + nA h x 8))), h)
  | _ => none
theorem sw_M_lastOf {h : qH} {x : Int32} : sm_M_lastOf [.ref 2198, .int x] h = some (ShM h ∧ ndB x, (some (.int (nA h x 4 + nA h x 8))), h) := nrfl rfl
set_option maxHeartbeats 2000000 in
set_option maxRecDepth 100000 in
theorem t_M_lastOf {l : Launch} {V : qV} {d : Nat} (hd : 2 ≤ d) {h : qH} {x : Int32} (hp : ShM h ∧ ndB x) : T l V mi_M_lastOf (rm d) 0 0 [.ref 2198, .int x] h (fun v h' => v = (some (.int (nA h x 4 + nA h x 8))) ∧ h' = h) := by
  refine T_ev qm_M_lastOf [.ref 2198, .int x] rfl rfl (Nat.le_of_ble_eq_true rfl) ok_M_lastOf (smA_ok (d := d - 1) (by omega)) (fun _ => false) 200 (by omega) (fun K kK => ?_)
  obtain ⟨hs, hp⟩ := hp
  simp (disch := omega) only [ev_s, evN_ap, List.getElem?_cons_zero, List.getElem?_cons_succ, List.set_cons_zero, List.set_cons_succ, Bool.false_eq_true, ↓reduceIte, qrest_n, qrest_1, qrest_2, qrest_3, qrest_4, qrest_5, qrest_6, qtr_i, qtr_r, true_and, and_true, List.length_cons, List.length_nil, Int.cast_ofNat_Int, Int32.toInt_zero, false_implies, true_implies, not_false_eq_true, not_true_eq_false, Option.toList_some, Option.toList_none, List.cons_append, List.nil_append, Nat.reduceBEq, Nat.reduceAdd, Nat.reduceLT, Nat.zero_add, Int.reduceAdd, Int.reduceLE, Int.reduceLT, Int.reduceEq, and_self, Int.reduceNeg, qrok_i, qrok_b0, qrok_b1, qrok_bI, Option.some.injEq, Value.int.injEq, J_bI0, J_bI1, e_0, v_0, e_1, v_1, e_2, v_2, e_6, v_6, e_40, e_44, qspl_z, qspl_s, evC_s, evD_none, evD_v, evD_s, b_0, smA_176, sw_M_the, r_M_lastOf_0, r_M_lastOf_1, r_M_lastOf_2, r_M_lastOf_3, r_M_lastOf_6, r_M_lastOf_7, r_M_lastOf_8, r_M_lastOf_10, r_M_lastOf_13, r_M_lastOf_14, (shM_o hs), (shM_r_now hs), (shM_k_now hs), I_val, inB, hs, hp, ShM_set, and_self, Int.reduceLE, Int.reduceLT, Int.reduceEq]
  all_goals (clear kK; first | omega | grind)
theorem sk_M_lastOf {l : Launch} {V : qV} {d : Nat} (hd : 2 ≤ d) (as : List Value) (h : qH) (P : Prop) (v : Option Value) (h' : qH) (e : sm_M_lastOf as h = some (P, v, h')) (hp : P) : ∃ t, qms[180]? = some t ∧ T l V t (rm d) 0 0 as h (fun v' h'' => v' = v ∧ h'' = h') ∧ (t.2.2.2.2.2.2 ≠ 0 → ∃ x as', as = .ref x :: as' ∧ (hK h x).1 = t.2.2.2.2.2.1 ∧ t.2.2.2.2.2.1 < 10) := by
  unfold sm_M_lastOf at e
  split at e
  · cases e
    exact ⟨_, qm_M_lastOf, t_M_lastOf hd hp, fun _ => ⟨2198, _, rfl, by rw [shM_o hp.1], by decide⟩⟩
  · cases e
noncomputable def sm_M_logPlace (as : List Value) (h : qH) : Option (Prop × Option Value × qH) := match as with
  | [.ref 2198, .int x, .int y] => some (ShM h ∧ ndB x, (some (.int (lpI h x y))), h)
  | _ => none
theorem sw_M_logPlace {h : qH} {x y : Int32} : sm_M_logPlace [.ref 2198, .int x, .int y] h = some (ShM h ∧ ndB x, (some (.int (lpI h x y))), h) := nrfl rfl
set_option maxHeartbeats 2000000 in
set_option maxRecDepth 100000 in
theorem t_M_logPlace {l : Launch} {V : qV} {d : Nat} (hd : 2 ≤ d) {h : qH} {x y : Int32} (hp : ShM h ∧ ndB x) : T l V mi_M_logPlace (rm d) 0 0 [.ref 2198, .int x, .int y] h (fun v h' => v = (some (.int (lpI h x y))) ∧ h' = h) := by
  refine T_ev qm_M_logPlace [.ref 2198, .int x, .int y] rfl rfl (Nat.le_of_ble_eq_true rfl) ok_M_logPlace (smA_ok (d := d - 1) (by omega)) (fun _ => false) 200 (by omega) (fun K kK => ?_)
  obtain ⟨hs, hp⟩ := hp
  simp (disch := omega) only [ev_s, evN_ap, List.getElem?_cons_zero, List.getElem?_cons_succ, List.set_cons_zero, List.set_cons_succ, Bool.false_eq_true, ↓reduceIte, qrest_n, qrest_1, qrest_2, qrest_3, qrest_4, qrest_5, qrest_6, qtr_i, qtr_r, true_and, and_true, List.length_cons, List.length_nil, Int.cast_ofNat_Int, Int32.toInt_zero, false_implies, true_implies, not_false_eq_true, not_true_eq_false, Option.toList_some, Option.toList_none, List.cons_append, List.nil_append, Nat.reduceBEq, Nat.reduceAdd, Nat.reduceLT, Nat.zero_add, Int.reduceAdd, Int.reduceLE, Int.reduceLT, Int.reduceEq, and_self, Int.reduceNeg, qrok_i, qrok_b0, qrok_b1, qrok_bI, Option.some.injEq, Value.int.injEq, J_bI0, J_bI1, e_0, v_0, e_1, v_1, e_2, v_2, e_6, v_6, e_40, e_44, qspl_z, qspl_s, evC_s, evD_none, evD_v, evD_s, b_0, b_1, b_2, smA_176, sw_M_the, r_M_logPlace_0, r_M_logPlace_3, r_M_logPlace_4, r_M_logPlace_5, r_M_logPlace_7, r_M_logPlace_8, r_M_logPlace_9, r_M_logPlace_10, r_M_logPlace_11, r_M_logPlace_12, r_M_logPlace_13, r_M_logPlace_16, r_M_logPlace_17, r_M_logPlace_18, r_M_logPlace_19, r_M_logPlace_20, r_M_logPlace_21, (shM_o hs), (shM_r_now hs), (shM_k_now hs), I_val, inB, hs, hp, ShM_set, and_self, Int.reduceLE, Int.reduceLT, Int.reduceEq, lpI]
  all_goals (clear kK; first | omega | grind)
theorem sk_M_logPlace {l : Launch} {V : qV} {d : Nat} (hd : 2 ≤ d) (as : List Value) (h : qH) (P : Prop) (v : Option Value) (h' : qH) (e : sm_M_logPlace as h = some (P, v, h')) (hp : P) : ∃ t, qms[181]? = some t ∧ T l V t (rm d) 0 0 as h (fun v' h'' => v' = v ∧ h'' = h') ∧ (t.2.2.2.2.2.2 ≠ 0 → ∃ x as', as = .ref x :: as' ∧ (hK h x).1 = t.2.2.2.2.2.1 ∧ t.2.2.2.2.2.1 < 10) := by
  unfold sm_M_logPlace at e
  split at e
  · cases e
    exact ⟨_, qm_M_logPlace, t_M_logPlace hd hp, fun _ => ⟨2198, _, rfl, by rw [shM_o hp.1], by decide⟩⟩
  · cases e
noncomputable def sm_M_loses (as : List Value) (h : qH) : Option (Prop × Option Value × qH) := match as with
  | [.ref 2198] => some (ShM h ∧ True, none, setM h 2199 11137 (mnI (Int32.ofInt 99999) (hM h 2199 11137 + Int32.ofInt 1)))
  | _ => none
theorem sw_M_loses {h : qH} : sm_M_loses [.ref 2198] h = some (ShM h ∧ True, none, setM h 2199 11137 (mnI (Int32.ofInt 99999) (hM h 2199 11137 + Int32.ofInt 1))) := nrfl rfl
set_option maxHeartbeats 2000000 in
set_option maxRecDepth 100000 in
theorem t_M_loses {l : Launch} {V : qV} {d : Nat} (hd : 2 ≤ d) {h : qH} (hp : ShM h ∧ True) : T l V mi_M_loses (rm d) 0 0 [.ref 2198] h (fun v h' => v = none ∧ h' = setM h 2199 11137 (mnI (Int32.ofInt 99999) (hM h 2199 11137 + Int32.ofInt 1))) := by
  refine T_ev qm_M_loses [.ref 2198] rfl rfl (Nat.le_of_ble_eq_true rfl) ok_M_loses (smA_ok (d := d - 1) (by omega)) (fun _ => false) 200 (by omega) (fun K kK => ?_)
  obtain ⟨hs, hp⟩ := hp
  simp (disch := omega) only [ev_s, evN_ap, List.getElem?_cons_zero, List.getElem?_cons_succ, List.set_cons_zero, List.set_cons_succ, Bool.false_eq_true, ↓reduceIte, qrest_n, qrest_1, qrest_2, qrest_3, qrest_4, qrest_5, qrest_6, qtr_i, qtr_r, true_and, and_true, List.length_cons, List.length_nil, Int.cast_ofNat_Int, Int32.toInt_zero, false_implies, true_implies, not_false_eq_true, not_true_eq_false, Option.toList_some, Option.toList_none, List.cons_append, List.nil_append, Nat.reduceBEq, Nat.reduceAdd, Nat.reduceLT, Nat.zero_add, Int.reduceAdd, Int.reduceLE, Int.reduceLT, Int.reduceEq, and_self, Int.reduceNeg, qrok_i, qrok_b0, qrok_b1, qrok_bI, Option.some.injEq, Value.int.injEq, J_bI0, J_bI1, e_0, v_0, e_2, v_2, e_6, v_6, e_20, v_20, e_24, v_24, e_25, v_25, e_41, e_45, qspl_z, qspl_s, evC_s, evD_none, evD_v, evD_s, b_0, smA_170, sw_M_min, r_M_loses_0, r_M_loses_1, r_M_loses_4, r_M_loses_7, r_M_loses_10, r_M_loses_11, r_M_loses_14, r_M_loses_17, r_M_loses_18, r_M_loses_19, r_M_loses_20, r_M_loses_23, r_M_loses_24, (shM_o hs), (shM_r_now hs), (shM_k_now hs), I_val, inB, hs, hp, ShM_set, and_self, Int.reduceLE, Int.reduceLT, Int.reduceEq]
  all_goals (clear kK; first | omega | grind)
theorem sk_M_loses {l : Launch} {V : qV} {d : Nat} (hd : 2 ≤ d) (as : List Value) (h : qH) (P : Prop) (v : Option Value) (h' : qH) (e : sm_M_loses as h = some (P, v, h')) (hp : P) : ∃ t, qms[225]? = some t ∧ T l V t (rm d) 0 0 as h (fun v' h'' => v' = v ∧ h'' = h') ∧ (t.2.2.2.2.2.2 ≠ 0 → ∃ x as', as = .ref x :: as' ∧ (hK h x).1 = t.2.2.2.2.2.1 ∧ t.2.2.2.2.2.1 < 10) := by
  unfold sm_M_loses at e
  split at e
  · cases e
    exact ⟨_, qm_M_loses, t_M_loses hd hp, fun _ => ⟨2198, _, rfl, by rw [shM_o hp.1], by decide⟩⟩
  · cases e
noncomputable def sm_M_areLinked (as : List Value) (h : qH) : Option (Prop × Option Value × qH) := match as with
  | [.ref 2198, .int x, .int y] => some (ShM h ∧ ndB x, (some (.int (bI (¬ hasP (hM h 2199 (11124 + x.toInt)) y)))), h)
  | _ => none
theorem sw_M_areLinked {h : qH} {x y : Int32} : sm_M_areLinked [.ref 2198, .int x, .int y] h = some (ShM h ∧ ndB x, (some (.int (bI (¬ hasP (hM h 2199 (11124 + x.toInt)) y)))), h) := nrfl rfl
set_option maxHeartbeats 2000000 in
set_option maxRecDepth 100000 in
theorem t_M_areLinked {l : Launch} {V : qV} {d : Nat} (hd : 2 ≤ d) {h : qH} {x y : Int32} (hp : ShM h ∧ ndB x) : T l V mi_M_areLinked (rm d) 0 0 [.ref 2198, .int x, .int y] h (fun v h' => v = (some (.int (bI (¬ hasP (hM h 2199 (11124 + x.toInt)) y)))) ∧ h' = h) := by
  refine T_ev qm_M_areLinked [.ref 2198, .int x, .int y] rfl rfl (Nat.le_of_ble_eq_true rfl) ok_M_areLinked (smA_ok (d := d - 1) (by omega)) (fun _ => false) 200 (by omega) (fun K kK => ?_)
  obtain ⟨hs, p1, p2⟩ := hp
  obtain ⟨a, a1, a2, rfl⟩ := I_all x
  rw [I_val a1 a2] at p1 p2
  simp (disch := omega) only [ev_s, evN_ap, List.getElem?_cons_zero, List.getElem?_cons_succ, List.set_cons_zero, List.set_cons_succ, Bool.false_eq_true, ↓reduceIte, qrest_n, qrest_1, qrest_2, qrest_3, qrest_4, qrest_5, qrest_6, qtr_i, qtr_r, true_and, and_true, List.length_cons, List.length_nil, Int.cast_ofNat_Int, Int32.toInt_zero, false_implies, true_implies, not_false_eq_true, not_true_eq_false, Option.toList_some, Option.toList_none, List.cons_append, List.nil_append, Nat.reduceBEq, Nat.reduceAdd, Nat.reduceLT, Nat.zero_add, Int.reduceAdd, Int.reduceLE, Int.reduceLT, Int.reduceEq, and_self, Int.reduceNeg, qrok_i, qrok_b0, qrok_b1, qrok_bI, Option.some.injEq, Value.int.injEq, J_bI0, J_bI1, e_0, v_0, e_1, v_1, e_2, v_2, e_6, v_6, e_13, v_13, e_14, v_14, e_20, v_20, e_24, v_24, e_40, e_45, qspl_z, qspl_s, evC_s, evD_none, evD_v, evD_s, c_1, b_0, smA_172, sw_M_has, r_M_areLinked_0, r_M_areLinked_1, r_M_areLinked_4, r_M_areLinked_7, r_M_areLinked_8, r_M_areLinked_9, r_M_areLinked_10, r_M_areLinked_11, r_M_areLinked_14, r_M_areLinked_17, r_M_areLinked_18, r_M_areLinked_21, r_M_areLinked_22, (shM_o hs), (shM_r_now hs), (shM_k_now hs), I_add, I_val, inB, bI_z]
  refine ⟨by omega, fun a => a, fun a => Classical.not_not.mp a⟩
theorem sk_M_areLinked {l : Launch} {V : qV} {d : Nat} (hd : 2 ≤ d) (as : List Value) (h : qH) (P : Prop) (v : Option Value) (h' : qH) (e : sm_M_areLinked as h = some (P, v, h')) (hp : P) : ∃ t, qms[245]? = some t ∧ T l V t (rm d) 0 0 as h (fun v' h'' => v' = v ∧ h'' = h') ∧ (t.2.2.2.2.2.2 ≠ 0 → ∃ x as', as = .ref x :: as' ∧ (hK h x).1 = t.2.2.2.2.2.1 ∧ t.2.2.2.2.2.1 < 10) := by
  unfold sm_M_areLinked at e
  split at e
  · cases e
    exact ⟨_, qm_M_areLinked, t_M_areLinked hd hp, fun _ => ⟨2198, _, rfl, by rw [shM_o hp.1], by decide⟩⟩
  · cases e
noncomputable def smB : qSm := fun a as h => if a = 175 then sm_M_isNode as h else if a = 180 then sm_M_lastOf as h else if a = 181 then sm_M_logPlace as h else if a = 225 then sm_M_loses as h else if a = 245 then sm_M_areLinked as h else smA a as h
theorem smB_ok {l : Launch} {V : qV} {d : Nat} (hd : 2 ≤ d) : smok l V d smB := by
  intro a as h P v h' e hp
  unfold smB at e
  split at e
  · rename_i ha; subst ha; exact sk_M_isNode (by omega) _ _ _ _ _ e hp
  split at e
  · rename_i ha; subst ha; exact sk_M_lastOf (by omega) _ _ _ _ _ e hp
  split at e
  · rename_i ha; subst ha; exact sk_M_logPlace (by omega) _ _ _ _ _ e hp
  split at e
  · rename_i ha; subst ha; exact sk_M_loses (by omega) _ _ _ _ _ e hp
  split at e
  · rename_i ha; subst ha; exact sk_M_areLinked (by omega) _ _ _ _ _ e hp
  exact smA_ok (by omega) _ _ _ _ _ _ e hp
theorem smB_175 {as : List Value} {h : qH} : smB 175 as h = sm_M_isNode as h := nrfl (by simp [smB, smA])
theorem smB_180 {as : List Value} {h : qH} : smB 180 as h = sm_M_lastOf as h := nrfl (by simp [smB, smA])
theorem smB_181 {as : List Value} {h : qH} : smB 181 as h = sm_M_logPlace as h := nrfl (by simp [smB, smA])
theorem smB_225 {as : List Value} {h : qH} : smB 225 as h = sm_M_loses as h := nrfl (by simp [smB, smA])
theorem smB_245 {as : List Value} {h : qH} : smB 245 as h = sm_M_areLinked as h := nrfl (by simp [smB, smA])
theorem smB_169 {as : List Value} {h : qH} : smB 169 as h = sm_M_in as h := nrfl (by simp [smB, smA])
theorem smB_170 {as : List Value} {h : qH} : smB 170 as h = sm_M_min as h := nrfl (by simp [smB, smA])
theorem smB_171 {as : List Value} {h : qH} : smB 171 as h = sm_M_max as h := nrfl (by simp [smB, smA])
theorem smB_172 {as : List Value} {h : qH} : smB 172 as h = sm_M_has as h := nrfl (by simp [smB, smA])
theorem smB_176 {as : List Value} {h : qH} : smB 176 as h = sm_M_the as h := nrfl (by simp [smB, smA])
theorem smB_177 {as : List Value} {h : qH} : smB 177 as h = sm_M_sets as h := nrfl (by simp [smB, smA])
theorem smB_237 {as : List Value} {h : qH} : smB 237 as h = sm_M_breaks as h := nrfl (by simp [smB, smA])
theorem smB_no {k : Nat} {as : List Value} {h : qH} (hk : List.elem k [175, 180, 181, 225, 245, 169, 170, 171, 172, 176, 177, 237] = false) : smB k as h = none := by
  simp only [List.elem_eq_mem, List.mem_cons, List.not_mem_nil, or_false, not_or, decide_eq_false_iff_not] at hk
  simp [hk, smB, smA, sm0]
noncomputable def sm_M_isUp (as : List Value) (h : qH) : Option (Prop × Option Value × qH) := match as with
  | [.ref 2198, .int x] => some (ShM h ∧ True, (some (.int (bI (ndB x ∧ (nA h x 0).toInt = 1)))), h)
  | _ => none
theorem sw_M_isUp {h : qH} {x : Int32} : sm_M_isUp [.ref 2198, .int x] h = some (ShM h ∧ True, (some (.int (bI (ndB x ∧ (nA h x 0).toInt = 1)))), h) := nrfl rfl
set_option maxHeartbeats 2000000 in
set_option maxRecDepth 100000 in
theorem t_M_isUp {l : Launch} {V : qV} {d : Nat} (hd : 3 ≤ d) {h : qH} {x : Int32} (hp : ShM h ∧ True) : T l V mi_M_isUp (rm d) 0 0 [.ref 2198, .int x] h (fun v h' => v = (some (.int (bI (ndB x ∧ (nA h x 0).toInt = 1)))) ∧ h' = h) := by
  refine T_ev qm_M_isUp [.ref 2198, .int x] rfl rfl (Nat.le_of_ble_eq_true rfl) ok_M_isUp (smB_ok (d := d - 1) (by omega)) (fun _ => false) 200 (by omega) (fun K kK => ?_)
  obtain ⟨hs, hp⟩ := hp
  simp (disch := omega) only [ev_s, evN_ap, List.getElem?_cons_zero, List.getElem?_cons_succ, List.set_cons_zero, List.set_cons_succ, Bool.false_eq_true, ↓reduceIte, qrest_n, qrest_1, qrest_2, qrest_3, qrest_4, qrest_5, qrest_6, qtr_i, qtr_r, true_and, and_true, List.length_cons, List.length_nil, Int.cast_ofNat_Int, Int32.toInt_zero, false_implies, true_implies, not_false_eq_true, not_true_eq_false, Option.toList_some, Option.toList_none, List.cons_append, List.nil_append, Nat.reduceBEq, Nat.reduceAdd, Nat.reduceLT, Nat.zero_add, Int.reduceAdd, Int.reduceLE, Int.reduceLT, Int.reduceEq, and_self, Int.reduceNeg, qrok_i, qrok_b0, qrok_b1, qrok_bI, Option.some.injEq, Value.int.injEq, J_bI0, J_bI1, e_0, v_0, e_1, v_1, e_2, v_2, e_13, v_13, e_14, v_14, e_15, v_15, e_40, e_44, e_45, qspl_z, qspl_s, evC_s, evD_none, evD_v, evD_s, c_0, c_1, smB_175, sw_M_isNode, smB_176, sw_M_the, r_M_isUp_0, r_M_isUp_1, r_M_isUp_4, r_M_isUp_7, r_M_isUp_8, r_M_isUp_9, r_M_isUp_10, r_M_isUp_13, r_M_isUp_14, r_M_isUp_17, r_M_isUp_18, r_M_isUp_21, r_M_isUp_22, (shM_o hs), (shM_r_now hs), (shM_k_now hs), I_val, inB, hs, hp, ShM_set, and_self, Int.reduceLE, Int.reduceLT, Int.reduceEq, bI_z]
  all_goals (clear kK; first | omega | grind)
theorem sk_M_isUp {l : Launch} {V : qV} {d : Nat} (hd : 3 ≤ d) (as : List Value) (h : qH) (P : Prop) (v : Option Value) (h' : qH) (e : sm_M_isUp as h = some (P, v, h')) (hp : P) : ∃ t, qms[178]? = some t ∧ T l V t (rm d) 0 0 as h (fun v' h'' => v' = v ∧ h'' = h') ∧ (t.2.2.2.2.2.2 ≠ 0 → ∃ x as', as = .ref x :: as' ∧ (hK h x).1 = t.2.2.2.2.2.1 ∧ t.2.2.2.2.2.1 < 10) := by
  unfold sm_M_isUp at e
  split at e
  · cases e
    exact ⟨_, qm_M_isUp, t_M_isUp hd hp, fun _ => ⟨2198, _, rfl, by rw [shM_o hp.1], by decide⟩⟩
  · cases e
noncomputable def sm_M_hasEntry (as : List Value) (h : qH) : Option (Prop × Option Value × qH) := match as with
  | [.ref 2198, .int x, .int y] => some (ShM h ∧ ndB x, (some (.int (bI ((nA h x 4).toInt < y.toInt ∧ y.toInt ≤ (nA h x 4 + nA h x 8).toInt)))), h)
  | _ => none
theorem sw_M_hasEntry {h : qH} {x y : Int32} : sm_M_hasEntry [.ref 2198, .int x, .int y] h = some (ShM h ∧ ndB x, (some (.int (bI ((nA h x 4).toInt < y.toInt ∧ y.toInt ≤ (nA h x 4 + nA h x 8).toInt)))), h) := nrfl rfl
set_option maxHeartbeats 2000000 in
set_option maxRecDepth 100000 in
theorem t_M_hasEntry {l : Launch} {V : qV} {d : Nat} (hd : 3 ≤ d) {h : qH} {x y : Int32} (hp : ShM h ∧ ndB x) : T l V mi_M_hasEntry (rm d) 0 0 [.ref 2198, .int x, .int y] h (fun v h' => v = (some (.int (bI ((nA h x 4).toInt < y.toInt ∧ y.toInt ≤ (nA h x 4 + nA h x 8).toInt)))) ∧ h' = h) := by
  refine T_ev qm_M_hasEntry [.ref 2198, .int x, .int y] rfl rfl (Nat.le_of_ble_eq_true rfl) ok_M_hasEntry (smB_ok (d := d - 1) (by omega)) (fun _ => false) 200 (by omega) (fun K kK => ?_)
  obtain ⟨hs, hp⟩ := hp
  simp (disch := omega) only [ev_s, evN_ap, List.getElem?_cons_zero, List.getElem?_cons_succ, List.set_cons_zero, List.set_cons_succ, Bool.false_eq_true, ↓reduceIte, qrest_n, qrest_1, qrest_2, qrest_3, qrest_4, qrest_5, qrest_6, qtr_i, qtr_r, true_and, and_true, List.length_cons, List.length_nil, Int.cast_ofNat_Int, Int32.toInt_zero, false_implies, true_implies, not_false_eq_true, not_true_eq_false, Option.toList_some, Option.toList_none, List.cons_append, List.nil_append, Nat.reduceBEq, Nat.reduceAdd, Nat.reduceLT, Nat.zero_add, Int.reduceAdd, Int.reduceLE, Int.reduceLT, Int.reduceEq, and_self, Int.reduceNeg, qrok_i, qrok_b0, qrok_b1, qrok_bI, Option.some.injEq, Value.int.injEq, J_bI0, J_bI1, e_0, v_0, e_1, v_1, e_2, v_2, e_13, v_13, e_15, v_15, e_40, e_44, qspl_z, qspl_s, evC_s, evD_none, evD_v, evD_s, c_4, c_5, smB_176, sw_M_the, smB_180, sw_M_lastOf, r_M_hasEntry_0, r_M_hasEntry_1, r_M_hasEntry_2, r_M_hasEntry_3, r_M_hasEntry_4, r_M_hasEntry_7, r_M_hasEntry_10, r_M_hasEntry_11, r_M_hasEntry_12, r_M_hasEntry_13, r_M_hasEntry_16, r_M_hasEntry_19, r_M_hasEntry_20, r_M_hasEntry_23, r_M_hasEntry_24, (shM_o hs), (shM_r_now hs), (shM_k_now hs), I_val, inB, hs, hp, ShM_set, and_self, Int.reduceLE, Int.reduceLT, Int.reduceEq]
  all_goals (clear kK; first | omega | grind)
theorem sk_M_hasEntry {l : Launch} {V : qV} {d : Nat} (hd : 3 ≤ d) (as : List Value) (h : qH) (P : Prop) (v : Option Value) (h' : qH) (e : sm_M_hasEntry as h = some (P, v, h')) (hp : P) : ∃ t, qms[182]? = some t ∧ T l V t (rm d) 0 0 as h (fun v' h'' => v' = v ∧ h'' = h') ∧ (t.2.2.2.2.2.2 ≠ 0 → ∃ x as', as = .ref x :: as' ∧ (hK h x).1 = t.2.2.2.2.2.1 ∧ t.2.2.2.2.2.1 < 10) := by
  unfold sm_M_hasEntry at e
  split at e
  · cases e
    exact ⟨_, qm_M_hasEntry, t_M_hasEntry hd hp, fun _ => ⟨2198, _, rfl, by rw [shM_o hp.1], by decide⟩⟩
  · cases e
noncomputable def sm_M_termAt (as : List Value) (h : qH) : Option (Prop × Option Value × qH) := match as with
  | [.ref 2198, .int x, .int y] => some (ShM h ∧ ndB x ∧ (¬ y.toInt = (nA h x 4).toInt → inB (lpI h x y) 11138), (some (.int (tAI h x y))), h)
  | _ => none
theorem sw_M_termAt {h : qH} {x y : Int32} : sm_M_termAt [.ref 2198, .int x, .int y] h = some (ShM h ∧ ndB x ∧ (¬ y.toInt = (nA h x 4).toInt → inB (lpI h x y) 11138), (some (.int (tAI h x y))), h) := nrfl rfl
set_option maxHeartbeats 2000000 in
set_option maxRecDepth 100000 in
theorem t_M_termAt {l : Launch} {V : qV} {d : Nat} (hd : 3 ≤ d) {h : qH} {x y : Int32} (hp : ShM h ∧ ndB x ∧ (¬ y.toInt = (nA h x 4).toInt → inB (lpI h x y) 11138)) : T l V mi_M_termAt (rm d) 0 0 [.ref 2198, .int x, .int y] h (fun v h' => v = (some (.int (tAI h x y))) ∧ h' = h) := by
  refine T_ev qm_M_termAt [.ref 2198, .int x, .int y] rfl rfl (Nat.le_of_ble_eq_true rfl) ok_M_termAt (smB_ok (d := d - 1) (by omega)) (fun _ => false) 200 (by omega) (fun K kK => ?_)
  obtain ⟨hs, hp1, hp2⟩ := hp
  simp (disch := omega) only [ev_s, evN_ap, List.getElem?_cons_zero, List.getElem?_cons_succ, List.set_cons_zero, List.set_cons_succ, Bool.false_eq_true, ↓reduceIte, qrest_n, qrest_1, qrest_2, qrest_3, qrest_4, qrest_5, qrest_6, qtr_i, qtr_r, true_and, and_true, List.length_cons, List.length_nil, Int.cast_ofNat_Int, Int32.toInt_zero, false_implies, true_implies, not_false_eq_true, not_true_eq_false, Option.toList_some, Option.toList_none, List.cons_append, List.nil_append, Nat.reduceBEq, Nat.reduceAdd, Nat.reduceLT, Nat.zero_add, Int.reduceAdd, Int.reduceLE, Int.reduceLT, Int.reduceEq, and_self, Int.reduceNeg, qrok_i, qrok_b0, qrok_b1, qrok_bI, Option.some.injEq, Value.int.injEq, J_bI0, J_bI1, e_0, v_0, e_1, v_1, e_2, v_2, e_13, v_13, e_15, v_15, e_20, v_20, e_24, v_24, e_40, e_44, qspl_z, qspl_s, evC_s, evD_none, evD_v, evD_s, c_1, smB_176, sw_M_the, smB_181, sw_M_logPlace, r_M_termAt_0, r_M_termAt_1, r_M_termAt_2, r_M_termAt_3, r_M_termAt_4, r_M_termAt_7, r_M_termAt_10, r_M_termAt_11, r_M_termAt_12, r_M_termAt_13, r_M_termAt_16, r_M_termAt_19, r_M_termAt_20, r_M_termAt_23, r_M_termAt_24, r_M_termAt_25, r_M_termAt_26, r_M_termAt_29, r_M_termAt_30, (shM_o hs), (shM_r_now hs), (shM_k_now hs), I_val, hs, hp1, and_self, Int.reduceLE]
  exact ⟨fun a => ⟨hp2 a, by rw [tAI, if_neg a]⟩, fun a => by rw [tAI, if_pos (Classical.not_not.mp a)]⟩
  all_goals (clear kK; first | omega | grind)
theorem sk_M_termAt {l : Launch} {V : qV} {d : Nat} (hd : 3 ≤ d) (as : List Value) (h : qH) (P : Prop) (v : Option Value) (h' : qH) (e : sm_M_termAt as h = some (P, v, h')) (hp : P) : ∃ t, qms[183]? = some t ∧ T l V t (rm d) 0 0 as h (fun v' h'' => v' = v ∧ h'' = h') ∧ (t.2.2.2.2.2.2 ≠ 0 → ∃ x as', as = .ref x :: as' ∧ (hK h x).1 = t.2.2.2.2.2.1 ∧ t.2.2.2.2.2.1 < 10) := by
  unfold sm_M_termAt at e
  split at e
  · cases e
    exact ⟨_, qm_M_termAt, t_M_termAt hd hp, fun _ => ⟨2198, _, rfl, by rw [shM_o hp.1], by decide⟩⟩
  · cases e
noncomputable def sm_M_isFull (as : List Value) (h : qH) : Option (Prop × Option Value × qH) := match as with
  | [.ref 2198, .int x] => some (ShM h ∧ ndB x, (some (.int (bI (40 ≤ (nA h x 8).toInt ∨ (nA h x 4 + nA h x 8).toInt = 999)))), h)
  | _ => none
theorem sw_M_isFull {h : qH} {x : Int32} : sm_M_isFull [.ref 2198, .int x] h = some (ShM h ∧ ndB x, (some (.int (bI (40 ≤ (nA h x 8).toInt ∨ (nA h x 4 + nA h x 8).toInt = 999)))), h) := nrfl rfl
set_option maxHeartbeats 2000000 in
set_option maxRecDepth 100000 in
theorem t_M_isFull {l : Launch} {V : qV} {d : Nat} (hd : 3 ≤ d) {h : qH} {x : Int32} (hp : ShM h ∧ ndB x) : T l V mi_M_isFull (rm d) 0 0 [.ref 2198, .int x] h (fun v h' => v = (some (.int (bI (40 ≤ (nA h x 8).toInt ∨ (nA h x 4 + nA h x 8).toInt = 999)))) ∧ h' = h) := by
  refine T_ev qm_M_isFull [.ref 2198, .int x] rfl rfl (Nat.le_of_ble_eq_true rfl) ok_M_isFull (smB_ok (d := d - 1) (by omega)) (fun _ => false) 200 (by omega) (fun K kK => ?_)
  obtain ⟨hs, hp⟩ := hp
  simp (disch := omega) only [ev_s, evN_ap, List.getElem?_cons_zero, List.getElem?_cons_succ, List.set_cons_zero, List.set_cons_succ, Bool.false_eq_true, ↓reduceIte, qrest_n, qrest_1, qrest_2, qrest_3, qrest_4, qrest_5, qrest_6, qtr_i, qtr_r, true_and, and_true, List.length_cons, List.length_nil, Int.cast_ofNat_Int, Int32.toInt_zero, false_implies, true_implies, not_false_eq_true, not_true_eq_false, Option.toList_some, Option.toList_none, List.cons_append, List.nil_append, Nat.reduceBEq, Nat.reduceAdd, Nat.reduceLT, Nat.zero_add, Int.reduceAdd, Int.reduceLE, Int.reduceLT, Int.reduceEq, and_self, Int.reduceNeg, qrok_i, qrok_b0, qrok_b1, qrok_bI, Option.some.injEq, Value.int.injEq, J_bI0, J_bI1, e_0, v_0, e_1, v_1, e_2, v_2, e_13, v_13, e_15, v_15, e_40, e_44, qspl_z, qspl_s, evC_s, evD_none, evD_v, evD_s, c_1, c_3, smB_176, sw_M_the, smB_180, sw_M_lastOf, r_M_isFull_0, r_M_isFull_1, r_M_isFull_2, r_M_isFull_4, r_M_isFull_7, r_M_isFull_9, r_M_isFull_12, r_M_isFull_13, r_M_isFull_14, r_M_isFull_17, r_M_isFull_20, r_M_isFull_23, r_M_isFull_24, r_M_isFull_27, r_M_isFull_28, (shM_o hs), (shM_r_now hs), (shM_k_now hs), I_val, inB, hs, hp, ShM_set, and_self, Int.reduceLE, Int.reduceLT, Int.reduceEq]
  all_goals (clear kK; first | omega | grind)
theorem sk_M_isFull {l : Launch} {V : qV} {d : Nat} (hd : 3 ≤ d) (as : List Value) (h : qH) (P : Prop) (v : Option Value) (h' : qH) (e : sm_M_isFull as h = some (P, v, h')) (hp : P) : ∃ t, qms[271]? = some t ∧ T l V t (rm d) 0 0 as h (fun v' h'' => v' = v ∧ h'' = h') ∧ (t.2.2.2.2.2.2 ≠ 0 → ∃ x as', as = .ref x :: as' ∧ (hK h x).1 = t.2.2.2.2.2.1 ∧ t.2.2.2.2.2.1 < 10) := by
  unfold sm_M_isFull at e
  split at e
  · cases e
    exact ⟨_, qm_M_isFull, t_M_isFull hd hp, fun _ => ⟨2198, _, rfl, by rw [shM_o hp.1], by decide⟩⟩
  · cases e
noncomputable def smC : qSm := fun a as h => if a = 178 then sm_M_isUp as h else if a = 182 then sm_M_hasEntry as h else if a = 183 then sm_M_termAt as h else if a = 271 then sm_M_isFull as h else smB a as h
theorem smC_ok {l : Launch} {V : qV} {d : Nat} (hd : 3 ≤ d) : smok l V d smC := by
  intro a as h P v h' e hp
  unfold smC at e
  split at e
  · rename_i ha; subst ha; exact sk_M_isUp (by omega) _ _ _ _ _ e hp
  split at e
  · rename_i ha; subst ha; exact sk_M_hasEntry (by omega) _ _ _ _ _ e hp
  split at e
  · rename_i ha; subst ha; exact sk_M_termAt (by omega) _ _ _ _ _ e hp
  split at e
  · rename_i ha; subst ha; exact sk_M_isFull (by omega) _ _ _ _ _ e hp
  exact smB_ok (by omega) _ _ _ _ _ _ e hp
theorem smC_178 {as : List Value} {h : qH} : smC 178 as h = sm_M_isUp as h := nrfl (by simp [smC, smB, smA])
theorem smC_182 {as : List Value} {h : qH} : smC 182 as h = sm_M_hasEntry as h := nrfl (by simp [smC, smB, smA])
theorem smC_183 {as : List Value} {h : qH} : smC 183 as h = sm_M_termAt as h := nrfl (by simp [smC, smB, smA])
theorem smC_271 {as : List Value} {h : qH} : smC 271 as h = sm_M_isFull as h := nrfl (by simp [smC, smB, smA])
theorem smC_169 {as : List Value} {h : qH} : smC 169 as h = sm_M_in as h := nrfl (by simp [smC, smB, smA])
theorem smC_170 {as : List Value} {h : qH} : smC 170 as h = sm_M_min as h := nrfl (by simp [smC, smB, smA])
theorem smC_171 {as : List Value} {h : qH} : smC 171 as h = sm_M_max as h := nrfl (by simp [smC, smB, smA])
theorem smC_172 {as : List Value} {h : qH} : smC 172 as h = sm_M_has as h := nrfl (by simp [smC, smB, smA])
theorem smC_176 {as : List Value} {h : qH} : smC 176 as h = sm_M_the as h := nrfl (by simp [smC, smB, smA])
theorem smC_177 {as : List Value} {h : qH} : smC 177 as h = sm_M_sets as h := nrfl (by simp [smC, smB, smA])
theorem smC_237 {as : List Value} {h : qH} : smC 237 as h = sm_M_breaks as h := nrfl (by simp [smC, smB, smA])
theorem smC_175 {as : List Value} {h : qH} : smC 175 as h = sm_M_isNode as h := nrfl (by simp [smC, smB, smA])
theorem smC_180 {as : List Value} {h : qH} : smC 180 as h = sm_M_lastOf as h := nrfl (by simp [smC, smB, smA])
theorem smC_181 {as : List Value} {h : qH} : smC 181 as h = sm_M_logPlace as h := nrfl (by simp [smC, smB, smA])
theorem smC_225 {as : List Value} {h : qH} : smC 225 as h = sm_M_loses as h := nrfl (by simp [smC, smB, smA])
theorem smC_245 {as : List Value} {h : qH} : smC 245 as h = sm_M_areLinked as h := nrfl (by simp [smC, smB, smA])
theorem smC_no {k : Nat} {as : List Value} {h : qH} (hk : List.elem k [178, 182, 183, 271, 169, 170, 171, 172, 176, 177, 237, 175, 180, 181, 225, 245] = false) : smC k as h = none := by
  simp only [List.elem_eq_mem, List.mem_cons, List.not_mem_nil, or_false, not_or, decide_eq_false_iff_not] at hk
  simp [hk, smC, smB, smA, sm0]
noncomputable def sm_M_isLeader (as : List Value) (h : qH) : Option (Prop × Option Value × qH) := match as with
  | [.ref 2198, .int x] => some (ShM h ∧ True, (some (.int (bI ((ndB x ∧ (nA h x 0).toInt = 1) ∧ (nA h x 3).toInt = 2)))), h)
  | _ => none
theorem sw_M_isLeader {h : qH} {x : Int32} : sm_M_isLeader [.ref 2198, .int x] h = some (ShM h ∧ True, (some (.int (bI ((ndB x ∧ (nA h x 0).toInt = 1) ∧ (nA h x 3).toInt = 2)))), h) := nrfl rfl
set_option maxHeartbeats 2000000 in
set_option maxRecDepth 100000 in
theorem t_M_isLeader {l : Launch} {V : qV} {d : Nat} (hd : 4 ≤ d) {h : qH} {x : Int32} (hp : ShM h ∧ True) : T l V mi_M_isLeader (rm d) 0 0 [.ref 2198, .int x] h (fun v h' => v = (some (.int (bI ((ndB x ∧ (nA h x 0).toInt = 1) ∧ (nA h x 3).toInt = 2)))) ∧ h' = h) := by
  refine T_ev qm_M_isLeader [.ref 2198, .int x] rfl rfl (Nat.le_of_ble_eq_true rfl) ok_M_isLeader (smC_ok (d := d - 1) (by omega)) (fun _ => false) 200 (by omega) (fun K kK => ?_)
  obtain ⟨hs, hp⟩ := hp
  simp (disch := omega) only [ev_s, evN_ap, List.getElem?_cons_zero, List.getElem?_cons_succ, List.set_cons_zero, List.set_cons_succ, Bool.false_eq_true, ↓reduceIte, qrest_n, qrest_1, qrest_2, qrest_3, qrest_4, qrest_5, qrest_6, qtr_i, qtr_r, true_and, and_true, List.length_cons, List.length_nil, Int.cast_ofNat_Int, Int32.toInt_zero, false_implies, true_implies, not_false_eq_true, not_true_eq_false, Option.toList_some, Option.toList_none, List.cons_append, List.nil_append, Nat.reduceBEq, Nat.reduceAdd, Nat.reduceLT, Nat.zero_add, Int.reduceAdd, Int.reduceLE, Int.reduceLT, Int.reduceEq, and_self, Int.reduceNeg, qrok_i, qrok_b0, qrok_b1, qrok_bI, Option.some.injEq, Value.int.injEq, J_bI0, J_bI1, e_0, v_0, e_1, v_1, e_2, v_2, e_13, v_13, e_14, v_14, e_15, v_15, e_40, e_44, qspl_z, qspl_s, evC_s, evD_none, evD_v, evD_s, c_0, c_1, smC_176, sw_M_the, smC_178, sw_M_isUp, r_M_isLeader_0, r_M_isLeader_1, r_M_isLeader_2, r_M_isLeader_5, r_M_isLeader_8, r_M_isLeader_9, r_M_isLeader_10, r_M_isLeader_11, r_M_isLeader_14, r_M_isLeader_15, r_M_isLeader_18, r_M_isLeader_19, r_M_isLeader_22, r_M_isLeader_23, (shM_o hs), (shM_r_now hs), (shM_k_now hs), I_val, inB, hs, hp, ShM_set, and_self, Int.reduceLE, Int.reduceLT, Int.reduceEq, bI_z]
  all_goals (clear kK; first | omega | grind)
theorem sk_M_isLeader {l : Launch} {V : qV} {d : Nat} (hd : 4 ≤ d) (as : List Value) (h : qH) (P : Prop) (v : Option Value) (h' : qH) (e : sm_M_isLeader as h = some (P, v, h')) (hp : P) : ∃ t, qms[179]? = some t ∧ T l V t (rm d) 0 0 as h (fun v' h'' => v' = v ∧ h'' = h') ∧ (t.2.2.2.2.2.2 ≠ 0 → ∃ x as', as = .ref x :: as' ∧ (hK h x).1 = t.2.2.2.2.2.1 ∧ t.2.2.2.2.2.1 < 10) := by
  unfold sm_M_isLeader at e
  split at e
  · cases e
    exact ⟨_, qm_M_isLeader, t_M_isLeader hd hp, fun _ => ⟨2198, _, rfl, by rw [shM_o hp.1], by decide⟩⟩
  · cases e
noncomputable def sm_M_isNoLess (as : List Value) (h : qH) : Option (Prop × Option Value × qH) := match as with
  | [.ref 2198, .int x, .int y, .int z] => some (ShM h ∧ ndB x ∧ (¬ (nA h x 4 + nA h x 8).toInt = (nA h x 4).toInt → inB (lpI h x (nA h x 4 + nA h x 8)) 11138), (some (.int (bI ((tAI h x (nA h x 4 + nA h x 8)).toInt < z.toInt ∨ (z.toInt = (tAI h x (nA h x 4 + nA h x 8)).toInt ∧ (nA h x 4 + nA h x 8).toInt ≤ y.toInt))))), h)
  | _ => none
theorem sw_M_isNoLess {h : qH} {x y z : Int32} : sm_M_isNoLess [.ref 2198, .int x, .int y, .int z] h = some (ShM h ∧ ndB x ∧ (¬ (nA h x 4 + nA h x 8).toInt = (nA h x 4).toInt → inB (lpI h x (nA h x 4 + nA h x 8)) 11138), (some (.int (bI ((tAI h x (nA h x 4 + nA h x 8)).toInt < z.toInt ∨ (z.toInt = (tAI h x (nA h x 4 + nA h x 8)).toInt ∧ (nA h x 4 + nA h x 8).toInt ≤ y.toInt))))), h) := nrfl rfl
set_option maxHeartbeats 2000000 in
set_option maxRecDepth 100000 in
theorem t_M_isNoLess {l : Launch} {V : qV} {d : Nat} (hd : 4 ≤ d) {h : qH} {x y z : Int32} (hp : ShM h ∧ ndB x ∧ (¬ (nA h x 4 + nA h x 8).toInt = (nA h x 4).toInt → inB (lpI h x (nA h x 4 + nA h x 8)) 11138)) : T l V mi_M_isNoLess (rm d) 0 0 [.ref 2198, .int x, .int y, .int z] h (fun v h' => v = (some (.int (bI ((tAI h x (nA h x 4 + nA h x 8)).toInt < z.toInt ∨ (z.toInt = (tAI h x (nA h x 4 + nA h x 8)).toInt ∧ (nA h x 4 + nA h x 8).toInt ≤ y.toInt))))) ∧ h' = h) := by
  refine T_ev qm_M_isNoLess [.ref 2198, .int x, .int y, .int z, .retAddr 0] rfl rfl (Nat.le_of_ble_eq_true rfl) ok_M_isNoLess (smC_ok (d := d - 1) (by omega)) (fun _ => false) 200 (by omega) (fun K kK => ?_)
  obtain ⟨hs, hp1, hp2⟩ := hp
  simp (disch := omega) only [ev_s, evN_ap, List.getElem?_cons_zero, List.getElem?_cons_succ, List.set_cons_zero, List.set_cons_succ, Bool.false_eq_true, ↓reduceIte, qrest_n, qrest_1, qrest_2, qrest_3, qrest_4, qrest_5, qrest_6, qtr_i, qtr_r, true_and, and_true, List.length_cons, List.length_nil, Int.cast_ofNat_Int, Int32.toInt_zero, false_implies, true_implies, not_false_eq_true, not_true_eq_false, Option.toList_some, Option.toList_none, List.cons_append, List.nil_append, Nat.reduceBEq, Nat.reduceAdd, Nat.reduceLT, Nat.zero_add, Int.reduceAdd, Int.reduceLE, Int.reduceLT, Int.reduceEq, and_self, Int.reduceNeg, qrok_i, qrok_b0, qrok_b1, qrok_bI, Option.some.injEq, Value.int.injEq, J_bI0, J_bI1, e_0, v_0, e_1, v_1, e_2, v_2, e_3, v_3, e_13, v_13, e_15, v_15, e_40, e_44, qspl_z, qspl_s, evC_s, evD_none, evD_v, evD_s, c_1, c_2, c_4, smC_180, sw_M_lastOf, smC_183, sw_M_termAt, r_M_isNoLess_0, r_M_isNoLess_1, r_M_isNoLess_2, r_M_isNoLess_3, r_M_isNoLess_4, r_M_isNoLess_7, r_M_isNoLess_10, r_M_isNoLess_12, r_M_isNoLess_13, r_M_isNoLess_15, r_M_isNoLess_18, r_M_isNoLess_19, r_M_isNoLess_21, r_M_isNoLess_24, r_M_isNoLess_25, r_M_isNoLess_26, r_M_isNoLess_27, r_M_isNoLess_30, r_M_isNoLess_33, r_M_isNoLess_34, r_M_isNoLess_37, r_M_isNoLess_38, (shM_o hs), (shM_r_now hs), (shM_k_now hs), I_val, hs, hp1, and_self, Int.reduceLE]
  exact ⟨hp2, by clear kK hp2; omega⟩
  all_goals (clear kK; first | omega | grind)
theorem sk_M_isNoLess {l : Launch} {V : qV} {d : Nat} (hd : 4 ≤ d) (as : List Value) (h : qH) (P : Prop) (v : Option Value) (h' : qH) (e : sm_M_isNoLess as h = some (P, v, h')) (hp : P) : ∃ t, qms[248]? = some t ∧ T l V t (rm d) 0 0 as h (fun v' h'' => v' = v ∧ h'' = h') ∧ (t.2.2.2.2.2.2 ≠ 0 → ∃ x as', as = .ref x :: as' ∧ (hK h x).1 = t.2.2.2.2.2.1 ∧ t.2.2.2.2.2.1 < 10) := by
  unfold sm_M_isNoLess at e
  split at e
  · cases e
    exact ⟨_, qm_M_isNoLess, t_M_isNoLess hd hp, fun _ => ⟨2198, _, rfl, by rw [shM_o hp.1], by decide⟩⟩
  · cases e
noncomputable def smD : qSm := fun a as h => if a = 179 then sm_M_isLeader as h else if a = 248 then sm_M_isNoLess as h else smC a as h
theorem smD_ok {l : Launch} {V : qV} {d : Nat} (hd : 4 ≤ d) : smok l V d smD := by
  intro a as h P v h' e hp
  unfold smD at e
  split at e
  · rename_i ha; subst ha; exact sk_M_isLeader (by omega) _ _ _ _ _ e hp
  split at e
  · rename_i ha; subst ha; exact sk_M_isNoLess (by omega) _ _ _ _ _ e hp
  exact smC_ok (by omega) _ _ _ _ _ _ e hp
theorem smD_179 {as : List Value} {h : qH} : smD 179 as h = sm_M_isLeader as h := nrfl (by simp [smD, smC, smB, smA])
theorem smD_248 {as : List Value} {h : qH} : smD 248 as h = sm_M_isNoLess as h := nrfl (by simp [smD, smC, smB, smA])
theorem smD_169 {as : List Value} {h : qH} : smD 169 as h = sm_M_in as h := nrfl (by simp [smD, smC, smB, smA])
theorem smD_170 {as : List Value} {h : qH} : smD 170 as h = sm_M_min as h := nrfl (by simp [smD, smC, smB, smA])
theorem smD_171 {as : List Value} {h : qH} : smD 171 as h = sm_M_max as h := nrfl (by simp [smD, smC, smB, smA])
theorem smD_172 {as : List Value} {h : qH} : smD 172 as h = sm_M_has as h := nrfl (by simp [smD, smC, smB, smA])
theorem smD_176 {as : List Value} {h : qH} : smD 176 as h = sm_M_the as h := nrfl (by simp [smD, smC, smB, smA])
theorem smD_177 {as : List Value} {h : qH} : smD 177 as h = sm_M_sets as h := nrfl (by simp [smD, smC, smB, smA])
theorem smD_237 {as : List Value} {h : qH} : smD 237 as h = sm_M_breaks as h := nrfl (by simp [smD, smC, smB, smA])
theorem smD_175 {as : List Value} {h : qH} : smD 175 as h = sm_M_isNode as h := nrfl (by simp [smD, smC, smB, smA])
theorem smD_180 {as : List Value} {h : qH} : smD 180 as h = sm_M_lastOf as h := nrfl (by simp [smD, smC, smB, smA])
theorem smD_181 {as : List Value} {h : qH} : smD 181 as h = sm_M_logPlace as h := nrfl (by simp [smD, smC, smB, smA])
theorem smD_225 {as : List Value} {h : qH} : smD 225 as h = sm_M_loses as h := nrfl (by simp [smD, smC, smB, smA])
theorem smD_245 {as : List Value} {h : qH} : smD 245 as h = sm_M_areLinked as h := nrfl (by simp [smD, smC, smB, smA])
theorem smD_178 {as : List Value} {h : qH} : smD 178 as h = sm_M_isUp as h := nrfl (by simp [smD, smC, smB, smA])
theorem smD_182 {as : List Value} {h : qH} : smD 182 as h = sm_M_hasEntry as h := nrfl (by simp [smD, smC, smB, smA])
theorem smD_183 {as : List Value} {h : qH} : smD 183 as h = sm_M_termAt as h := nrfl (by simp [smD, smC, smB, smA])
theorem smD_271 {as : List Value} {h : qH} : smD 271 as h = sm_M_isFull as h := nrfl (by simp [smD, smC, smB, smA])
theorem smD_no {k : Nat} {as : List Value} {h : qH} (hk : List.elem k [179, 248, 169, 170, 171, 172, 176, 177, 237, 175, 180, 181, 225, 245, 178, 182, 183, 271] = false) : smD k as h = none := by
  simp only [List.elem_eq_mem, List.mem_cons, List.not_mem_nil, or_false, not_or, decide_eq_false_iff_not] at hk
  simp [hk, smD, smC, smB, smA, sm0]
