/-! leaves of the class -/
noncomputable def sm_T_isNode (as : List Value) (h : qH) : Option (Prop × Option Value × qH) := match as with
  | [.int x] => some (True, (some (.int (bI (ndB x)))), h)
  | _ => none
theorem sw_T_isNode {h : qH} {x : Int32} : sm_T_isNode [.int x] h = some (True, (some (.int (bI (ndB x)))), h) := nrfl rfl
set_option maxHeartbeats 2000000 in
set_option maxRecDepth 100000 in
theorem t_T_isNode {l : Launch} {V : qV} {d : Nat} (hd : 1 ≤ d) {h : qH} {x : Int32} (hp : True) : T l V mi_T_isNode (rm d) 0 0 [.int x] h (fun v h' => v = (some (.int (bI (ndB x)))) ∧ h' = h) := by
  refine T_ev qm_T_isNode [.int x] rfl rfl (Nat.le_of_ble_eq_true rfl) ok_T_isNode (sm0_ok (d := d - 1) (by omega)) (fun _ => false) 200 (by omega) (fun K kK => ?_)
  simp (disch := omega) only [ev_s, evN_ap, List.getElem?_cons_zero, List.getElem?_cons_succ, List.set_cons_zero, List.set_cons_succ, Bool.false_eq_true, ↓reduceIte, qrest_n, qrest_1, qrest_2, qrest_3, qrest_4, qrest_5, qrest_6, qtr_i, qtr_r, true_and, and_true, List.length_cons, List.length_nil, Int.cast_ofNat_Int, Int32.toInt_zero, false_implies, true_implies, not_false_eq_true, not_true_eq_false, Option.toList_some, Option.toList_none, List.cons_append, List.nil_append, Nat.reduceBEq, Nat.reduceEqDiff, Bool.or_self, or_self, Nat.reduceAdd, Nat.reduceLT, Nat.zero_add, Int.reduceAdd, Int.reduceLE, Int.reduceLT, Int.reduceEq, and_self, Int.reduceNeg, qrok_i, qrok_b0, qrok_b1, qrok_bI, Option.some.injEq, Value.int.injEq, J_bI0, J_bI1, Classical.not_not, Int.zero_add, Int.add_zero, Int.sub_zero, false_and, and_false, and_true, true_and, e_0, v_0, e_1, v_1, e_13, v_13, e_14, v_14, e_15, v_15, e_40, c_2, c_3, r_T_isNode_0, r_T_isNode_1, r_T_isNode_4, r_T_isNode_5, r_T_isNode_7, r_T_isNode_10, r_T_isNode_11, r_T_isNode_14, r_T_isNode_15, I_val, inB, and_self, Int.reduceLE, Int.reduceLT, ndB]
  all_goals (clear kK; first | omega | grind)
theorem sk_T_isNode {l : Launch} {V : qV} {d : Nat} (hd : 1 ≤ d) (as : List Value) (h : qH) (P : Prop) (v : Option Value) (h' : qH) (e : sm_T_isNode as h = some (P, v, h')) (hp : P) : ∃ t, qms[152]? = some t ∧ T l V t (rm d) 0 0 as h (fun v' h'' => v' = v ∧ h'' = h') ∧ (t.2.2.2.2.2.2 ≠ 0 → ∃ x as', as = .ref x :: as' ∧ (hK h x).1 = t.2.2.2.2.2.1 ∧ t.2.2.2.2.2.1 < 10) := by
  unfold sm_T_isNode at e
  split at e
  · cases e
    exact ⟨_, qm_T_isNode, t_T_isNode hd hp, fun q => absurd rfl q⟩
  · cases e
noncomputable def sm_T_isKey (as : List Value) (h : qH) : Option (Prop × Option Value × qH) := match as with
  | [.int x] => some (True, (some (.int (bI (0 ≤ x.toInt ∧ x.toInt ≤ 7)))), h)
  | _ => none
theorem sw_T_isKey {h : qH} {x : Int32} : sm_T_isKey [.int x] h = some (True, (some (.int (bI (0 ≤ x.toInt ∧ x.toInt ≤ 7)))), h) := nrfl rfl
set_option maxHeartbeats 2000000 in
set_option maxRecDepth 100000 in
theorem t_T_isKey {l : Launch} {V : qV} {d : Nat} (hd : 1 ≤ d) {h : qH} {x : Int32} (hp : True) : T l V mi_T_isKey (rm d) 0 0 [.int x] h (fun v h' => v = (some (.int (bI (0 ≤ x.toInt ∧ x.toInt ≤ 7)))) ∧ h' = h) := by
  refine T_ev qm_T_isKey [.int x] rfl rfl (Nat.le_of_ble_eq_true rfl) ok_T_isKey (sm0_ok (d := d - 1) (by omega)) (fun _ => false) 200 (by omega) (fun K kK => ?_)
  simp (disch := omega) only [ev_s, evN_ap, List.getElem?_cons_zero, List.getElem?_cons_succ, List.set_cons_zero, List.set_cons_succ, Bool.false_eq_true, ↓reduceIte, qrest_n, qrest_1, qrest_2, qrest_3, qrest_4, qrest_5, qrest_6, qtr_i, qtr_r, true_and, and_true, List.length_cons, List.length_nil, Int.cast_ofNat_Int, Int32.toInt_zero, false_implies, true_implies, not_false_eq_true, not_true_eq_false, Option.toList_some, Option.toList_none, List.cons_append, List.nil_append, Nat.reduceBEq, Nat.reduceEqDiff, Bool.or_self, or_self, Nat.reduceAdd, Nat.reduceLT, Nat.zero_add, Int.reduceAdd, Int.reduceLE, Int.reduceLT, Int.reduceEq, and_self, Int.reduceNeg, qrok_i, qrok_b0, qrok_b1, qrok_bI, Option.some.injEq, Value.int.injEq, J_bI0, J_bI1, Classical.not_not, Int.zero_add, Int.add_zero, Int.sub_zero, false_and, and_false, and_true, true_and, e_0, v_0, e_1, v_1, e_13, v_13, e_14, v_14, e_15, v_15, e_40, c_2, c_3, r_T_isKey_0, r_T_isKey_1, r_T_isKey_4, r_T_isKey_5, r_T_isKey_7, r_T_isKey_10, r_T_isKey_11, r_T_isKey_14, r_T_isKey_15, I_val, inB, and_self, Int.reduceLE, Int.reduceLT]
  all_goals (clear kK; first | omega | grind)
theorem sk_T_isKey {l : Launch} {V : qV} {d : Nat} (hd : 1 ≤ d) (as : List Value) (h : qH) (P : Prop) (v : Option Value) (h' : qH) (e : sm_T_isKey as h = some (P, v, h')) (hp : P) : ∃ t, qms[153]? = some t ∧ T l V t (rm d) 0 0 as h (fun v' h'' => v' = v ∧ h'' = h') ∧ (t.2.2.2.2.2.2 ≠ 0 → ∃ x as', as = .ref x :: as' ∧ (hK h x).1 = t.2.2.2.2.2.1 ∧ t.2.2.2.2.2.1 < 10) := by
  unfold sm_T_isKey at e
  split at e
  · cases e
    exact ⟨_, qm_T_isKey, t_T_isKey hd hp, fun q => absurd rfl q⟩
  · cases e
noncomputable def sm_T_isTickCount (as : List Value) (h : qH) : Option (Prop × Option Value × qH) := match as with
  | [.int x] => some (True, (some (.int (bI (1 ≤ x.toInt ∧ x.toInt ≤ 200)))), h)
  | _ => none
theorem sw_T_isTickCount {h : qH} {x : Int32} : sm_T_isTickCount [.int x] h = some (True, (some (.int (bI (1 ≤ x.toInt ∧ x.toInt ≤ 200)))), h) := nrfl rfl
set_option maxHeartbeats 2000000 in
set_option maxRecDepth 100000 in
theorem t_T_isTickCount {l : Launch} {V : qV} {d : Nat} (hd : 1 ≤ d) {h : qH} {x : Int32} (hp : True) : T l V mi_T_isTickCount (rm d) 0 0 [.int x] h (fun v h' => v = (some (.int (bI (1 ≤ x.toInt ∧ x.toInt ≤ 200)))) ∧ h' = h) := by
  refine T_ev qm_T_isTickCount [.int x] rfl rfl (Nat.le_of_ble_eq_true rfl) ok_T_isTickCount (sm0_ok (d := d - 1) (by omega)) (fun _ => false) 200 (by omega) (fun K kK => ?_)
  simp (disch := omega) only [ev_s, evN_ap, List.getElem?_cons_zero, List.getElem?_cons_succ, List.set_cons_zero, List.set_cons_succ, Bool.false_eq_true, ↓reduceIte, qrest_n, qrest_1, qrest_2, qrest_3, qrest_4, qrest_5, qrest_6, qtr_i, qtr_r, true_and, and_true, List.length_cons, List.length_nil, Int.cast_ofNat_Int, Int32.toInt_zero, false_implies, true_implies, not_false_eq_true, not_true_eq_false, Option.toList_some, Option.toList_none, List.cons_append, List.nil_append, Nat.reduceBEq, Nat.reduceEqDiff, Bool.or_self, or_self, Nat.reduceAdd, Nat.reduceLT, Nat.zero_add, Int.reduceAdd, Int.reduceLE, Int.reduceLT, Int.reduceEq, and_self, Int.reduceNeg, qrok_i, qrok_b0, qrok_b1, qrok_bI, Option.some.injEq, Value.int.injEq, J_bI0, J_bI1, Classical.not_not, Int.zero_add, Int.add_zero, Int.sub_zero, false_and, and_false, and_true, true_and, e_0, v_0, e_1, v_1, e_13, v_13, e_15, v_15, e_40, c_2, c_4, r_T_isTickCount_0, r_T_isTickCount_1, r_T_isTickCount_2, r_T_isTickCount_5, r_T_isTickCount_6, r_T_isTickCount_9, r_T_isTickCount_12, r_T_isTickCount_13, r_T_isTickCount_16, r_T_isTickCount_17, I_val, inB, and_self, Int.reduceLE, Int.reduceLT]
  all_goals (clear kK; first | omega | grind)
theorem sk_T_isTickCount {l : Launch} {V : qV} {d : Nat} (hd : 1 ≤ d) (as : List Value) (h : qH) (P : Prop) (v : Option Value) (h' : qH) (e : sm_T_isTickCount as h = some (P, v, h')) (hp : P) : ∃ t, qms[154]? = some t ∧ T l V t (rm d) 0 0 as h (fun v' h'' => v' = v ∧ h'' = h') ∧ (t.2.2.2.2.2.2 ≠ 0 → ∃ x as', as = .ref x :: as' ∧ (hK h x).1 = t.2.2.2.2.2.1 ∧ t.2.2.2.2.2.1 < 10) := by
  unfold sm_T_isTickCount at e
  split at e
  · cases e
    exact ⟨_, qm_T_isTickCount, t_T_isTickCount hd hp, fun q => absurd rfl q⟩
  · cases e
noncomputable def sm_T_isEntryPart (as : List Value) (h : qH) : Option (Prop × Option Value × qH) := match as with
  | [.int x] => some (True, (some (.int (bI (0 ≤ x.toInt ∧ x.toInt ≤ 3)))), h)
  | _ => none
theorem sw_T_isEntryPart {h : qH} {x : Int32} : sm_T_isEntryPart [.int x] h = some (True, (some (.int (bI (0 ≤ x.toInt ∧ x.toInt ≤ 3)))), h) := nrfl rfl
set_option maxHeartbeats 2000000 in
set_option maxRecDepth 100000 in
theorem t_T_isEntryPart {l : Launch} {V : qV} {d : Nat} (hd : 1 ≤ d) {h : qH} {x : Int32} (hp : True) : T l V mi_T_isEntryPart (rm d) 0 0 [.int x] h (fun v h' => v = (some (.int (bI (0 ≤ x.toInt ∧ x.toInt ≤ 3)))) ∧ h' = h) := by
  refine T_ev qm_T_isEntryPart [.int x] rfl rfl (Nat.le_of_ble_eq_true rfl) ok_T_isEntryPart (sm0_ok (d := d - 1) (by omega)) (fun _ => false) 200 (by omega) (fun K kK => ?_)
  simp (disch := omega) only [ev_s, evN_ap, List.getElem?_cons_zero, List.getElem?_cons_succ, List.set_cons_zero, List.set_cons_succ, Bool.false_eq_true, ↓reduceIte, qrest_n, qrest_1, qrest_2, qrest_3, qrest_4, qrest_5, qrest_6, qtr_i, qtr_r, true_and, and_true, List.length_cons, List.length_nil, Int.cast_ofNat_Int, Int32.toInt_zero, false_implies, true_implies, not_false_eq_true, not_true_eq_false, Option.toList_some, Option.toList_none, List.cons_append, List.nil_append, Nat.reduceBEq, Nat.reduceEqDiff, Bool.or_self, or_self, Nat.reduceAdd, Nat.reduceLT, Nat.zero_add, Int.reduceAdd, Int.reduceLE, Int.reduceLT, Int.reduceEq, and_self, Int.reduceNeg, qrok_i, qrok_b0, qrok_b1, qrok_bI, Option.some.injEq, Value.int.injEq, J_bI0, J_bI1, Classical.not_not, Int.zero_add, Int.add_zero, Int.sub_zero, false_and, and_false, and_true, true_and, e_0, v_0, e_1, v_1, e_13, v_13, e_14, v_14, e_15, v_15, e_40, c_2, c_4, r_T_isEntryPart_0, r_T_isEntryPart_1, r_T_isEntryPart_4, r_T_isEntryPart_5, r_T_isEntryPart_6, r_T_isEntryPart_9, r_T_isEntryPart_10, r_T_isEntryPart_13, r_T_isEntryPart_14, I_val, inB, and_self, Int.reduceLE, Int.reduceLT]
  all_goals (clear kK; first | omega | grind)
theorem sk_T_isEntryPart {l : Launch} {V : qV} {d : Nat} (hd : 1 ≤ d) (as : List Value) (h : qH) (P : Prop) (v : Option Value) (h' : qH) (e : sm_T_isEntryPart as h = some (P, v, h')) (hp : P) : ∃ t, qms[155]? = some t ∧ T l V t (rm d) 0 0 as h (fun v' h'' => v' = v ∧ h'' = h') ∧ (t.2.2.2.2.2.2 ≠ 0 → ∃ x as', as = .ref x :: as' ∧ (hK h x).1 = t.2.2.2.2.2.1 ∧ t.2.2.2.2.2.1 < 10) := by
  unfold sm_T_isEntryPart at e
  split at e
  · cases e
    exact ⟨_, qm_T_isEntryPart, t_T_isEntryPart hd hp, fun q => absurd rfl q⟩
  · cases e
noncomputable def sm_T_entryOf (as : List Value) (h : qH) : Option (Prop × Option Value × qH) := match as with
  | [.int x, .int y, .int z, .int u] => some (True, (some (.int (enO x y z u))), h)
  | _ => none
theorem sw_T_entryOf {h : qH} {x y z u : Int32} : sm_T_entryOf [.int x, .int y, .int z, .int u] h = some (True, (some (.int (enO x y z u))), h) := nrfl rfl
set_option maxHeartbeats 2000000 in
set_option maxRecDepth 100000 in
theorem t_T_entryOf {l : Launch} {V : qV} {d : Nat} (hd : 1 ≤ d) {h : qH} {x y z u : Int32} (hp : True) : T l V mi_T_entryOf (rm d) 0 0 [.int x, .int y, .int z, .int u] h (fun v h' => v = (some (.int (enO x y z u))) ∧ h' = h) := by
  refine T_ev qm_T_entryOf [.int x, .int y, .int z, .int u] rfl rfl (Nat.le_of_ble_eq_true rfl) ok_T_entryOf (sm0_ok (d := d - 1) (by omega)) (fun _ => false) 200 (by omega) (fun K kK => ?_)
  simp (disch := omega) only [ev_s, evN_ap, List.getElem?_cons_zero, List.getElem?_cons_succ, List.set_cons_zero, List.set_cons_succ, Bool.false_eq_true, ↓reduceIte, qrest_n, qrest_1, qrest_2, qrest_3, qrest_4, qrest_5, qrest_6, qtr_i, qtr_r, true_and, and_true, List.length_cons, List.length_nil, Int.cast_ofNat_Int, Int32.toInt_zero, false_implies, true_implies, not_false_eq_true, not_true_eq_false, Option.toList_some, Option.toList_none, List.cons_append, List.nil_append, Nat.reduceBEq, Nat.reduceEqDiff, Bool.or_self, or_self, Nat.reduceAdd, Nat.reduceLT, Nat.zero_add, Int.reduceAdd, Int.reduceLE, Int.reduceLT, Int.reduceEq, and_self, Int.reduceNeg, qrok_i, qrok_b0, qrok_b1, qrok_bI, Option.some.injEq, Value.int.injEq, J_bI0, J_bI1, Classical.not_not, Int.zero_add, Int.add_zero, Int.sub_zero, false_and, and_false, and_true, true_and, e_0, v_0, e_1, v_1, e_6, v_6, e_40, b_4, b_6, r_T_entryOf_0, r_T_entryOf_1, r_T_entryOf_3, r_T_entryOf_4, r_T_entryOf_5, r_T_entryOf_7, r_T_entryOf_8, r_T_entryOf_9, r_T_entryOf_10, r_T_entryOf_12, r_T_entryOf_13, r_T_entryOf_14, r_T_entryOf_15, r_T_entryOf_16, enO]
theorem sk_T_entryOf {l : Launch} {V : qV} {d : Nat} (hd : 1 ≤ d) (as : List Value) (h : qH) (P : Prop) (v : Option Value) (h' : qH) (e : sm_T_entryOf as h = some (P, v, h')) (hp : P) : ∃ t, qms[160]? = some t ∧ T l V t (rm d) 0 0 as h (fun v' h'' => v' = v ∧ h'' = h') ∧ (t.2.2.2.2.2.2 ≠ 0 → ∃ x as', as = .ref x :: as' ∧ (hK h x).1 = t.2.2.2.2.2.1 ∧ t.2.2.2.2.2.1 < 10) := by
  unfold sm_T_entryOf at e
  split at e
  · cases e
    exact ⟨_, qm_T_entryOf, t_T_entryOf hd hp, fun q => absurd rfl q⟩
  · cases e
noncomputable def sm_T_termOf (as : List Value) (h : qH) : Option (Prop × Option Value × qH) := match as with
  | [.int x] => some (True, (some (.int (tmO x))), h)
  | _ => none
theorem sw_T_termOf {h : qH} {x : Int32} : sm_T_termOf [.int x] h = some (True, (some (.int (tmO x))), h) := nrfl rfl
set_option maxHeartbeats 2000000 in
set_option maxRecDepth 100000 in
theorem t_T_termOf {l : Launch} {V : qV} {d : Nat} (hd : 1 ≤ d) {h : qH} {x : Int32} (hp : True) : T l V mi_T_termOf (rm d) 0 0 [.int x] h (fun v h' => v = (some (.int (tmO x))) ∧ h' = h) := by
  refine T_ev qm_T_termOf [.int x] rfl rfl (Nat.le_of_ble_eq_true rfl) ok_T_termOf (sm0_ok (d := d - 1) (by omega)) (fun _ => false) 200 (by omega) (fun K kK => ?_)
  simp (disch := omega) only [ev_s, evN_ap, List.getElem?_cons_zero, List.getElem?_cons_succ, List.set_cons_zero, List.set_cons_succ, Bool.false_eq_true, ↓reduceIte, qrest_n, qrest_1, qrest_2, qrest_3, qrest_4, qrest_5, qrest_6, qtr_i, qtr_r, true_and, and_true, List.length_cons, List.length_nil, Int.cast_ofNat_Int, Int32.toInt_zero, false_implies, true_implies, not_false_eq_true, not_true_eq_false, Option.toList_some, Option.toList_none, List.cons_append, List.nil_append, Nat.reduceBEq, Nat.reduceEqDiff, Bool.or_self, or_self, Nat.reduceAdd, Nat.reduceLT, Nat.zero_add, Int.reduceAdd, Int.reduceLE, Int.reduceLT, Int.reduceEq, and_self, Int.reduceNeg, qrok_i, qrok_b0, qrok_b1, qrok_bI, Option.some.injEq, Value.int.injEq, J_bI0, J_bI1, Classical.not_not, Int.zero_add, Int.add_zero, Int.sub_zero, false_and, and_false, and_true, true_and, e_0, v_0, e_1, v_1, e_6, v_6, e_40, b_7, r_T_termOf_0, r_T_termOf_1, r_T_termOf_3, r_T_termOf_4, tmO]
theorem sk_T_termOf {l : Launch} {V : qV} {d : Nat} (hd : 1 ≤ d) (as : List Value) (h : qH) (P : Prop) (v : Option Value) (h' : qH) (e : sm_T_termOf as h = some (P, v, h')) (hp : P) : ∃ t, qms[161]? = some t ∧ T l V t (rm d) 0 0 as h (fun v' h'' => v' = v ∧ h'' = h') ∧ (t.2.2.2.2.2.2 ≠ 0 → ∃ x as', as = .ref x :: as' ∧ (hK h x).1 = t.2.2.2.2.2.1 ∧ t.2.2.2.2.2.1 < 10) := by
  unfold sm_T_termOf at e
  split at e
  · cases e
    exact ⟨_, qm_T_termOf, t_T_termOf hd hp, fun q => absurd rfl q⟩
  · cases e
noncomputable def sm_T_kindOf (as : List Value) (h : qH) : Option (Prop × Option Value × qH) := match as with
  | [.int x] => some (True, (some (.int (kdO x))), h)
  | _ => none
theorem sw_T_kindOf {h : qH} {x : Int32} : sm_T_kindOf [.int x] h = some (True, (some (.int (kdO x))), h) := nrfl rfl
set_option maxHeartbeats 2000000 in
set_option maxRecDepth 100000 in
theorem t_T_kindOf {l : Launch} {V : qV} {d : Nat} (hd : 1 ≤ d) {h : qH} {x : Int32} (hp : True) : T l V mi_T_kindOf (rm d) 0 0 [.int x] h (fun v h' => v = (some (.int (kdO x))) ∧ h' = h) := by
  refine T_ev qm_T_kindOf [.int x] rfl rfl (Nat.le_of_ble_eq_true rfl) ok_T_kindOf (sm0_ok (d := d - 1) (by omega)) (fun _ => false) 200 (by omega) (fun K kK => ?_)
  simp (disch := omega) only [ev_s, evN_ap, List.getElem?_cons_zero, List.getElem?_cons_succ, List.set_cons_zero, List.set_cons_succ, Bool.false_eq_true, ↓reduceIte, qrest_n, qrest_1, qrest_2, qrest_3, qrest_4, qrest_5, qrest_6, qtr_i, qtr_r, true_and, and_true, List.length_cons, List.length_nil, Int.cast_ofNat_Int, Int32.toInt_zero, false_implies, true_implies, not_false_eq_true, not_true_eq_false, Option.toList_some, Option.toList_none, List.cons_append, List.nil_append, Nat.reduceBEq, Nat.reduceEqDiff, Bool.or_self, or_self, Nat.reduceAdd, Nat.reduceLT, Nat.zero_add, Int.reduceAdd, Int.reduceLE, Int.reduceLT, Int.reduceEq, and_self, Int.reduceNeg, qrok_i, qrok_b0, qrok_b1, qrok_bI, Option.some.injEq, Value.int.injEq, J_bI0, J_bI1, Classical.not_not, Int.zero_add, Int.add_zero, Int.sub_zero, false_and, and_false, and_true, true_and, e_0, v_0, e_1, v_1, e_6, v_6, e_40, b_3, b_7, r_T_kindOf_0, r_T_kindOf_1, r_T_kindOf_3, r_T_kindOf_4, r_T_kindOf_5, r_T_kindOf_6, kdO]
theorem sk_T_kindOf {l : Launch} {V : qV} {d : Nat} (hd : 1 ≤ d) (as : List Value) (h : qH) (P : Prop) (v : Option Value) (h' : qH) (e : sm_T_kindOf as h = some (P, v, h')) (hp : P) : ∃ t, qms[162]? = some t ∧ T l V t (rm d) 0 0 as h (fun v' h'' => v' = v ∧ h'' = h') ∧ (t.2.2.2.2.2.2 ≠ 0 → ∃ x as', as = .ref x :: as' ∧ (hK h x).1 = t.2.2.2.2.2.1 ∧ t.2.2.2.2.2.1 < 10) := by
  unfold sm_T_kindOf at e
  split at e
  · cases e
    exact ⟨_, qm_T_kindOf, t_T_kindOf hd hp, fun q => absurd rfl q⟩
  · cases e
noncomputable def sm_T_firstOf (as : List Value) (h : qH) : Option (Prop × Option Value × qH) := match as with
  | [.int x] => some (True, (some (.int (fsO x))), h)
  | _ => none
theorem sw_T_firstOf {h : qH} {x : Int32} : sm_T_firstOf [.int x] h = some (True, (some (.int (fsO x))), h) := nrfl rfl
set_option maxHeartbeats 2000000 in
set_option maxRecDepth 100000 in
theorem t_T_firstOf {l : Launch} {V : qV} {d : Nat} (hd : 1 ≤ d) {h : qH} {x : Int32} (hp : True) : T l V mi_T_firstOf (rm d) 0 0 [.int x] h (fun v h' => v = (some (.int (fsO x))) ∧ h' = h) := by
  refine T_ev qm_T_firstOf [.int x] rfl rfl (Nat.le_of_ble_eq_true rfl) ok_T_firstOf (sm0_ok (d := d - 1) (by omega)) (fun _ => false) 200 (by omega) (fun K kK => ?_)
  simp (disch := omega) only [ev_s, evN_ap, List.getElem?_cons_zero, List.getElem?_cons_succ, List.set_cons_zero, List.set_cons_succ, Bool.false_eq_true, ↓reduceIte, qrest_n, qrest_1, qrest_2, qrest_3, qrest_4, qrest_5, qrest_6, qtr_i, qtr_r, true_and, and_true, List.length_cons, List.length_nil, Int.cast_ofNat_Int, Int32.toInt_zero, false_implies, true_implies, not_false_eq_true, not_true_eq_false, Option.toList_some, Option.toList_none, List.cons_append, List.nil_append, Nat.reduceBEq, Nat.reduceEqDiff, Bool.or_self, or_self, Nat.reduceAdd, Nat.reduceLT, Nat.zero_add, Int.reduceAdd, Int.reduceLE, Int.reduceLT, Int.reduceEq, and_self, Int.reduceNeg, qrok_i, qrok_b0, qrok_b1, qrok_bI, Option.some.injEq, Value.int.injEq, J_bI0, J_bI1, Classical.not_not, Int.zero_add, Int.add_zero, Int.sub_zero, false_and, and_false, and_true, true_and, e_0, v_0, e_1, v_1, e_6, v_6, e_40, b_3, b_7, r_T_firstOf_0, r_T_firstOf_1, r_T_firstOf_3, r_T_firstOf_4, r_T_firstOf_6, r_T_firstOf_7, fsO]
theorem sk_T_firstOf {l : Launch} {V : qV} {d : Nat} (hd : 1 ≤ d) (as : List Value) (h : qH) (P : Prop) (v : Option Value) (h' : qH) (e : sm_T_firstOf as h = some (P, v, h')) (hp : P) : ∃ t, qms[163]? = some t ∧ T l V t (rm d) 0 0 as h (fun v' h'' => v' = v ∧ h'' = h') ∧ (t.2.2.2.2.2.2 ≠ 0 → ∃ x as', as = .ref x :: as' ∧ (hK h x).1 = t.2.2.2.2.2.1 ∧ t.2.2.2.2.2.1 < 10) := by
  unfold sm_T_firstOf at e
  split at e
  · cases e
    exact ⟨_, qm_T_firstOf, t_T_firstOf hd hp, fun q => absurd rfl q⟩
  · cases e
noncomputable def sm_T_secondOf (as : List Value) (h : qH) : Option (Prop × Option Value × qH) := match as with
  | [.int x] => some (True, (some (.int (scO x))), h)
  | _ => none
theorem sw_T_secondOf {h : qH} {x : Int32} : sm_T_secondOf [.int x] h = some (True, (some (.int (scO x))), h) := nrfl rfl
set_option maxHeartbeats 2000000 in
set_option maxRecDepth 100000 in
theorem t_T_secondOf {l : Launch} {V : qV} {d : Nat} (hd : 1 ≤ d) {h : qH} {x : Int32} (hp : True) : T l V mi_T_secondOf (rm d) 0 0 [.int x] h (fun v h' => v = (some (.int (scO x))) ∧ h' = h) := by
  refine T_ev qm_T_secondOf [.int x] rfl rfl (Nat.le_of_ble_eq_true rfl) ok_T_secondOf (sm0_ok (d := d - 1) (by omega)) (fun _ => false) 200 (by omega) (fun K kK => ?_)
  simp (disch := omega) only [ev_s, evN_ap, List.getElem?_cons_zero, List.getElem?_cons_succ, List.set_cons_zero, List.set_cons_succ, Bool.false_eq_true, ↓reduceIte, qrest_n, qrest_1, qrest_2, qrest_3, qrest_4, qrest_5, qrest_6, qtr_i, qtr_r, true_and, and_true, List.length_cons, List.length_nil, Int.cast_ofNat_Int, Int32.toInt_zero, false_implies, true_implies, not_false_eq_true, not_true_eq_false, Option.toList_some, Option.toList_none, List.cons_append, List.nil_append, Nat.reduceBEq, Nat.reduceEqDiff, Bool.or_self, or_self, Nat.reduceAdd, Nat.reduceLT, Nat.zero_add, Int.reduceAdd, Int.reduceLE, Int.reduceLT, Int.reduceEq, and_self, Int.reduceNeg, qrok_i, qrok_b0, qrok_b1, qrok_bI, Option.some.injEq, Value.int.injEq, J_bI0, J_bI1, Classical.not_not, Int.zero_add, Int.add_zero, Int.sub_zero, false_and, and_false, and_true, true_and, e_0, v_0, e_1, v_1, e_6, v_6, e_40, b_3, r_T_secondOf_0, r_T_secondOf_1, r_T_secondOf_3, r_T_secondOf_4, scO]
theorem sk_T_secondOf {l : Launch} {V : qV} {d : Nat} (hd : 1 ≤ d) (as : List Value) (h : qH) (P : Prop) (v : Option Value) (h' : qH) (e : sm_T_secondOf as h = some (P, v, h')) (hp : P) : ∃ t, qms[164]? = some t ∧ T l V t (rm d) 0 0 as h (fun v' h'' => v' = v ∧ h'' = h') ∧ (t.2.2.2.2.2.2 ≠ 0 → ∃ x as', as = .ref x :: as' ∧ (hK h x).1 = t.2.2.2.2.2.1 ∧ t.2.2.2.2.2.1 < 10) := by
  unfold sm_T_secondOf at e
  split at e
  · cases e
    exact ⟨_, qm_T_secondOf, t_T_secondOf hd hp, fun q => absurd rfl q⟩
  · cases e
noncomputable def sm_T_has (as : List Value) (h : qH) : Option (Prop × Option Value × qH) := match as with
  | [.int x, .int y] => some (True, (some (.int (bI (hasP x y)))), h)
  | _ => none
theorem sw_T_has {h : qH} {x y : Int32} : sm_T_has [.int x, .int y] h = some (True, (some (.int (bI (hasP x y)))), h) := nrfl rfl
set_option maxHeartbeats 2000000 in
set_option maxRecDepth 100000 in
theorem t_T_has {l : Launch} {V : qV} {d : Nat} (hd : 1 ≤ d) {h : qH} {x y : Int32} (hp : True) : T l V mi_T_has (rm d) 0 0 [.int x, .int y] h (fun v h' => v = (some (.int (bI (hasP x y)))) ∧ h' = h) := by
  refine T_ev qm_T_has [.int x, .int y] rfl rfl (Nat.le_of_ble_eq_true rfl) ok_T_has (sm0_ok (d := d - 1) (by omega)) (fun _ => false) 200 (by omega) (fun K kK => ?_)
  simp (disch := omega) only [ev_s, evN_ap, List.getElem?_cons_zero, List.getElem?_cons_succ, List.set_cons_zero, List.set_cons_succ, Bool.false_eq_true, ↓reduceIte, qrest_n, qrest_1, qrest_2, qrest_3, qrest_4, qrest_5, qrest_6, qtr_i, qtr_r, true_and, and_true, List.length_cons, List.length_nil, Int.cast_ofNat_Int, Int32.toInt_zero, false_implies, true_implies, not_false_eq_true, not_true_eq_false, Option.toList_some, Option.toList_none, List.cons_append, List.nil_append, Nat.reduceBEq, Nat.reduceEqDiff, Bool.or_self, or_self, Nat.reduceAdd, Nat.reduceLT, Nat.zero_add, Int.reduceAdd, Int.reduceLE, Int.reduceLT, Int.reduceEq, and_self, Int.reduceNeg, qrok_i, qrok_b0, qrok_b1, qrok_bI, Option.some.injEq, Value.int.injEq, J_bI0, J_bI1, Classical.not_not, Int.zero_add, Int.add_zero, Int.sub_zero, false_and, and_false, and_true, true_and, e_0, v_0, e_1, v_1, e_6, v_6, e_13, v_13, e_15, v_15, e_40, c_1, b_3, b_7, r_T_has_0, r_T_has_1, r_T_has_2, r_T_has_3, r_T_has_4, r_T_has_5, r_T_has_6, r_T_has_9, r_T_has_10, r_T_has_13, r_T_has_14, hasP, I_val, and_self, Int.reduceLE, Int.reduceLT]
  all_goals (clear kK; first | omega | grind)
  all_goals (clear kK; first | omega | grind)
theorem sk_T_has {l : Launch} {V : qV} {d : Nat} (hd : 1 ≤ d) (as : List Value) (h : qH) (P : Prop) (v : Option Value) (h' : qH) (e : sm_T_has as h = some (P, v, h')) (hp : P) : ∃ t, qms[166]? = some t ∧ T l V t (rm d) 0 0 as h (fun v' h'' => v' = v ∧ h'' = h') ∧ (t.2.2.2.2.2.2 ≠ 0 → ∃ x as', as = .ref x :: as' ∧ (hK h x).1 = t.2.2.2.2.2.1 ∧ t.2.2.2.2.2.1 < 10) := by
  unfold sm_T_has at e
  split at e
  · cases e
    exact ⟨_, qm_T_has, t_T_has hd hp, fun q => absurd rfl q⟩
  · cases e
noncomputable def sm_J_bitCount (as : List Value) (h : qH) : Option (Prop × Option Value × qH) := match as with
  | [.int x] => some (True, (some (.int (bcO x))), h)
  | _ => none
theorem sw_J_bitCount {h : qH} {x : Int32} : sm_J_bitCount [.int x] h = some (True, (some (.int (bcO x))), h) := nrfl rfl
set_option maxHeartbeats 2000000 in
set_option maxRecDepth 100000 in
theorem t_J_bitCount {l : Launch} {V : qV} {d : Nat} (hd : 1 ≤ d) {h : qH} {x : Int32} (hp : True) : T l V mi_J_bitCount (rm d) 0 0 [.int x] h (fun v h' => v = (some (.int (bcO x))) ∧ h' = h) := by
  refine T_ev qm_J_bitCount [.int x] rfl rfl (Nat.le_of_ble_eq_true rfl) ok_J_bitCount (sm0_ok (d := d - 1) (by omega)) (fun _ => false) 200 (by omega) (fun K kK => ?_)
  simp (disch := omega) only [ev_s, evN_ap, List.getElem?_cons_zero, List.getElem?_cons_succ, List.set_cons_zero, List.set_cons_succ, Bool.false_eq_true, ↓reduceIte, qrest_n, qrest_1, qrest_2, qrest_3, qrest_4, qrest_5, qrest_6, qtr_i, qtr_r, true_and, and_true, List.length_cons, List.length_nil, Int.cast_ofNat_Int, Int32.toInt_zero, false_implies, true_implies, not_false_eq_true, not_true_eq_false, Option.toList_some, Option.toList_none, List.cons_append, List.nil_append, Nat.reduceBEq, Nat.reduceEqDiff, Bool.or_self, or_self, Nat.reduceAdd, Nat.reduceLT, Nat.zero_add, Int.reduceAdd, Int.reduceLE, Int.reduceLT, Int.reduceEq, and_self, Int.reduceNeg, qrok_i, qrok_b0, qrok_b1, qrok_bI, Option.some.injEq, Value.int.injEq, J_bI0, J_bI1, Classical.not_not, Int.zero_add, Int.add_zero, Int.sub_zero, false_and, and_false, and_true, true_and, e_0, v_0, e_1, v_1, e_3, v_3, e_6, v_6, e_40, b_0, b_1, b_3, b_8, r_J_bitCount_0, r_J_bitCount_1, r_J_bitCount_2, r_J_bitCount_3, r_J_bitCount_4, r_J_bitCount_7, r_J_bitCount_8, r_J_bitCount_9, r_J_bitCount_10, r_J_bitCount_11, r_J_bitCount_14, r_J_bitCount_15, r_J_bitCount_16, r_J_bitCount_17, r_J_bitCount_18, r_J_bitCount_21, r_J_bitCount_22, r_J_bitCount_23, r_J_bitCount_24, r_J_bitCount_25, r_J_bitCount_26, r_J_bitCount_27, r_J_bitCount_28, r_J_bitCount_29, r_J_bitCount_32, r_J_bitCount_33, r_J_bitCount_34, r_J_bitCount_35, r_J_bitCount_36, r_J_bitCount_38, r_J_bitCount_39, r_J_bitCount_40, r_J_bitCount_41, r_J_bitCount_42, r_J_bitCount_43, r_J_bitCount_45, r_J_bitCount_46, r_J_bitCount_47, r_J_bitCount_48, r_J_bitCount_49, r_J_bitCount_51, r_J_bitCount_52, bcO, bc1, bc2, bc3, bc4, bc5, ushO]
theorem sk_J_bitCount {l : Launch} {V : qV} {d : Nat} (hd : 1 ≤ d) (as : List Value) (h : qH) (P : Prop) (v : Option Value) (h' : qH) (e : sm_J_bitCount as h = some (P, v, h')) (hp : P) : ∃ t, qms[312]? = some t ∧ T l V t (rm d) 0 0 as h (fun v' h'' => v' = v ∧ h'' = h') ∧ (t.2.2.2.2.2.2 ≠ 0 → ∃ x as', as = .ref x :: as' ∧ (hK h x).1 = t.2.2.2.2.2.1 ∧ t.2.2.2.2.2.1 < 10) := by
  unfold sm_J_bitCount at e
  split at e
  · cases e
    exact ⟨_, qm_J_bitCount, t_J_bitCount hd hp, fun q => absurd rfl q⟩
  · cases e
def nK (h : qH) (a : Nat) : Prop := (hK h a).1 = 3 ∧ (hK h (hR h a 6)).1 = 6
noncomputable def sm_Node_base (as : List Value) (h : qH) : Option (Prop × Option Value × qH) := match as with
  | [.ref a] => some ((hK h a).1 = 3 ∧ (hK h (hR h a 6)).1 = 6, (some (.int (hM h (hR h a 6) 0))), h)
  | _ => none
theorem sw_Node_base {h : qH} {a : Nat} : sm_Node_base [.ref a] h = some ((hK h a).1 = 3 ∧ (hK h (hR h a 6)).1 = 6, (some (.int (hM h (hR h a 6) 0))), h) := nrfl rfl
set_option maxHeartbeats 2000000 in
set_option maxRecDepth 100000 in
theorem t_Node_base {l : Launch} {V : qV} {d : Nat} (hd : 1 ≤ d) {h : qH} {a : Nat} (hp : (hK h a).1 = 3 ∧ (hK h (hR h a 6)).1 = 6) : T l V mi_Node_base (rm d) 0 0 [.ref a] h (fun v h' => v = (some (.int (hM h (hR h a 6) 0))) ∧ h' = h) := by
  refine T_ev qm_Node_base [.ref a] rfl rfl (Nat.le_of_ble_eq_true rfl) ok_Node_base (sm0_ok (d := d - 1) (by omega)) (fun _ => false) 200 (by omega) (fun K kK => ?_)
  obtain ⟨p1, p2⟩ := hp
  simp (disch := omega) only [ev_s, evN_ap, List.getElem?_cons_zero, List.getElem?_cons_succ, List.set_cons_zero, List.set_cons_succ, Bool.false_eq_true, ↓reduceIte, qrest_n, qrest_1, qrest_2, qrest_3, qrest_4, qrest_5, qrest_6, qtr_i, qtr_r, true_and, and_true, List.length_cons, List.length_nil, Int.cast_ofNat_Int, Int32.toInt_zero, false_implies, true_implies, not_false_eq_true, not_true_eq_false, Option.toList_some, Option.toList_none, List.cons_append, List.nil_append, Nat.reduceBEq, Nat.reduceEqDiff, Bool.or_self, or_self, Nat.reduceAdd, Nat.reduceLT, Nat.zero_add, Int.reduceAdd, Int.reduceLE, Int.reduceLT, Int.reduceEq, and_self, Int.reduceNeg, qrok_i, qrok_b0, qrok_b1, qrok_bI, Option.some.injEq, Value.int.injEq, J_bI0, J_bI1, Classical.not_not, Int.zero_add, Int.add_zero, Int.sub_zero, false_and, and_false, and_true, true_and, e_2, v_2, e_19, v_19, e_20, v_20, e_40, r_Node_base_0, r_Node_base_1, r_Node_base_4, r_Node_base_7, p1, p2, and_self]
theorem sk_Node_base {l : Launch} {V : qV} {d : Nat} (hd : 1 ≤ d) (as : List Value) (h : qH) (P : Prop) (v : Option Value) (h' : qH) (e : sm_Node_base as h = some (P, v, h')) (hp : P) : ∃ t, qms[33]? = some t ∧ T l V t (rm d) 0 0 as h (fun v' h'' => v' = v ∧ h'' = h') ∧ (t.2.2.2.2.2.2 ≠ 0 → ∃ x as', as = .ref x :: as' ∧ (hK h x).1 = t.2.2.2.2.2.1 ∧ t.2.2.2.2.2.1 < 10) := by
  unfold sm_Node_base at e
  split at e
  · cases e
    exact ⟨_, qm_Node_base, t_Node_base hd hp, fun _ => ⟨_, _, rfl, hp.1, by decide⟩⟩
  · cases e
noncomputable def sm_Node_last (as : List Value) (h : qH) : Option (Prop × Option Value × qH) := match as with
  | [.ref a] => some ((hK h a).1 = 3 ∧ (hK h (hR h a 6)).1 = 6, (some (.int (hM h (hR h a 6) 0 + hM h a 5))), h)
  | _ => none
theorem sw_Node_last {h : qH} {a : Nat} : sm_Node_last [.ref a] h = some ((hK h a).1 = 3 ∧ (hK h (hR h a 6)).1 = 6, (some (.int (hM h (hR h a 6) 0 + hM h a 5))), h) := nrfl rfl
set_option maxHeartbeats 2000000 in
set_option maxRecDepth 100000 in
theorem t_Node_last {l : Launch} {V : qV} {d : Nat} (hd : 1 ≤ d) {h : qH} {a : Nat} (hp : (hK h a).1 = 3 ∧ (hK h (hR h a 6)).1 = 6) : T l V mi_Node_last (rm d) 0 0 [.ref a] h (fun v h' => v = (some (.int (hM h (hR h a 6) 0 + hM h a 5))) ∧ h' = h) := by
  refine T_ev qm_Node_last [.ref a] rfl rfl (Nat.le_of_ble_eq_true rfl) ok_Node_last (sm0_ok (d := d - 1) (by omega)) (fun _ => false) 200 (by omega) (fun K kK => ?_)
  obtain ⟨p1, p2⟩ := hp
  simp (disch := omega) only [ev_s, evN_ap, List.getElem?_cons_zero, List.getElem?_cons_succ, List.set_cons_zero, List.set_cons_succ, Bool.false_eq_true, ↓reduceIte, qrest_n, qrest_1, qrest_2, qrest_3, qrest_4, qrest_5, qrest_6, qtr_i, qtr_r, true_and, and_true, List.length_cons, List.length_nil, Int.cast_ofNat_Int, Int32.toInt_zero, false_implies, true_implies, not_false_eq_true, not_true_eq_false, Option.toList_some, Option.toList_none, List.cons_append, List.nil_append, Nat.reduceBEq, Nat.reduceEqDiff, Bool.or_self, or_self, Nat.reduceAdd, Nat.reduceLT, Nat.zero_add, Int.reduceAdd, Int.reduceLE, Int.reduceLT, Int.reduceEq, and_self, Int.reduceNeg, qrok_i, qrok_b0, qrok_b1, qrok_bI, Option.some.injEq, Value.int.injEq, J_bI0, J_bI1, Classical.not_not, Int.zero_add, Int.add_zero, Int.sub_zero, false_and, and_false, and_true, true_and, e_2, v_2, e_6, v_6, e_19, v_19, e_20, v_20, e_40, b_0, r_Node_last_0, r_Node_last_1, r_Node_last_4, r_Node_last_7, r_Node_last_8, r_Node_last_11, r_Node_last_12, p1, p2, and_self]
theorem sk_Node_last {l : Launch} {V : qV} {d : Nat} (hd : 1 ≤ d) (as : List Value) (h : qH) (P : Prop) (v : Option Value) (h' : qH) (e : sm_Node_last as h = some (P, v, h')) (hp : P) : ∃ t, qms[34]? = some t ∧ T l V t (rm d) 0 0 as h (fun v' h'' => v' = v ∧ h'' = h') ∧ (t.2.2.2.2.2.2 ≠ 0 → ∃ x as', as = .ref x :: as' ∧ (hK h x).1 = t.2.2.2.2.2.1 ∧ t.2.2.2.2.2.1 < 10) := by
  unfold sm_Node_last at e
  split at e
  · cases e
    exact ⟨_, qm_Node_last, t_Node_last hd hp, fun _ => ⟨_, _, rfl, hp.1, by decide⟩⟩
  · cases e
noncomputable def sm_Node_leads (as : List Value) (h : qH) : Option (Prop × Option Value × qH) := match as with
  | [.ref a] => some ((hK h a).1 = 3 ∧ True, (some (.int (bI (¬ (hM h a 1).toInt = 0 ∧ (hM h a 7).toInt = 2)))), h)
  | _ => none
theorem sw_Node_leads {h : qH} {a : Nat} : sm_Node_leads [.ref a] h = some ((hK h a).1 = 3 ∧ True, (some (.int (bI (¬ (hM h a 1).toInt = 0 ∧ (hM h a 7).toInt = 2)))), h) := nrfl rfl
set_option maxHeartbeats 2000000 in
set_option maxRecDepth 100000 in
theorem t_Node_leads {l : Launch} {V : qV} {d : Nat} (hd : 1 ≤ d) {h : qH} {a : Nat} (hp : (hK h a).1 = 3 ∧ True) : T l V mi_Node_leads (rm d) 0 0 [.ref a] h (fun v h' => v = (some (.int (bI (¬ (hM h a 1).toInt = 0 ∧ (hM h a 7).toInt = 2)))) ∧ h' = h) := by
  refine T_ev qm_Node_leads [.ref a] rfl rfl (Nat.le_of_ble_eq_true rfl) ok_Node_leads (sm0_ok (d := d - 1) (by omega)) (fun _ => false) 200 (by omega) (fun K kK => ?_)
  obtain ⟨p1, p2⟩ := hp
  simp (disch := omega) only [ev_s, evN_ap, List.getElem?_cons_zero, List.getElem?_cons_succ, List.set_cons_zero, List.set_cons_succ, Bool.false_eq_true, ↓reduceIte, qrest_n, qrest_1, qrest_2, qrest_3, qrest_4, qrest_5, qrest_6, qtr_i, qtr_r, true_and, and_true, List.length_cons, List.length_nil, Int.cast_ofNat_Int, Int32.toInt_zero, false_implies, true_implies, not_false_eq_true, not_true_eq_false, Option.toList_some, Option.toList_none, List.cons_append, List.nil_append, Nat.reduceBEq, Nat.reduceEqDiff, Bool.or_self, or_self, Nat.reduceAdd, Nat.reduceLT, Nat.zero_add, Int.reduceAdd, Int.reduceLE, Int.reduceLT, Int.reduceEq, and_self, Int.reduceNeg, qrok_i, qrok_b0, qrok_b1, qrok_bI, Option.some.injEq, Value.int.injEq, J_bI0, J_bI1, Classical.not_not, Int.zero_add, Int.add_zero, Int.sub_zero, false_and, and_false, and_true, true_and, e_0, v_0, e_2, v_2, e_13, v_13, e_14, v_14, e_15, v_15, e_19, v_19, e_40, c_0, c_1, r_Node_leads_0, r_Node_leads_1, r_Node_leads_4, r_Node_leads_7, r_Node_leads_8, r_Node_leads_11, r_Node_leads_12, r_Node_leads_15, r_Node_leads_16, r_Node_leads_19, r_Node_leads_20, p1, I_val, and_self]
  all_goals (clear kK; first | omega | grind)
theorem sk_Node_leads {l : Launch} {V : qV} {d : Nat} (hd : 1 ≤ d) (as : List Value) (h : qH) (P : Prop) (v : Option Value) (h' : qH) (e : sm_Node_leads as h = some (P, v, h')) (hp : P) : ∃ t, qms[32]? = some t ∧ T l V t (rm d) 0 0 as h (fun v' h'' => v' = v ∧ h'' = h') ∧ (t.2.2.2.2.2.2 ≠ 0 → ∃ x as', as = .ref x :: as' ∧ (hK h x).1 = t.2.2.2.2.2.1 ∧ t.2.2.2.2.2.1 < 10) := by
  unfold sm_Node_leads at e
  split at e
  · cases e
    exact ⟨_, qm_Node_leads, t_Node_leads hd hp, fun _ => ⟨_, _, rfl, hp.1, by decide⟩⟩
  · cases e
def enI (h : qH) (a : Nat) (y : Int32) : Int32 := if 0 ≤ (y - hM h (hR h a 6) 0 - Int32.ofInt 1).toInt ∧ (y - hM h (hR h a 6) 0 - Int32.ofInt 1).toInt < (hM h a 5).toInt then hM h (hR h a 4) (y - hM h (hR h a 6) 0 - Int32.ofInt 1).toInt else Int32.ofInt 0
def tmI1 (h : qH) (a : Nat) (y : Int32) : Int32 := if 0 ≤ (y - hM h (hR h a 6) 0 - Int32.ofInt 1).toInt ∧ (y - hM h (hR h a 6) 0 - Int32.ofInt 1).toInt < (hM h a 5).toInt then tmO (hM h (hR h a 4) (y - hM h (hR h a 6) 0 - Int32.ofInt 1).toInt) else Int32.ofInt 0
noncomputable def tmI (h : qH) (a : Nat) (y : Int32) : Int32 := @ite _ (y.toInt = (hM h (hR h a 6) 0).toInt) (Classical.propDecidable _) (hM h (hR h a 6) 1) (tmI1 h a y)
noncomputable def sm_Node_entry (as : List Value) (h : qH) : Option (Prop × Option Value × qH) := match as with
  | [.ref a, .int y] => some ((hK h a).1 = 3 ∧ (hK h (hR h a 6)).1 = 6 ∧ hK h (hR h a 4) = (100, 48) ∧ (hM h a 5).toInt ≤ 48, (some (.int (enI h a y))), h)
  | _ => none
theorem sw_Node_entry {h : qH} {y : Int32} {a : Nat} : sm_Node_entry [.ref a, .int y] h = some ((hK h a).1 = 3 ∧ (hK h (hR h a 6)).1 = 6 ∧ hK h (hR h a 4) = (100, 48) ∧ (hM h a 5).toInt ≤ 48, (some (.int (enI h a y))), h) := nrfl rfl
set_option maxHeartbeats 2000000 in
set_option maxRecDepth 100000 in
theorem t_Node_entry {l : Launch} {V : qV} {d : Nat} (hd : 1 ≤ d) {h : qH} {y : Int32} {a : Nat} (hp : (hK h a).1 = 3 ∧ (hK h (hR h a 6)).1 = 6 ∧ hK h (hR h a 4) = (100, 48) ∧ (hM h a 5).toInt ≤ 48) : T l V mi_Node_entry (rm d) 0 0 [.ref a, .int y] h (fun v h' => v = (some (.int (enI h a y))) ∧ h' = h) := by
  refine T_ev qm_Node_entry [.ref a, .int y, .retAddr 0] rfl rfl (Nat.le_of_ble_eq_true rfl) ok_Node_entry (sm0_ok (d := d - 1) (by omega)) (fun _ => false) 200 (by omega) (fun K kK => ?_)
  obtain ⟨p1, p2, p3, p4⟩ := hp
  simp (disch := omega) only [ev_s, evN_ap, List.getElem?_cons_zero, List.getElem?_cons_succ, List.set_cons_zero, List.set_cons_succ, Bool.false_eq_true, ↓reduceIte, qrest_n, qrest_1, qrest_2, qrest_3, qrest_4, qrest_5, qrest_6, qtr_i, qtr_r, true_and, and_true, List.length_cons, List.length_nil, Int.cast_ofNat_Int, Int32.toInt_zero, false_implies, true_implies, not_false_eq_true, not_true_eq_false, Option.toList_some, Option.toList_none, List.cons_append, List.nil_append, Nat.reduceBEq, Nat.reduceEqDiff, Bool.or_self, or_self, Nat.reduceAdd, Nat.reduceLT, Nat.zero_add, Int.reduceAdd, Int.reduceLE, Int.reduceLT, Int.reduceEq, and_self, Int.reduceNeg, qrok_i, qrok_b0, qrok_b1, qrok_bI, Option.some.injEq, Value.int.injEq, J_bI0, J_bI1, Classical.not_not, Int.zero_add, Int.add_zero, Int.sub_zero, false_and, and_false, and_true, true_and, e_0, v_0, e_1, v_1, e_2, v_2, e_3, v_3, e_6, v_6, e_13, v_13, e_14, v_14, e_15, v_15, e_19, v_19, e_20, v_20, e_24, v_24, e_40, c_2, c_3, b_1, r_Node_entry_0, r_Node_entry_1, r_Node_entry_2, r_Node_entry_5, r_Node_entry_8, r_Node_entry_9, r_Node_entry_10, r_Node_entry_11, r_Node_entry_12, r_Node_entry_13, r_Node_entry_16, r_Node_entry_17, r_Node_entry_18, r_Node_entry_21, r_Node_entry_24, r_Node_entry_25, r_Node_entry_28, r_Node_entry_29, r_Node_entry_30, r_Node_entry_33, r_Node_entry_34, p1, p2, p3, and_self, inB]
  unfold enI
  clear kK
  refine ⟨fun q => ?_, fun q => ⟨fun q2 => ?_, fun q2 => ⟨⟨by omega, by omega⟩, ?_⟩⟩⟩
  · rw [if_neg (by omega)]
  · rw [if_neg (by omega)]
  · rw [if_pos (by omega)]
theorem sk_Node_entry {l : Launch} {V : qV} {d : Nat} (hd : 1 ≤ d) (as : List Value) (h : qH) (P : Prop) (v : Option Value) (h' : qH) (e : sm_Node_entry as h = some (P, v, h')) (hp : P) : ∃ t, qms[35]? = some t ∧ T l V t (rm d) 0 0 as h (fun v' h'' => v' = v ∧ h'' = h') ∧ (t.2.2.2.2.2.2 ≠ 0 → ∃ x as', as = .ref x :: as' ∧ (hK h x).1 = t.2.2.2.2.2.1 ∧ t.2.2.2.2.2.1 < 10) := by
  unfold sm_Node_entry at e
  split at e
  · cases e
    exact ⟨_, qm_Node_entry, t_Node_entry hd hp, fun _ => ⟨_, _, rfl, hp.1, by decide⟩⟩
  · cases e
noncomputable def sm_Node_termAt (as : List Value) (h : qH) : Option (Prop × Option Value × qH) := match as with
  | [.ref a, .int y] => some ((hK h a).1 = 3 ∧ (hK h (hR h a 6)).1 = 6 ∧ hK h (hR h a 4) = (100, 48) ∧ (hM h a 5).toInt ≤ 48, (some (.int (tmI h a y))), h)
  | _ => none
theorem sw_Node_termAt {h : qH} {y : Int32} {a : Nat} : sm_Node_termAt [.ref a, .int y] h = some ((hK h a).1 = 3 ∧ (hK h (hR h a 6)).1 = 6 ∧ hK h (hR h a 4) = (100, 48) ∧ (hM h a 5).toInt ≤ 48, (some (.int (tmI h a y))), h) := nrfl rfl
set_option maxHeartbeats 2000000 in
set_option maxRecDepth 100000 in
theorem t_Node_termAt {l : Launch} {V : qV} {d : Nat} (hd : 1 ≤ d) {h : qH} {y : Int32} {a : Nat} (hp : (hK h a).1 = 3 ∧ (hK h (hR h a 6)).1 = 6 ∧ hK h (hR h a 4) = (100, 48) ∧ (hM h a 5).toInt ≤ 48) : T l V mi_Node_termAt (rm d) 0 0 [.ref a, .int y] h (fun v h' => v = (some (.int (tmI h a y))) ∧ h' = h) := by
  refine T_ev qm_Node_termAt [.ref a, .int y, .retAddr 0] rfl rfl (Nat.le_of_ble_eq_true rfl) ok_Node_termAt (sm0_ok (d := d - 1) (by omega)) (fun _ => false) 200 (by omega) (fun K kK => ?_)
  obtain ⟨p1, p2, p3, p4⟩ := hp
  simp (disch := omega) only [ev_s, evN_ap, List.getElem?_cons_zero, List.getElem?_cons_succ, List.set_cons_zero, List.set_cons_succ, Bool.false_eq_true, ↓reduceIte, qrest_n, qrest_1, qrest_2, qrest_3, qrest_4, qrest_5, qrest_6, qtr_i, qtr_r, true_and, and_true, List.length_cons, List.length_nil, Int.cast_ofNat_Int, Int32.toInt_zero, false_implies, true_implies, not_false_eq_true, not_true_eq_false, Option.toList_some, Option.toList_none, List.cons_append, List.nil_append, Nat.reduceBEq, Nat.reduceEqDiff, Bool.or_self, or_self, Nat.reduceAdd, Nat.reduceLT, Nat.zero_add, Int.reduceAdd, Int.reduceLE, Int.reduceLT, Int.reduceEq, and_self, Int.reduceNeg, qrok_i, qrok_b0, qrok_b1, qrok_bI, Option.some.injEq, Value.int.injEq, J_bI0, J_bI1, Classical.not_not, Int.zero_add, Int.add_zero, Int.sub_zero, false_and, and_false, and_true, true_and, e_0, v_0, e_1, v_1, e_2, v_2, e_3, v_3, e_6, v_6, e_13, v_13, e_14, v_14, e_15, v_15, e_19, v_19, e_20, v_20, e_24, v_24, e_40, c_1, c_2, c_3, b_1, b_7, r_Node_termAt_0, r_Node_termAt_1, r_Node_termAt_2, r_Node_termAt_5, r_Node_termAt_8, r_Node_termAt_11, r_Node_termAt_12, r_Node_termAt_15, r_Node_termAt_18, r_Node_termAt_19, r_Node_termAt_20, r_Node_termAt_21, r_Node_termAt_24, r_Node_termAt_27, r_Node_termAt_28, r_Node_termAt_29, r_Node_termAt_30, r_Node_termAt_31, r_Node_termAt_32, r_Node_termAt_35, r_Node_termAt_36, r_Node_termAt_37, r_Node_termAt_40, r_Node_termAt_43, r_Node_termAt_44, r_Node_termAt_47, r_Node_termAt_48, r_Node_termAt_49, r_Node_termAt_51, r_Node_termAt_52, r_Node_termAt_55, r_Node_termAt_56, p1, p2, p3, and_self, inB]
  unfold tmI
  clear kK
  refine ⟨fun q => ?_, fun q => ?_⟩
  · rw [if_neg q]
    unfold tmI1 tmO
    refine ⟨fun q => ?_, fun q => ⟨fun q2 => ?_, fun q2 => ⟨⟨by omega, by omega⟩, ?_⟩⟩⟩
    · rw [if_neg (by omega)]
    · rw [if_neg (by omega)]
    · rw [if_pos (by omega)]
  · rw [if_pos q]
theorem sk_Node_termAt {l : Launch} {V : qV} {d : Nat} (hd : 1 ≤ d) (as : List Value) (h : qH) (P : Prop) (v : Option Value) (h' : qH) (e : sm_Node_termAt as h = some (P, v, h')) (hp : P) : ∃ t, qms[36]? = some t ∧ T l V t (rm d) 0 0 as h (fun v' h'' => v' = v ∧ h'' = h') ∧ (t.2.2.2.2.2.2 ≠ 0 → ∃ x as', as = .ref x :: as' ∧ (hK h x).1 = t.2.2.2.2.2.1 ∧ t.2.2.2.2.2.1 < 10) := by
  unfold sm_Node_termAt at e
  split at e
  · cases e
    exact ⟨_, qm_Node_termAt, t_Node_termAt hd hp, fun _ => ⟨_, _, rfl, hp.1, by decide⟩⟩
  · cases e
noncomputable def smH : qSm := fun a as h => if a = 152 then sm_T_isNode as h else if a = 153 then sm_T_isKey as h else if a = 154 then sm_T_isTickCount as h else if a = 155 then sm_T_isEntryPart as h else if a = 160 then sm_T_entryOf as h else if a = 161 then sm_T_termOf as h else sm0 a as h
theorem smH_ok {l : Launch} {V : qV} {d : Nat} (hd : 1 ≤ d) : smok l V d smH := by
  intro a as h P v h' e hp
  unfold smH at e
  split at e
  · rename_i ha; subst ha; exact sk_T_isNode (by omega) _ _ _ _ _ e hp
  split at e
  · rename_i ha; subst ha; exact sk_T_isKey (by omega) _ _ _ _ _ e hp
  split at e
  · rename_i ha; subst ha; exact sk_T_isTickCount (by omega) _ _ _ _ _ e hp
  split at e
  · rename_i ha; subst ha; exact sk_T_isEntryPart (by omega) _ _ _ _ _ e hp
  split at e
  · rename_i ha; subst ha; exact sk_T_entryOf (by omega) _ _ _ _ _ e hp
  split at e
  · rename_i ha; subst ha; exact sk_T_termOf (by omega) _ _ _ _ _ e hp
  exact sm0_ok (d := d) (Nat.zero_le _) _ _ _ _ _ _ e hp
theorem smH_152 {as : List Value} {h : qH} : smH 152 as h = sm_T_isNode as h := nrfl (by simp [smH])
theorem smH_153 {as : List Value} {h : qH} : smH 153 as h = sm_T_isKey as h := nrfl (by simp [smH])
theorem smH_154 {as : List Value} {h : qH} : smH 154 as h = sm_T_isTickCount as h := nrfl (by simp [smH])
theorem smH_155 {as : List Value} {h : qH} : smH 155 as h = sm_T_isEntryPart as h := nrfl (by simp [smH])
theorem smH_160 {as : List Value} {h : qH} : smH 160 as h = sm_T_entryOf as h := nrfl (by simp [smH])
theorem smH_161 {as : List Value} {h : qH} : smH 161 as h = sm_T_termOf as h := nrfl (by simp [smH])
theorem smH_no {k : Nat} {as : List Value} {h : qH} (hk : List.elem k [152, 153, 154, 155, 160, 161] = false) : smH k as h = none := by
  simp only [List.elem_eq_mem, List.mem_cons, List.not_mem_nil, or_false, not_or, decide_eq_false_iff_not] at hk
  simp [hk, smH, sm0]
noncomputable def smJ : qSm := fun a as h => if a = 162 then sm_T_kindOf as h else if a = 163 then sm_T_firstOf as h else if a = 164 then sm_T_secondOf as h else if a = 166 then sm_T_has as h else if a = 312 then sm_J_bitCount as h else smH a as h
theorem smJ_ok {l : Launch} {V : qV} {d : Nat} (hd : 1 ≤ d) : smok l V d smJ := by
  intro a as h P v h' e hp
  unfold smJ at e
  split at e
  · rename_i ha; subst ha; exact sk_T_kindOf (by omega) _ _ _ _ _ e hp
  split at e
  · rename_i ha; subst ha; exact sk_T_firstOf (by omega) _ _ _ _ _ e hp
  split at e
  · rename_i ha; subst ha; exact sk_T_secondOf (by omega) _ _ _ _ _ e hp
  split at e
  · rename_i ha; subst ha; exact sk_T_has (by omega) _ _ _ _ _ e hp
  split at e
  · rename_i ha; subst ha; exact sk_J_bitCount (by omega) _ _ _ _ _ e hp
  exact smH_ok (by omega) _ _ _ _ _ _ e hp
theorem smJ_162 {as : List Value} {h : qH} : smJ 162 as h = sm_T_kindOf as h := nrfl (by simp [smJ, smH])
theorem smJ_163 {as : List Value} {h : qH} : smJ 163 as h = sm_T_firstOf as h := nrfl (by simp [smJ, smH])
theorem smJ_164 {as : List Value} {h : qH} : smJ 164 as h = sm_T_secondOf as h := nrfl (by simp [smJ, smH])
theorem smJ_166 {as : List Value} {h : qH} : smJ 166 as h = sm_T_has as h := nrfl (by simp [smJ, smH])
theorem smJ_312 {as : List Value} {h : qH} : smJ 312 as h = sm_J_bitCount as h := nrfl (by simp [smJ, smH])
theorem smJ_152 {as : List Value} {h : qH} : smJ 152 as h = sm_T_isNode as h := nrfl (by simp [smJ, smH])
theorem smJ_153 {as : List Value} {h : qH} : smJ 153 as h = sm_T_isKey as h := nrfl (by simp [smJ, smH])
theorem smJ_154 {as : List Value} {h : qH} : smJ 154 as h = sm_T_isTickCount as h := nrfl (by simp [smJ, smH])
theorem smJ_155 {as : List Value} {h : qH} : smJ 155 as h = sm_T_isEntryPart as h := nrfl (by simp [smJ, smH])
theorem smJ_160 {as : List Value} {h : qH} : smJ 160 as h = sm_T_entryOf as h := nrfl (by simp [smJ, smH])
theorem smJ_161 {as : List Value} {h : qH} : smJ 161 as h = sm_T_termOf as h := nrfl (by simp [smJ, smH])
theorem smJ_no {k : Nat} {as : List Value} {h : qH} (hk : List.elem k [162, 163, 164, 166, 312, 152, 153, 154, 155, 160, 161] = false) : smJ k as h = none := by
  simp only [List.elem_eq_mem, List.mem_cons, List.not_mem_nil, or_false, not_or, decide_eq_false_iff_not] at hk
  simp [hk, smJ, smH, sm0]
noncomputable def smK : qSm := fun a as h => if a = 33 then sm_Node_base as h else if a = 34 then sm_Node_last as h else if a = 32 then sm_Node_leads as h else if a = 35 then sm_Node_entry as h else if a = 36 then sm_Node_termAt as h else smJ a as h
theorem smK_ok {l : Launch} {V : qV} {d : Nat} (hd : 1 ≤ d) : smok l V d smK := by
  intro a as h P v h' e hp
  unfold smK at e
  split at e
  · rename_i ha; subst ha; exact sk_Node_base (by omega) _ _ _ _ _ e hp
  split at e
  · rename_i ha; subst ha; exact sk_Node_last (by omega) _ _ _ _ _ e hp
  split at e
  · rename_i ha; subst ha; exact sk_Node_leads (by omega) _ _ _ _ _ e hp
  split at e
  · rename_i ha; subst ha; exact sk_Node_entry (by omega) _ _ _ _ _ e hp
  split at e
  · rename_i ha; subst ha; exact sk_Node_termAt (by omega) _ _ _ _ _ e hp
  exact smJ_ok (by omega) _ _ _ _ _ _ e hp
theorem smK_33 {as : List Value} {h : qH} : smK 33 as h = sm_Node_base as h := nrfl (by simp [smK, smJ, smH])
theorem smK_34 {as : List Value} {h : qH} : smK 34 as h = sm_Node_last as h := nrfl (by simp [smK, smJ, smH])
theorem smK_32 {as : List Value} {h : qH} : smK 32 as h = sm_Node_leads as h := nrfl (by simp [smK, smJ, smH])
theorem smK_35 {as : List Value} {h : qH} : smK 35 as h = sm_Node_entry as h := nrfl (by simp [smK, smJ, smH])
theorem smK_36 {as : List Value} {h : qH} : smK 36 as h = sm_Node_termAt as h := nrfl (by simp [smK, smJ, smH])
theorem smK_152 {as : List Value} {h : qH} : smK 152 as h = sm_T_isNode as h := nrfl (by simp [smK, smJ, smH])
theorem smK_153 {as : List Value} {h : qH} : smK 153 as h = sm_T_isKey as h := nrfl (by simp [smK, smJ, smH])
theorem smK_154 {as : List Value} {h : qH} : smK 154 as h = sm_T_isTickCount as h := nrfl (by simp [smK, smJ, smH])
theorem smK_155 {as : List Value} {h : qH} : smK 155 as h = sm_T_isEntryPart as h := nrfl (by simp [smK, smJ, smH])
theorem smK_160 {as : List Value} {h : qH} : smK 160 as h = sm_T_entryOf as h := nrfl (by simp [smK, smJ, smH])
theorem smK_161 {as : List Value} {h : qH} : smK 161 as h = sm_T_termOf as h := nrfl (by simp [smK, smJ, smH])
theorem smK_162 {as : List Value} {h : qH} : smK 162 as h = sm_T_kindOf as h := nrfl (by simp [smK, smJ, smH])
theorem smK_163 {as : List Value} {h : qH} : smK 163 as h = sm_T_firstOf as h := nrfl (by simp [smK, smJ, smH])
theorem smK_164 {as : List Value} {h : qH} : smK 164 as h = sm_T_secondOf as h := nrfl (by simp [smK, smJ, smH])
theorem smK_166 {as : List Value} {h : qH} : smK 166 as h = sm_T_has as h := nrfl (by simp [smK, smJ, smH])
theorem smK_312 {as : List Value} {h : qH} : smK 312 as h = sm_J_bitCount as h := nrfl (by simp [smK, smJ, smH])
theorem smK_no {k : Nat} {as : List Value} {h : qH} (hk : List.elem k [33, 34, 32, 35, 36, 152, 153, 154, 155, 160, 161, 162, 163, 164, 166, 312] = false) : smK k as h = none := by
  simp only [List.elem_eq_mem, List.mem_cons, List.not_mem_nil, or_false, not_or, decide_eq_false_iff_not] at hk
  simp [hk, smK, smJ, smH, sm0]
noncomputable def sm_Node_isFull (as : List Value) (h : qH) : Option (Prop × Option Value × qH) := match as with
  | [.ref a] => some ((hK h a).1 = 3 ∧ (hK h (hR h a 6)).1 = 6, (some (.int (bI (40 ≤ (hM h a 5).toInt ∨ 999 ≤ (hM h (hR h a 6) 0 + hM h a 5).toInt)))), h)
  | _ => none
theorem sw_Node_isFull {h : qH} {a : Nat} : sm_Node_isFull [.ref a] h = some ((hK h a).1 = 3 ∧ (hK h (hR h a 6)).1 = 6, (some (.int (bI (40 ≤ (hM h a 5).toInt ∨ 999 ≤ (hM h (hR h a 6) 0 + hM h a 5).toInt)))), h) := nrfl rfl
set_option maxHeartbeats 2000000 in
set_option maxRecDepth 100000 in
theorem t_Node_isFull {l : Launch} {V : qV} {d : Nat} (hd : 2 ≤ d) {h : qH} {a : Nat} (hp : (hK h a).1 = 3 ∧ (hK h (hR h a 6)).1 = 6) : T l V mi_Node_isFull (rm d) 0 0 [.ref a] h (fun v h' => v = (some (.int (bI (40 ≤ (hM h a 5).toInt ∨ 999 ≤ (hM h (hR h a 6) 0 + hM h a 5).toInt)))) ∧ h' = h) := by
  refine T_ev qm_Node_isFull [.ref a] rfl rfl (Nat.le_of_ble_eq_true rfl) ok_Node_isFull (smK_ok (d := d - 1) (by omega)) (fun _ => false) 200 (by omega) (fun K kK => ?_)
  obtain ⟨p1, p2⟩ := hp
  simp (disch := omega) only [ev_s, evN_ap, List.getElem?_cons_zero, List.getElem?_cons_succ, List.set_cons_zero, List.set_cons_succ, Bool.false_eq_true, ↓reduceIte, qrest_n, qrest_1, qrest_2, qrest_3, qrest_4, qrest_5, qrest_6, qtr_i, qtr_r, true_and, and_true, List.length_cons, List.length_nil, Int.cast_ofNat_Int, Int32.toInt_zero, false_implies, true_implies, not_false_eq_true, not_true_eq_false, Option.toList_some, Option.toList_none, List.cons_append, List.nil_append, Nat.reduceBEq, Nat.reduceEqDiff, Bool.or_self, or_self, Nat.reduceAdd, Nat.reduceLT, Nat.zero_add, Int.reduceAdd, Int.reduceLE, Int.reduceLT, Int.reduceEq, and_self, Int.reduceNeg, qrok_i, qrok_b0, qrok_b1, qrok_bI, Option.some.injEq, Value.int.injEq, J_bI0, J_bI1, Classical.not_not, Int.zero_add, Int.add_zero, Int.sub_zero, false_and, and_false, and_true, true_and, e_0, v_0, e_2, v_2, e_13, v_13, e_15, v_15, e_19, v_19, e_40, e_44, qspl_z, qspl_s, evC_s, evD_none, evD_v, evD_s, c_2, c_3, smK_34, sw_Node_last, r_Node_isFull_0, r_Node_isFull_1, r_Node_isFull_4, r_Node_isFull_6, r_Node_isFull_9, r_Node_isFull_10, r_Node_isFull_13, r_Node_isFull_16, r_Node_isFull_19, r_Node_isFull_20, r_Node_isFull_23, r_Node_isFull_24, p1, p2, I_val, and_self]
  all_goals (clear kK; first | omega | grind)
theorem sk_Node_isFull {l : Launch} {V : qV} {d : Nat} (hd : 2 ≤ d) (as : List Value) (h : qH) (P : Prop) (v : Option Value) (h' : qH) (e : sm_Node_isFull as h = some (P, v, h')) (hp : P) : ∃ t, qms[37]? = some t ∧ T l V t (rm d) 0 0 as h (fun v' h'' => v' = v ∧ h'' = h') ∧ (t.2.2.2.2.2.2 ≠ 0 → ∃ x as', as = .ref x :: as' ∧ (hK h x).1 = t.2.2.2.2.2.1 ∧ t.2.2.2.2.2.1 < 10) := by
  unfold sm_Node_isFull at e
  split at e
  · cases e
    exact ⟨_, qm_Node_isFull, t_Node_isFull hd hp, fun _ => ⟨_, _, rfl, hp.1, by decide⟩⟩
  · cases e
noncomputable def sm_Node_oldsAt (as : List Value) (h : qH) : Option (Prop × Option Value × qH) := match as with
  | [.ref a, .int y] => some ((hK h a).1 = 3 ∧ (hK h (hR h a 6)).1 = 6 ∧ hK h (hR h a 4) = (100, 48) ∧ (hM h a 5).toInt ≤ 48, (some (.int (if y.toInt = (hM h (hR h a 6) 0).toInt then hM h (hR h a 6) 2 else fsO (enI h a y)))), h)
  | _ => none
theorem sw_Node_oldsAt {h : qH} {y : Int32} {a : Nat} : sm_Node_oldsAt [.ref a, .int y] h = some ((hK h a).1 = 3 ∧ (hK h (hR h a 6)).1 = 6 ∧ hK h (hR h a 4) = (100, 48) ∧ (hM h a 5).toInt ≤ 48, (some (.int (if y.toInt = (hM h (hR h a 6) 0).toInt then hM h (hR h a 6) 2 else fsO (enI h a y)))), h) := nrfl rfl
set_option maxHeartbeats 2000000 in
set_option maxRecDepth 100000 in
theorem t_Node_oldsAt {l : Launch} {V : qV} {d : Nat} (hd : 2 ≤ d) {h : qH} {y : Int32} {a : Nat} (hp : (hK h a).1 = 3 ∧ (hK h (hR h a 6)).1 = 6 ∧ hK h (hR h a 4) = (100, 48) ∧ (hM h a 5).toInt ≤ 48) : T l V mi_Node_oldsAt (rm d) 0 0 [.ref a, .int y] h (fun v h' => v = (some (.int (if y.toInt = (hM h (hR h a 6) 0).toInt then hM h (hR h a 6) 2 else fsO (enI h a y)))) ∧ h' = h) := by
  refine T_ev qm_Node_oldsAt [.ref a, .int y] rfl rfl (Nat.le_of_ble_eq_true rfl) ok_Node_oldsAt (smK_ok (d := d - 1) (by omega)) (fun _ => false) 200 (by omega) (fun K kK => ?_)
  have hp2 := hp
  obtain ⟨p1, p2, p3, p4⟩ := hp
  simp (disch := omega) only [ev_s, evN_ap, List.getElem?_cons_zero, List.getElem?_cons_succ, List.set_cons_zero, List.set_cons_succ, Bool.false_eq_true, ↓reduceIte, qrest_n, qrest_1, qrest_2, qrest_3, qrest_4, qrest_5, qrest_6, qtr_i, qtr_r, true_and, and_true, List.length_cons, List.length_nil, Int.cast_ofNat_Int, Int32.toInt_zero, false_implies, true_implies, not_false_eq_true, not_true_eq_false, Option.toList_some, Option.toList_none, List.cons_append, List.nil_append, Nat.reduceBEq, Nat.reduceEqDiff, Bool.or_self, or_self, Nat.reduceAdd, Nat.reduceLT, Nat.zero_add, Int.reduceAdd, Int.reduceLE, Int.reduceLT, Int.reduceEq, and_self, Int.reduceNeg, qrok_i, qrok_b0, qrok_b1, qrok_bI, Option.some.injEq, Value.int.injEq, J_bI0, J_bI1, Classical.not_not, Int.zero_add, Int.add_zero, Int.sub_zero, false_and, and_false, and_true, true_and, e_1, v_1, e_2, v_2, e_13, v_13, e_15, v_15, e_19, v_19, e_20, v_20, e_40, e_44, e_45, qspl_z, qspl_s, evC_s, evD_none, evD_v, evD_s, c_1, smK_35, sw_Node_entry, smK_163, sw_T_firstOf, r_Node_oldsAt_0, r_Node_oldsAt_1, r_Node_oldsAt_2, r_Node_oldsAt_5, r_Node_oldsAt_8, r_Node_oldsAt_11, r_Node_oldsAt_12, r_Node_oldsAt_15, r_Node_oldsAt_18, r_Node_oldsAt_21, r_Node_oldsAt_22, r_Node_oldsAt_23, r_Node_oldsAt_26, r_Node_oldsAt_29, p1, p2, p3, p4, and_self, I_val]
  clear kK
  refine ⟨fun q => ?_, fun q => ?_⟩
  · rw [if_neg q]
  · rw [if_pos q]
theorem sk_Node_oldsAt {l : Launch} {V : qV} {d : Nat} (hd : 2 ≤ d) (as : List Value) (h : qH) (P : Prop) (v : Option Value) (h' : qH) (e : sm_Node_oldsAt as h = some (P, v, h')) (hp : P) : ∃ t, qms[39]? = some t ∧ T l V t (rm d) 0 0 as h (fun v' h'' => v' = v ∧ h'' = h') ∧ (t.2.2.2.2.2.2 ≠ 0 → ∃ x as', as = .ref x :: as' ∧ (hK h x).1 = t.2.2.2.2.2.1 ∧ t.2.2.2.2.2.1 < 10) := by
  unfold sm_Node_oldsAt at e
  split at e
  · cases e
    exact ⟨_, qm_Node_oldsAt, t_Node_oldsAt hd hp, fun _ => ⟨_, _, rfl, hp.1, by decide⟩⟩
  · cases e
noncomputable def sm_Node_newsAt (as : List Value) (h : qH) : Option (Prop × Option Value × qH) := match as with
  | [.ref a, .int y] => some ((hK h a).1 = 3 ∧ (hK h (hR h a 6)).1 = 6 ∧ hK h (hR h a 4) = (100, 48) ∧ (hM h a 5).toInt ≤ 48, (some (.int (if y.toInt = (hM h (hR h a 6) 0).toInt then hM h (hR h a 6) 3 else scO (enI h a y)))), h)
  | _ => none
theorem sw_Node_newsAt {h : qH} {y : Int32} {a : Nat} : sm_Node_newsAt [.ref a, .int y] h = some ((hK h a).1 = 3 ∧ (hK h (hR h a 6)).1 = 6 ∧ hK h (hR h a 4) = (100, 48) ∧ (hM h a 5).toInt ≤ 48, (some (.int (if y.toInt = (hM h (hR h a 6) 0).toInt then hM h (hR h a 6) 3 else scO (enI h a y)))), h) := nrfl rfl
set_option maxHeartbeats 2000000 in
set_option maxRecDepth 100000 in
theorem t_Node_newsAt {l : Launch} {V : qV} {d : Nat} (hd : 2 ≤ d) {h : qH} {y : Int32} {a : Nat} (hp : (hK h a).1 = 3 ∧ (hK h (hR h a 6)).1 = 6 ∧ hK h (hR h a 4) = (100, 48) ∧ (hM h a 5).toInt ≤ 48) : T l V mi_Node_newsAt (rm d) 0 0 [.ref a, .int y] h (fun v h' => v = (some (.int (if y.toInt = (hM h (hR h a 6) 0).toInt then hM h (hR h a 6) 3 else scO (enI h a y)))) ∧ h' = h) := by
  refine T_ev qm_Node_newsAt [.ref a, .int y] rfl rfl (Nat.le_of_ble_eq_true rfl) ok_Node_newsAt (smK_ok (d := d - 1) (by omega)) (fun _ => false) 200 (by omega) (fun K kK => ?_)
  have hp2 := hp
  obtain ⟨p1, p2, p3, p4⟩ := hp
  simp (disch := omega) only [ev_s, evN_ap, List.getElem?_cons_zero, List.getElem?_cons_succ, List.set_cons_zero, List.set_cons_succ, Bool.false_eq_true, ↓reduceIte, qrest_n, qrest_1, qrest_2, qrest_3, qrest_4, qrest_5, qrest_6, qtr_i, qtr_r, true_and, and_true, List.length_cons, List.length_nil, Int.cast_ofNat_Int, Int32.toInt_zero, false_implies, true_implies, not_false_eq_true, not_true_eq_false, Option.toList_some, Option.toList_none, List.cons_append, List.nil_append, Nat.reduceBEq, Nat.reduceEqDiff, Bool.or_self, or_self, Nat.reduceAdd, Nat.reduceLT, Nat.zero_add, Int.reduceAdd, Int.reduceLE, Int.reduceLT, Int.reduceEq, and_self, Int.reduceNeg, qrok_i, qrok_b0, qrok_b1, qrok_bI, Option.some.injEq, Value.int.injEq, J_bI0, J_bI1, Classical.not_not, Int.zero_add, Int.add_zero, Int.sub_zero, false_and, and_false, and_true, true_and, e_1, v_1, e_2, v_2, e_13, v_13, e_15, v_15, e_19, v_19, e_20, v_20, e_40, e_44, e_45, qspl_z, qspl_s, evC_s, evD_none, evD_v, evD_s, c_1, smK_35, sw_Node_entry, smK_164, sw_T_secondOf, r_Node_newsAt_0, r_Node_newsAt_1, r_Node_newsAt_2, r_Node_newsAt_5, r_Node_newsAt_8, r_Node_newsAt_11, r_Node_newsAt_12, r_Node_newsAt_15, r_Node_newsAt_18, r_Node_newsAt_21, r_Node_newsAt_22, r_Node_newsAt_23, r_Node_newsAt_26, r_Node_newsAt_29, p1, p2, p3, p4, and_self, I_val]
  clear kK
  refine ⟨fun q => ?_, fun q => ?_⟩
  · rw [if_neg q]
  · rw [if_pos q]
theorem sk_Node_newsAt {l : Launch} {V : qV} {d : Nat} (hd : 2 ≤ d) (as : List Value) (h : qH) (P : Prop) (v : Option Value) (h' : qH) (e : sm_Node_newsAt as h = some (P, v, h')) (hp : P) : ∃ t, qms[40]? = some t ∧ T l V t (rm d) 0 0 as h (fun v' h'' => v' = v ∧ h'' = h') ∧ (t.2.2.2.2.2.2 ≠ 0 → ∃ x as', as = .ref x :: as' ∧ (hK h x).1 = t.2.2.2.2.2.1 ∧ t.2.2.2.2.2.1 < 10) := by
  unfold sm_Node_newsAt at e
  split at e
  · cases e
    exact ⟨_, qm_Node_newsAt, t_Node_newsAt hd hp, fun _ => ⟨_, _, rfl, hp.1, by decide⟩⟩
  · cases e
noncomputable def sm_T_partOf (as : List Value) (h : qH) : Option (Prop × Option Value × qH) := match as with
  | [.int x, .int y] => some (True, (some (.int (if y.toInt = 0 then tmO x else if y.toInt = 1 then kdO x else if y.toInt = 2 then fsO x else scO x))), h)
  | _ => none
theorem sw_T_partOf {h : qH} {x y : Int32} : sm_T_partOf [.int x, .int y] h = some (True, (some (.int (if y.toInt = 0 then tmO x else if y.toInt = 1 then kdO x else if y.toInt = 2 then fsO x else scO x))), h) := nrfl rfl
set_option maxHeartbeats 2000000 in
set_option maxRecDepth 100000 in
theorem t_T_partOf {l : Launch} {V : qV} {d : Nat} (hd : 2 ≤ d) {h : qH} {x y : Int32} (hp : True) : T l V mi_T_partOf (rm d) 0 0 [.int x, .int y] h (fun v h' => v = (some (.int (if y.toInt = 0 then tmO x else if y.toInt = 1 then kdO x else if y.toInt = 2 then fsO x else scO x))) ∧ h' = h) := by
  refine T_ev qm_T_partOf [.int x, .int y] rfl rfl (Nat.le_of_ble_eq_true rfl) ok_T_partOf (smK_ok (d := d - 1) (by omega)) (fun _ => false) 200 (by omega) (fun K kK => ?_)
  simp (disch := omega) only [ev_s, evN_ap, List.getElem?_cons_zero, List.getElem?_cons_succ, List.set_cons_zero, List.set_cons_succ, Bool.false_eq_true, ↓reduceIte, qrest_n, qrest_1, qrest_2, qrest_3, qrest_4, qrest_5, qrest_6, qtr_i, qtr_r, true_and, and_true, List.length_cons, List.length_nil, Int.cast_ofNat_Int, Int32.toInt_zero, false_implies, true_implies, not_false_eq_true, not_true_eq_false, Option.toList_some, Option.toList_none, List.cons_append, List.nil_append, Nat.reduceBEq, Nat.reduceEqDiff, Bool.or_self, or_self, Nat.reduceAdd, Nat.reduceLT, Nat.zero_add, Int.reduceAdd, Int.reduceLE, Int.reduceLT, Int.reduceEq, and_self, Int.reduceNeg, qrok_i, qrok_b0, qrok_b1, qrok_bI, Option.some.injEq, Value.int.injEq, J_bI0, J_bI1, Classical.not_not, Int.zero_add, Int.add_zero, Int.sub_zero, false_and, and_false, and_true, true_and, e_1, v_1, e_18, v_18, e_40, e_45, qspl_z, qspl_s, evC_s, evD_none, evD_v, evD_s, swP, smK_161, sw_T_termOf, smK_162, sw_T_kindOf, smK_163, sw_T_firstOf, smK_164, sw_T_secondOf, r_T_partOf_0, r_T_partOf_1, r_T_partOf_28, r_T_partOf_29, r_T_partOf_32, r_T_partOf_33, r_T_partOf_34, r_T_partOf_37, r_T_partOf_38, r_T_partOf_39, r_T_partOf_42, r_T_partOf_43, r_T_partOf_44, r_T_partOf_47, I_val, and_self]
  clear kK
  grind
theorem sk_T_partOf {l : Launch} {V : qV} {d : Nat} (hd : 2 ≤ d) (as : List Value) (h : qH) (P : Prop) (v : Option Value) (h' : qH) (e : sm_T_partOf as h = some (P, v, h')) (hp : P) : ∃ t, qms[165]? = some t ∧ T l V t (rm d) 0 0 as h (fun v' h'' => v' = v ∧ h'' = h') ∧ (t.2.2.2.2.2.2 ≠ 0 → ∃ x as', as = .ref x :: as' ∧ (hK h x).1 = t.2.2.2.2.2.1 ∧ t.2.2.2.2.2.1 < 10) := by
  unfold sm_T_partOf at e
  split at e
  · cases e
    exact ⟨_, qm_T_partOf, t_T_partOf hd hp, fun q => absurd rfl q⟩
  · cases e
noncomputable def sm_T_isMajorityOf (as : List Value) (h : qH) : Option (Prop × Option Value × qH) := match as with
  | [.int x, .int y, .int z] => some (True, (some (.int (bI ((bcO y).toInt < (Int32.ofInt 2 * bcO (x &&& y)).toInt ∧ (z.toInt = 0 ∨ (bcO z).toInt < (Int32.ofInt 2 * bcO (x &&& z)).toInt))))), h)
  | _ => none
theorem sw_T_isMajorityOf {h : qH} {x y z : Int32} : sm_T_isMajorityOf [.int x, .int y, .int z] h = some (True, (some (.int (bI ((bcO y).toInt < (Int32.ofInt 2 * bcO (x &&& y)).toInt ∧ (z.toInt = 0 ∨ (bcO z).toInt < (Int32.ofInt 2 * bcO (x &&& z)).toInt))))), h) := nrfl rfl
set_option maxHeartbeats 2000000 in
set_option maxRecDepth 100000 in
theorem t_T_isMajorityOf {l : Launch} {V : qV} {d : Nat} (hd : 2 ≤ d) {h : qH} {x y z : Int32} (hp : True) : T l V mi_T_isMajorityOf (rm d) 0 0 [.int x, .int y, .int z] h (fun v h' => v = (some (.int (bI ((bcO y).toInt < (Int32.ofInt 2 * bcO (x &&& y)).toInt ∧ (z.toInt = 0 ∨ (bcO z).toInt < (Int32.ofInt 2 * bcO (x &&& z)).toInt))))) ∧ h' = h) := by
  refine T_ev qm_T_isMajorityOf [.int x, .int y, .int z] rfl rfl (Nat.le_of_ble_eq_true rfl) ok_T_isMajorityOf (smK_ok (d := d - 1) (by omega)) (fun _ => false) 200 (by omega) (fun K kK => ?_)
  simp (disch := omega) only [ev_s, evN_ap, List.getElem?_cons_zero, List.getElem?_cons_succ, List.set_cons_zero, List.set_cons_succ, Bool.false_eq_true, ↓reduceIte, qrest_n, qrest_1, qrest_2, qrest_3, qrest_4, qrest_5, qrest_6, qtr_i, qtr_r, true_and, and_true, List.length_cons, List.length_nil, Int.cast_ofNat_Int, Int32.toInt_zero, false_implies, true_implies, not_false_eq_true, not_true_eq_false, Option.toList_some, Option.toList_none, List.cons_append, List.nil_append, Nat.reduceBEq, Nat.reduceEqDiff, Bool.or_self, or_self, Nat.reduceAdd, Nat.reduceLT, Nat.zero_add, Int.reduceAdd, Int.reduceLE, Int.reduceLT, Int.reduceEq, and_self, Int.reduceNeg, qrok_i, qrok_b0, qrok_b1, qrok_bI, Option.some.injEq, Value.int.injEq, J_bI0, J_bI1, Classical.not_not, Int.zero_add, Int.add_zero, Int.sub_zero, false_and, and_false, and_true, true_and, e_0, v_0, e_1, v_1, e_6, v_6, e_13, v_13, e_14, v_14, e_15, v_15, e_40, e_45, qspl_z, qspl_s, evC_s, evD_none, evD_v, evD_s, c_0, c_4, c_5, b_2, b_3, smK_312, sw_J_bitCount, r_T_isMajorityOf_0, r_T_isMajorityOf_1, r_T_isMajorityOf_2, r_T_isMajorityOf_3, r_T_isMajorityOf_4, r_T_isMajorityOf_7, r_T_isMajorityOf_8, r_T_isMajorityOf_9, r_T_isMajorityOf_12, r_T_isMajorityOf_15, r_T_isMajorityOf_16, r_T_isMajorityOf_17, r_T_isMajorityOf_18, r_T_isMajorityOf_21, r_T_isMajorityOf_22, r_T_isMajorityOf_23, r_T_isMajorityOf_24, r_T_isMajorityOf_25, r_T_isMajorityOf_28, r_T_isMajorityOf_29, r_T_isMajorityOf_30, r_T_isMajorityOf_33, r_T_isMajorityOf_36, r_T_isMajorityOf_37, r_T_isMajorityOf_40, r_T_isMajorityOf_41, I_val, and_self]
  clear kK
  grind
theorem sk_T_isMajorityOf {l : Launch} {V : qV} {d : Nat} (hd : 2 ≤ d) (as : List Value) (h : qH) (P : Prop) (v : Option Value) (h' : qH) (e : sm_T_isMajorityOf as h = some (P, v, h')) (hp : P) : ∃ t, qms[167]? = some t ∧ T l V t (rm d) 0 0 as h (fun v' h'' => v' = v ∧ h'' = h') ∧ (t.2.2.2.2.2.2 ≠ 0 → ∃ x as', as = .ref x :: as' ∧ (hK h x).1 = t.2.2.2.2.2.1 ∧ t.2.2.2.2.2.1 < 10) := by
  unfold sm_T_isMajorityOf at e
  split at e
  · cases e
    exact ⟨_, qm_T_isMajorityOf, t_T_isMajorityOf hd hp, fun q => absurd rfl q⟩
  · cases e
noncomputable def smL : qSm := fun a as h => if a = 37 then sm_Node_isFull as h else if a = 39 then sm_Node_oldsAt as h else if a = 40 then sm_Node_newsAt as h else if a = 165 then sm_T_partOf as h else if a = 167 then sm_T_isMajorityOf as h else smK a as h
theorem smL_ok {l : Launch} {V : qV} {d : Nat} (hd : 2 ≤ d) : smok l V d smL := by
  intro a as h P v h' e hp
  unfold smL at e
  split at e
  · rename_i ha; subst ha; exact sk_Node_isFull (by omega) _ _ _ _ _ e hp
  split at e
  · rename_i ha; subst ha; exact sk_Node_oldsAt (by omega) _ _ _ _ _ e hp
  split at e
  · rename_i ha; subst ha; exact sk_Node_newsAt (by omega) _ _ _ _ _ e hp
  split at e
  · rename_i ha; subst ha; exact sk_T_partOf (by omega) _ _ _ _ _ e hp
  split at e
  · rename_i ha; subst ha; exact sk_T_isMajorityOf (by omega) _ _ _ _ _ e hp
  exact smK_ok (by omega) _ _ _ _ _ _ e hp
theorem smL_37 {as : List Value} {h : qH} : smL 37 as h = sm_Node_isFull as h := nrfl (by simp [smL, smK, smJ, smH])
theorem smL_39 {as : List Value} {h : qH} : smL 39 as h = sm_Node_oldsAt as h := nrfl (by simp [smL, smK, smJ, smH])
theorem smL_40 {as : List Value} {h : qH} : smL 40 as h = sm_Node_newsAt as h := nrfl (by simp [smL, smK, smJ, smH])
theorem smL_165 {as : List Value} {h : qH} : smL 165 as h = sm_T_partOf as h := nrfl (by simp [smL, smK, smJ, smH])
theorem smL_167 {as : List Value} {h : qH} : smL 167 as h = sm_T_isMajorityOf as h := nrfl (by simp [smL, smK, smJ, smH])
theorem smL_152 {as : List Value} {h : qH} : smL 152 as h = sm_T_isNode as h := nrfl (by simp [smL, smK, smJ, smH])
theorem smL_153 {as : List Value} {h : qH} : smL 153 as h = sm_T_isKey as h := nrfl (by simp [smL, smK, smJ, smH])
theorem smL_154 {as : List Value} {h : qH} : smL 154 as h = sm_T_isTickCount as h := nrfl (by simp [smL, smK, smJ, smH])
theorem smL_155 {as : List Value} {h : qH} : smL 155 as h = sm_T_isEntryPart as h := nrfl (by simp [smL, smK, smJ, smH])
theorem smL_160 {as : List Value} {h : qH} : smL 160 as h = sm_T_entryOf as h := nrfl (by simp [smL, smK, smJ, smH])
theorem smL_161 {as : List Value} {h : qH} : smL 161 as h = sm_T_termOf as h := nrfl (by simp [smL, smK, smJ, smH])
theorem smL_162 {as : List Value} {h : qH} : smL 162 as h = sm_T_kindOf as h := nrfl (by simp [smL, smK, smJ, smH])
theorem smL_163 {as : List Value} {h : qH} : smL 163 as h = sm_T_firstOf as h := nrfl (by simp [smL, smK, smJ, smH])
theorem smL_164 {as : List Value} {h : qH} : smL 164 as h = sm_T_secondOf as h := nrfl (by simp [smL, smK, smJ, smH])
theorem smL_166 {as : List Value} {h : qH} : smL 166 as h = sm_T_has as h := nrfl (by simp [smL, smK, smJ, smH])
theorem smL_312 {as : List Value} {h : qH} : smL 312 as h = sm_J_bitCount as h := nrfl (by simp [smL, smK, smJ, smH])
theorem smL_33 {as : List Value} {h : qH} : smL 33 as h = sm_Node_base as h := nrfl (by simp [smL, smK, smJ, smH])
theorem smL_34 {as : List Value} {h : qH} : smL 34 as h = sm_Node_last as h := nrfl (by simp [smL, smK, smJ, smH])
theorem smL_32 {as : List Value} {h : qH} : smL 32 as h = sm_Node_leads as h := nrfl (by simp [smL, smK, smJ, smH])
theorem smL_35 {as : List Value} {h : qH} : smL 35 as h = sm_Node_entry as h := nrfl (by simp [smL, smK, smJ, smH])
theorem smL_36 {as : List Value} {h : qH} : smL 36 as h = sm_Node_termAt as h := nrfl (by simp [smL, smK, smJ, smH])
theorem smL_no {k : Nat} {as : List Value} {h : qH} (hk : List.elem k [37, 39, 40, 165, 167, 152, 153, 154, 155, 160, 161, 162, 163, 164, 166, 312, 33, 34, 32, 35, 36] = false) : smL k as h = none := by
  simp only [List.elem_eq_mem, List.mem_cons, List.not_mem_nil, or_false, not_or, decide_eq_false_iff_not] at hk
  simp [hk, smL, smK, smJ, smH, sm0]
