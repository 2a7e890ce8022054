/-! the law is reckoned -/
def reK (k : Int) (x y : Int32) : Int32 :=
  if k = 2 then x + y else if k = 3 then x - y else if k = 4 then x * y else if k = 5 then x / y else if k = 6 then x % y
  else if k = 7 then (if x.toInt < y.toInt then Int32.ofInt 1 else Int32.ofInt 0) else if k = 8 then (if y.toInt < x.toInt then Int32.ofInt 1 else Int32.ofInt 0) else (if x.toInt = y.toInt then Int32.ofInt 1 else Int32.ofInt 0)
noncomputable def sm_M_reckon (as : List Value) (h : qH) : Option (Prop × Option Value × qH) := match as with
  | [.int x, .int y, .int z] => some (¬ ((x.toInt = 5 ∨ x.toInt = 6) ∧ z.toInt = 0), (some (.int (reK x.toInt y z))), h)
  | _ => none
theorem sw_M_reckon {h : qH} {x y z : Int32} : sm_M_reckon [.int x, .int y, .int z] h = some (¬ ((x.toInt = 5 ∨ x.toInt = 6) ∧ z.toInt = 0), (some (.int (reK x.toInt y z))), h) := nrfl rfl
set_option maxHeartbeats 2000000 in
set_option maxRecDepth 100000 in
theorem t_M_reckon {l : Launch} {V : qV} {d : Nat} (hd : 1 ≤ d) {h : qH} {x y z : Int32} (hp : ¬ ((x.toInt = 5 ∨ x.toInt = 6) ∧ z.toInt = 0)) : T l V mi_M_reckon (rm d) 0 0 [.int x, .int y, .int z] h (fun v h' => v = (some (.int (reK x.toInt y z))) ∧ h' = h) := by
  refine T_ev qm_M_reckon [.int x, .int y, .int z] rfl rfl (Nat.le_of_ble_eq_true rfl) ok_M_reckon (sm0_ok (d := d - 1) (by omega)) (fun _ => false) 200 (by omega) (fun K kK => ?_)
  simp only [ev_s, evN_ap, List.getElem?_cons_zero, List.getElem?_cons_succ, List.set_cons_zero, List.set_cons_succ, Bool.false_eq_true, ↓reduceIte, qrest_n, qrest_1, qrest_2, qrest_3, qrest_4, qrest_5, qrest_6, qtr_i, qtr_r, true_and, and_true, List.length_cons, List.length_nil, Int.cast_ofNat_Int, Int32.toInt_zero, false_implies, true_implies, not_false_eq_true, not_true_eq_false, Option.toList_some, Option.toList_none, List.cons_append, List.nil_append, Nat.reduceBEq, Nat.reduceEqDiff, Bool.or_self, or_self, Nat.reduceAdd, Nat.reduceLT, Nat.zero_add, Int.reduceAdd, Int.reduceLE, Int.reduceLT, Int.reduceEq, and_self, Int.reduceNeg, qrok_i, qrok_b0, qrok_b1, qrok_bI, Option.some.injEq, Value.int.injEq, J_bI0, J_bI1, e_0, v_0, e_1, v_1, e_6, v_6, e_7, v_7, e_8, v_8, e_13, v_13, e_15, v_15, e_18, v_18, e_40, c_1, c_3, c_5, b_0, b_1, b_2, swP, r_M_reckon_0, r_M_reckon_1, r_M_reckon_44, r_M_reckon_45, r_M_reckon_46, r_M_reckon_47, r_M_reckon_48, r_M_reckon_49, r_M_reckon_50, r_M_reckon_51, r_M_reckon_52, r_M_reckon_53, r_M_reckon_54, r_M_reckon_55, r_M_reckon_56, r_M_reckon_57, r_M_reckon_58, r_M_reckon_59, r_M_reckon_60, r_M_reckon_61, r_M_reckon_62, r_M_reckon_63, r_M_reckon_64, r_M_reckon_65, r_M_reckon_66, r_M_reckon_69, r_M_reckon_70, r_M_reckon_73, r_M_reckon_74, r_M_reckon_75, r_M_reckon_76, r_M_reckon_77, r_M_reckon_80, r_M_reckon_81, r_M_reckon_84, r_M_reckon_85, r_M_reckon_86, r_M_reckon_87, r_M_reckon_88, r_M_reckon_91, r_M_reckon_92, r_M_reckon_95, r_M_reckon_96, reK]
  clear kK
  grind
theorem sk_M_reckon {l : Launch} {V : qV} {d : Nat} (hd : 1 ≤ d) (as : List Value) (h : qH) (P : Prop) (v : Option Value) (h' : qH) (e : sm_M_reckon as h = some (P, v, h')) (hp : P) : ∃ t, qms[218]? = some t ∧ T l V t (rm d) 0 0 as h (fun v' h'' => v' = v ∧ h'' = h') ∧ (t.2.2.2.2.2.2 ≠ 0 → ∃ x as', as = .ref x :: as' ∧ (hK h x).1 = t.2.2.2.2.2.1 ∧ t.2.2.2.2.2.1 < 10) := by
  unfold sm_M_reckon at e
  split at e
  · cases e
    exact ⟨_, qm_M_reckon, t_M_reckon hd hp, fun q => absurd rfl q⟩
  · cases e
