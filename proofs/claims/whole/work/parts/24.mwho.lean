/-! who has the entry, who was heard -/
noncomputable def shZ (a b : Int) : Int := (Int32.ofInt a <<< (Int32.ofInt b &&& 31)).toInt
theorem I_sh {a b : Int} : Int32.ofInt a <<< (Int32.ofInt b &&& 31) = Int32.ofInt (shZ a b) := by unfold shZ; simp
theorem sh_lt : ∀ k : Nat, k < 7 → 0 ≤ shZ 1 (k : Int) ∧ shZ 1 (k : Int) ≤ 127 := by
  unfold shZ
  decide +kernel
theorem sh_rng {k : Int} (h : 0 ≤ k ∧ k ≤ 6) : set7 (shZ 1 k) := by
  have := sh_lt k.toNat (by omega)
  rwa [Int.toNat_of_nonneg h.1] at this
/-- those of whom the cell f + number is at least w -/
noncomputable def whoF (S : qN) (n f w : Int) : Nat → Int → Int → Int
  | 0, _, b => b
  | j + 1, k, b => whoF S n f w j (k + 1) (if nd S n (f + k) < w then b else orZ b (shZ 1 k))
noncomputable def whoS (S : qN) (n f w : Int) : Int := whoF S n f w 7 0 (shZ 1 n)
theorem whoF_7 {S : qN} {n f w : Int} : ∀ (j : Nat) (k b : Int), 0 ≤ k → k + j = 7 → set7 b → set7 (whoF S n f w j k b) := by
  intro j
  induction j with
  | zero => intro k b _ _ hb; exact hb
  | succ j ih =>
    intro k b k0 hk hb
    refine ih (k + 1) _ (by omega) (by omega) ?_
    split
    · exact hb
    · exact or_rng hb (sh_rng (by omega))
theorem whoS_7 {S : qN} {n f w : Int} (hn : 0 ≤ n ∧ n ≤ 6) : set7 (whoS S n f w) := whoF_7 7 0 _ (by omega) (by omega) (sh_rng hn)
section MS
variable {l : Launch} {V : qV} {d : Nat} {s : qS} {c r : qI}
theorem L_M_whoMatch (hd : 4 ≤ d) (hs : ShMs s) {n w : Int} {Q : Option Value → qH → Prop} (hn : 0 ≤ n ∧ n ≤ 6) (hm : smS (r 2199)) (hw : -100000 ≤ w ∧ w ≤ 100000) : ∀ (j : Nat) (k b : Int), k + j = 7 → 0 ≤ k →
    Q (some (.int (Int32.ofInt (whoF (r 2199) n 38 w j k b)))) (mkH s (jn c r)) →
    G l V mi_M_whoMatch (rm d) 0 0 Q 0 0 7 [.ref 2198, .int (Int32.ofInt n), .int (Int32.ofInt w), .int (Int32.ofInt b), .int (Int32.ofInt k)] [] (mkH s (jn c r)) := by
  obtain ⟨n1, n2⟩ := hn
  intro j
  induction j with
  | zero =>
    intro k b hk k0 hQ
    refine G_ev ok_M_whoMatch (smC_ok (d := d - 1) (by omega)) (fun pc => pc == 7) 60 (by omega) (fun K kK => ?_)
    have e : k = 7 := by omega
    subst e
    simp (disch := omega) only [ev_s, evN_ap, List.getElem?_cons_zero, List.getElem?_cons_succ, List.set_cons_zero, List.set_cons_succ, Bool.false_eq_true, ↓reduceIte, qrest_n, qrest_1, qrest_2, qrest_3, qrest_4, qrest_5, qrest_6, qtr_i, qtr_r, true_and, and_true, List.length_cons, List.length_nil, Int.cast_ofNat_Int, Int32.toInt_zero, false_implies, true_implies, not_false_eq_true, not_true_eq_false, Option.toList_some, Option.toList_none, List.cons_append, List.nil_append, Nat.reduceBEq, Nat.reduceEqDiff, Bool.or_self, or_self, Nat.reduceAdd, Nat.reduceLT, Nat.zero_add, Int.reduceAdd, Int.reduceLE, Int.reduceLT, Int.reduceEq, and_self, Int.reduceNeg, qrok_i, qrok_b0, qrok_b1, qrok_bI, Option.some.injEq, Value.int.injEq, J_bI0, J_bI1, e_0, v_0, e_1, v_1, e_2, v_2, e_3, v_3, e_5, v_5, e_6, v_6, e_13, v_13, e_15, v_15, e_40, e_44, qspl_z, qspl_s, evC_s, evD_none, evD_v, evD_s, c_2, c_3, b_0, b_4, b_6, smC_176, sw_M_the, r_M_whoMatch_0, r_M_whoMatch_1, r_M_whoMatch_2, r_M_whoMatch_3, r_M_whoMatch_4, r_M_whoMatch_5, r_M_whoMatch_7, r_M_whoMatch_9, r_M_whoMatch_11, r_M_whoMatch_14, r_M_whoMatch_15, r_M_whoMatch_16, r_M_whoMatch_18, r_M_whoMatch_20, r_M_whoMatch_21, r_M_whoMatch_24, r_M_whoMatch_25, r_M_whoMatch_28, r_M_whoMatch_29, r_M_whoMatch_30, r_M_whoMatch_32, r_M_whoMatch_33, r_M_whoMatch_34, r_M_whoMatch_35, r_M_whoMatch_38, r_M_whoMatch_41, r_M_whoMatch_42, (shS_o hs), (shS_r_now hs), (shS_k_now hs), nA_mk, lpI_mk, mnI_I, mxI_I, I_val, I_add, I_sub, I_mul, ShM_mk, hs, ndB_I, hM_jr, inB, smv hm, smn hm, bI_z, Bool.or_eq_true, Bool.or_false, Bool.false_or, beq_iff_eq, or_false, false_or, set_jA, uA_uA, uA_same, uA_ne, u1_ne, u1_same, nd_u1, nd_u1s, lpS_u1, n1, n2]
    exact hQ
  | succ j ih =>
    intro k b hk k0 hQ
    have ih := ih (k + 1) _ (by omega) (by omega) hQ
    have c9 : -100000 ≤ nd (r 2199) n (38 + k) ∧ nd (r 2199) n (38 + k) ≤ 100000 := hm _ (by omega)
    refine G_ev ok_M_whoMatch (smC_ok (d := d - 1) (by omega)) (fun pc => pc == 7) 60 (by omega) (fun K kK => ?_)
    simp (disch := omega) only [ev_s, evN_ap, List.getElem?_cons_zero, List.getElem?_cons_succ, List.set_cons_zero, List.set_cons_succ, Bool.false_eq_true, ↓reduceIte, qrest_n, qrest_1, qrest_2, qrest_3, qrest_4, qrest_5, qrest_6, qtr_i, qtr_r, true_and, and_true, List.length_cons, List.length_nil, Int.cast_ofNat_Int, Int32.toInt_zero, false_implies, true_implies, not_false_eq_true, not_true_eq_false, Option.toList_some, Option.toList_none, List.cons_append, List.nil_append, Nat.reduceBEq, Nat.reduceEqDiff, Bool.or_self, or_self, Nat.reduceAdd, Nat.reduceLT, Nat.zero_add, Int.reduceAdd, Int.reduceLE, Int.reduceLT, Int.reduceEq, and_self, Int.reduceNeg, qrok_i, qrok_b0, qrok_b1, qrok_bI, Option.some.injEq, Value.int.injEq, J_bI0, J_bI1, e_0, v_0, e_1, v_1, e_2, v_2, e_3, v_3, e_5, v_5, e_6, v_6, e_13, v_13, e_15, v_15, e_40, e_44, qspl_z, qspl_s, evC_s, evD_none, evD_v, evD_s, c_2, c_3, b_0, b_4, b_6, smC_176, sw_M_the, r_M_whoMatch_0, r_M_whoMatch_1, r_M_whoMatch_2, r_M_whoMatch_3, r_M_whoMatch_4, r_M_whoMatch_5, r_M_whoMatch_7, r_M_whoMatch_9, r_M_whoMatch_11, r_M_whoMatch_14, r_M_whoMatch_15, r_M_whoMatch_16, r_M_whoMatch_18, r_M_whoMatch_20, r_M_whoMatch_21, r_M_whoMatch_24, r_M_whoMatch_25, r_M_whoMatch_28, r_M_whoMatch_29, r_M_whoMatch_30, r_M_whoMatch_32, r_M_whoMatch_33, r_M_whoMatch_34, r_M_whoMatch_35, r_M_whoMatch_38, r_M_whoMatch_41, r_M_whoMatch_42, (shS_o hs), (shS_r_now hs), (shS_k_now hs), nA_mk, lpI_mk, mnI_I, mxI_I, I_val, I_add, I_sub, I_mul, ShM_mk, hs, ndB_I, hM_jr, inB, smv hm, smn hm, bI_z, Bool.or_eq_true, Bool.or_false, Bool.false_or, beq_iff_eq, or_false, false_or, set_jA, uA_uA, uA_same, uA_ne, u1_ne, u1_same, nd_u1, nd_u1s, lpS_u1, n1, n2, b_6, I_sh, I_or]
    have kI := kK _ _ _ _ ih
    clear kK
    exact ⟨fun z => absurd z (by omega), fun _ => ⟨by omega, fun z => by rw [if_pos z] at kI; exact kI, fun z => by rw [if_neg z] at kI; exact kI⟩⟩
set_option maxHeartbeats 2000000 in
set_option maxRecDepth 100000 in
theorem T_M_whoMatch (hd : 5 ≤ d) (hs : ShMs s) {n w : Int} (hn : 0 ≤ n ∧ n ≤ 6) (hm : smS (r 2199)) (hw : -100000 ≤ w ∧ w ≤ 100000) : T l V mi_M_whoMatch (rm d) 0 0 [.ref 2198, .int (Int32.ofInt n), .int (Int32.ofInt w)] (mkH s (jn c r)) (fun v h' => v = some (.int (Int32.ofInt (whoS (r 2199) n 38 w))) ∧ h' = mkH s (jn c r)) := by
  refine T_ev qm_M_whoMatch [.ref 2198, .int (Int32.ofInt n), .int (Int32.ofInt w), .retAddr 0, .retAddr 0] rfl rfl (Nat.le_of_ble_eq_true rfl) ok_M_whoMatch (smC_ok (d := d - 1) (by omega)) (fun pc => pc == 7) 200 (by omega) (fun K kK => ?_)
  simp (disch := omega) only [ev_s, evN_ap, List.getElem?_cons_zero, List.getElem?_cons_succ, List.set_cons_zero, List.set_cons_succ, Bool.false_eq_true, ↓reduceIte, qrest_n, qrest_1, qrest_2, qrest_3, qrest_4, qrest_5, qrest_6, qtr_i, qtr_r, true_and, and_true, List.length_cons, List.length_nil, Int.cast_ofNat_Int, Int32.toInt_zero, false_implies, true_implies, not_false_eq_true, not_true_eq_false, Option.toList_some, Option.toList_none, List.cons_append, List.nil_append, Nat.reduceBEq, Nat.reduceEqDiff, Bool.or_self, or_self, Nat.reduceAdd, Nat.reduceLT, Nat.zero_add, Int.reduceAdd, Int.reduceLE, Int.reduceLT, Int.reduceEq, and_self, Int.reduceNeg, qrok_i, qrok_b0, qrok_b1, qrok_bI, Option.some.injEq, Value.int.injEq, J_bI0, J_bI1, e_0, v_0, e_1, v_1, e_2, v_2, e_3, v_3, e_5, v_5, e_6, v_6, e_13, v_13, e_15, v_15, e_40, e_44, qspl_z, qspl_s, evC_s, evD_none, evD_v, evD_s, c_2, c_3, b_0, b_4, b_6, smC_176, sw_M_the, r_M_whoMatch_0, r_M_whoMatch_1, r_M_whoMatch_2, r_M_whoMatch_3, r_M_whoMatch_4, r_M_whoMatch_5, r_M_whoMatch_7, r_M_whoMatch_9, r_M_whoMatch_11, r_M_whoMatch_14, r_M_whoMatch_15, r_M_whoMatch_16, r_M_whoMatch_18, r_M_whoMatch_20, r_M_whoMatch_21, r_M_whoMatch_24, r_M_whoMatch_25, r_M_whoMatch_28, r_M_whoMatch_29, r_M_whoMatch_30, r_M_whoMatch_32, r_M_whoMatch_33, r_M_whoMatch_34, r_M_whoMatch_35, r_M_whoMatch_38, r_M_whoMatch_41, r_M_whoMatch_42, (shS_o hs), (shS_r_now hs), (shS_k_now hs), nA_mk, lpI_mk, mnI_I, mxI_I, I_val, I_add, I_sub, I_mul, ShM_mk, hs, ndB_I, hM_jr, inB, smv hm, smn hm, bI_z, Bool.or_eq_true, Bool.or_false, Bool.false_or, beq_iff_eq, or_false, false_or, set_jA, uA_uA, uA_same, uA_ne, u1_ne, u1_same, nd_u1, nd_u1s, lpS_u1, b_6, I_sh]
  exact kK _ _ _ _ (L_M_whoMatch (by omega) hs hn hm hw 7 0 (shZ 1 n) (by omega) (by omega) ⟨rfl, rfl⟩)
theorem L_M_whoHeard (hd : 4 ≤ d) (hs : ShMs s) {n w : Int} {Q : Option Value → qH → Prop} (hn : 0 ≤ n ∧ n ≤ 6) (hm : smS (r 2199)) (hw : -100000 ≤ w ∧ w ≤ 100000) : ∀ (j : Nat) (k b : Int), k + j = 7 → 0 ≤ k →
    Q (some (.int (Int32.ofInt (whoF (r 2199) n 45 w j k b)))) (mkH s (jn c r)) →
    G l V mi_M_whoHeard (rm d) 0 0 Q 0 0 7 [.ref 2198, .int (Int32.ofInt n), .int (Int32.ofInt w), .int (Int32.ofInt b), .int (Int32.ofInt k)] [] (mkH s (jn c r)) := by
  obtain ⟨n1, n2⟩ := hn
  intro j
  induction j with
  | zero =>
    intro k b hk k0 hQ
    refine G_ev ok_M_whoHeard (smC_ok (d := d - 1) (by omega)) (fun pc => pc == 7) 60 (by omega) (fun K kK => ?_)
    have e : k = 7 := by omega
    subst e
    simp (disch := omega) only [ev_s, evN_ap, List.getElem?_cons_zero, List.getElem?_cons_succ, List.set_cons_zero, List.set_cons_succ, Bool.false_eq_true, ↓reduceIte, qrest_n, qrest_1, qrest_2, qrest_3, qrest_4, qrest_5, qrest_6, qtr_i, qtr_r, true_and, and_true, List.length_cons, List.length_nil, Int.cast_ofNat_Int, Int32.toInt_zero, false_implies, true_implies, not_false_eq_true, not_true_eq_false, Option.toList_some, Option.toList_none, List.cons_append, List.nil_append, Nat.reduceBEq, Nat.reduceEqDiff, Bool.or_self, or_self, Nat.reduceAdd, Nat.reduceLT, Nat.zero_add, Int.reduceAdd, Int.reduceLE, Int.reduceLT, Int.reduceEq, and_self, Int.reduceNeg, qrok_i, qrok_b0, qrok_b1, qrok_bI, Option.some.injEq, Value.int.injEq, J_bI0, J_bI1, e_0, v_0, e_1, v_1, e_2, v_2, e_3, v_3, e_5, v_5, e_6, v_6, e_13, v_13, e_15, v_15, e_40, e_44, qspl_z, qspl_s, evC_s, evD_none, evD_v, evD_s, c_2, c_3, b_0, b_4, b_6, smC_176, sw_M_the, r_M_whoHeard_0, r_M_whoHeard_1, r_M_whoHeard_2, r_M_whoHeard_3, r_M_whoHeard_4, r_M_whoHeard_5, r_M_whoHeard_7, r_M_whoHeard_9, r_M_whoHeard_11, r_M_whoHeard_14, r_M_whoHeard_15, r_M_whoHeard_16, r_M_whoHeard_18, r_M_whoHeard_20, r_M_whoHeard_21, r_M_whoHeard_24, r_M_whoHeard_25, r_M_whoHeard_28, r_M_whoHeard_29, r_M_whoHeard_30, r_M_whoHeard_32, r_M_whoHeard_33, r_M_whoHeard_34, r_M_whoHeard_35, r_M_whoHeard_38, r_M_whoHeard_41, r_M_whoHeard_42, (shS_o hs), (shS_r_now hs), (shS_k_now hs), nA_mk, lpI_mk, mnI_I, mxI_I, I_val, I_add, I_sub, I_mul, ShM_mk, hs, ndB_I, hM_jr, inB, smv hm, smn hm, bI_z, Bool.or_eq_true, Bool.or_false, Bool.false_or, beq_iff_eq, or_false, false_or, set_jA, uA_uA, uA_same, uA_ne, u1_ne, u1_same, nd_u1, nd_u1s, lpS_u1, n1, n2]
    exact hQ
  | succ j ih =>
    intro k b hk k0 hQ
    have ih := ih (k + 1) _ (by omega) (by omega) hQ
    have c9 : -100000 ≤ nd (r 2199) n (45 + k) ∧ nd (r 2199) n (45 + k) ≤ 100000 := hm _ (by omega)
    refine G_ev ok_M_whoHeard (smC_ok (d := d - 1) (by omega)) (fun pc => pc == 7) 60 (by omega) (fun K kK => ?_)
    simp (disch := omega) only [ev_s, evN_ap, List.getElem?_cons_zero, List.getElem?_cons_succ, List.set_cons_zero, List.set_cons_succ, Bool.false_eq_true, ↓reduceIte, qrest_n, qrest_1, qrest_2, qrest_3, qrest_4, qrest_5, qrest_6, qtr_i, qtr_r, true_and, and_true, List.length_cons, List.length_nil, Int.cast_ofNat_Int, Int32.toInt_zero, false_implies, true_implies, not_false_eq_true, not_true_eq_false, Option.toList_some, Option.toList_none, List.cons_append, List.nil_append, Nat.reduceBEq, Nat.reduceEqDiff, Bool.or_self, or_self, Nat.reduceAdd, Nat.reduceLT, Nat.zero_add, Int.reduceAdd, Int.reduceLE, Int.reduceLT, Int.reduceEq, and_self, Int.reduceNeg, qrok_i, qrok_b0, qrok_b1, qrok_bI, Option.some.injEq, Value.int.injEq, J_bI0, J_bI1, e_0, v_0, e_1, v_1, e_2, v_2, e_3, v_3, e_5, v_5, e_6, v_6, e_13, v_13, e_15, v_15, e_40, e_44, qspl_z, qspl_s, evC_s, evD_none, evD_v, evD_s, c_2, c_3, b_0, b_4, b_6, smC_176, sw_M_the, r_M_whoHeard_0, r_M_whoHeard_1, r_M_whoHeard_2, r_M_whoHeard_3, r_M_whoHeard_4, r_M_whoHeard_5, r_M_whoHeard_7, r_M_whoHeard_9, r_M_whoHeard_11, r_M_whoHeard_14, r_M_whoHeard_15, r_M_whoHeard_16, r_M_whoHeard_18, r_M_whoHeard_20, r_M_whoHeard_21, r_M_whoHeard_24, r_M_whoHeard_25, r_M_whoHeard_28, r_M_whoHeard_29, r_M_whoHeard_30, r_M_whoHeard_32, r_M_whoHeard_33, r_M_whoHeard_34, r_M_whoHeard_35, r_M_whoHeard_38, r_M_whoHeard_41, r_M_whoHeard_42, (shS_o hs), (shS_r_now hs), (shS_k_now hs), nA_mk, lpI_mk, mnI_I, mxI_I, I_val, I_add, I_sub, I_mul, ShM_mk, hs, ndB_I, hM_jr, inB, smv hm, smn hm, bI_z, Bool.or_eq_true, Bool.or_false, Bool.false_or, beq_iff_eq, or_false, false_or, set_jA, uA_uA, uA_same, uA_ne, u1_ne, u1_same, nd_u1, nd_u1s, lpS_u1, n1, n2, b_6, I_sh, I_or]
    have kI := kK _ _ _ _ ih
    clear kK
    exact ⟨fun z => absurd z (by omega), fun _ => ⟨by omega, fun z => by rw [if_pos z] at kI; exact kI, fun z => by rw [if_neg z] at kI; exact kI⟩⟩
set_option maxHeartbeats 2000000 in
set_option maxRecDepth 100000 in
theorem T_M_whoHeard (hd : 5 ≤ d) (hs : ShMs s) {n w : Int} (hn : 0 ≤ n ∧ n ≤ 6) (hm : smS (r 2199)) (hw : -100000 ≤ w ∧ w ≤ 100000) : T l V mi_M_whoHeard (rm d) 0 0 [.ref 2198, .int (Int32.ofInt n), .int (Int32.ofInt w)] (mkH s (jn c r)) (fun v h' => v = some (.int (Int32.ofInt (whoS (r 2199) n 45 w))) ∧ h' = mkH s (jn c r)) := by
  refine T_ev qm_M_whoHeard [.ref 2198, .int (Int32.ofInt n), .int (Int32.ofInt w), .retAddr 0, .retAddr 0] rfl rfl (Nat.le_of_ble_eq_true rfl) ok_M_whoHeard (smC_ok (d := d - 1) (by omega)) (fun pc => pc == 7) 200 (by omega) (fun K kK => ?_)
  simp (disch := omega) only [ev_s, evN_ap, List.getElem?_cons_zero, List.getElem?_cons_succ, List.set_cons_zero, List.set_cons_succ, Bool.false_eq_true, ↓reduceIte, qrest_n, qrest_1, qrest_2, qrest_3, qrest_4, qrest_5, qrest_6, qtr_i, qtr_r, true_and, and_true, List.length_cons, List.length_nil, Int.cast_ofNat_Int, Int32.toInt_zero, false_implies, true_implies, not_false_eq_true, not_true_eq_false, Option.toList_some, Option.toList_none, List.cons_append, List.nil_append, Nat.reduceBEq, Nat.reduceEqDiff, Bool.or_self, or_self, Nat.reduceAdd, Nat.reduceLT, Nat.zero_add, Int.reduceAdd, Int.reduceLE, Int.reduceLT, Int.reduceEq, and_self, Int.reduceNeg, qrok_i, qrok_b0, qrok_b1, qrok_bI, Option.some.injEq, Value.int.injEq, J_bI0, J_bI1, e_0, v_0, e_1, v_1, e_2, v_2, e_3, v_3, e_5, v_5, e_6, v_6, e_13, v_13, e_15, v_15, e_40, e_44, qspl_z, qspl_s, evC_s, evD_none, evD_v, evD_s, c_2, c_3, b_0, b_4, b_6, smC_176, sw_M_the, r_M_whoHeard_0, r_M_whoHeard_1, r_M_whoHeard_2, r_M_whoHeard_3, r_M_whoHeard_4, r_M_whoHeard_5, r_M_whoHeard_7, r_M_whoHeard_9, r_M_whoHeard_11, r_M_whoHeard_14, r_M_whoHeard_15, r_M_whoHeard_16, r_M_whoHeard_18, r_M_whoHeard_20, r_M_whoHeard_21, r_M_whoHeard_24, r_M_whoHeard_25, r_M_whoHeard_28, r_M_whoHeard_29, r_M_whoHeard_30, r_M_whoHeard_32, r_M_whoHeard_33, r_M_whoHeard_34, r_M_whoHeard_35, r_M_whoHeard_38, r_M_whoHeard_41, r_M_whoHeard_42, (shS_o hs), (shS_r_now hs), (shS_k_now hs), nA_mk, lpI_mk, mnI_I, mxI_I, I_val, I_add, I_sub, I_mul, ShM_mk, hs, ndB_I, hM_jr, inB, smv hm, smn hm, bI_z, Bool.or_eq_true, Bool.or_false, Bool.false_or, beq_iff_eq, or_false, false_or, set_jA, uA_uA, uA_same, uA_ne, u1_ne, u1_same, nd_u1, nd_u1s, lpS_u1, b_6, I_sh]
  exact kK _ _ _ _ (L_M_whoHeard (by omega) hs hn hm hw 7 0 (shZ 1 n) (by omega) (by omega) ⟨rfl, rfl⟩)
end MS
