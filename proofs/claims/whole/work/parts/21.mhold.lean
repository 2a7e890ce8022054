/-! reads are lost; a node follows; entries are seen held -/
def lrF (S : qN) (n k : Int) : qN := fun j => if 11028 ≤ j ∧ j < 11028 + 6 * k ∧ (j - 11028) % 6 = 4 ∧ S (j - 4) = n ∧ S j = 0 then 2 else S j
theorem lrF_ge {S : qN} {n k j : Int} (h : 11028 + 6 * k ≤ j) : lrF S n k j = S j := by unfold lrF; rw [if_neg (by omega)]
theorem lrF_lt {S : qN} {n k j : Int} (h : j < 11028) : lrF S n k j = S j := by unfold lrF; rw [if_neg (by omega)]
theorem lrF_0 {S : qN} {n : Int} : lrF S n 0 = S := by funext j; unfold lrF; rw [if_neg (by omega)]
theorem lrF_s1 {S : qN} {n k : Int} (h1 : S (11028 + 6 * k) = n) (h2 : S (11028 + 6 * k + 4) = 0) (hk : 0 ≤ k) : u1 (lrF S n k) (11028 + 6 * k + 4) 2 = lrF S n (k + 1) := by
  funext j
  unfold u1 lrF
  by_cases hj : j = 11028 + 6 * k + 4
  · subst hj
    rw [if_pos rfl, if_pos ⟨by omega, by omega, by omega, by rw [← h1]; congr 1; omega, h2⟩]
  · rw [if_neg hj]
    by_cases hc : 11028 ≤ j ∧ j < 11028 + 6 * k ∧ (j - 11028) % 6 = 4 ∧ S (j - 4) = n ∧ S j = 0
    · rw [if_pos hc, if_pos ⟨hc.1, by omega, hc.2.2⟩]
    · rw [if_neg hc, if_neg]
      rintro ⟨c1, c2, c3, c4, c5⟩
      exact hc ⟨c1, by omega, c3, c4, c5⟩
theorem lrF_s0 {S : qN} {n k : Int} (h : ¬ (S (11028 + 6 * k) = n ∧ S (11028 + 6 * k + 4) = 0)) (hk : 0 ≤ k) : lrF S n k = lrF S n (k + 1) := by
  funext j
  unfold lrF
  by_cases hc : 11028 ≤ j ∧ j < 11028 + 6 * k ∧ (j - 11028) % 6 = 4 ∧ S (j - 4) = n ∧ S j = 0
  · rw [if_pos hc, if_pos ⟨hc.1, by omega, hc.2.2⟩]
  · rw [if_neg hc, if_neg]
    rintro ⟨c1, c2, c3, c4, c5⟩
    by_cases hj : j < 11028 + 6 * k
    · exact hc ⟨c1, hj, c3, c4, c5⟩
    · have e : j = 11028 + 6 * k + 4 := by omega
      subst e
      exact h ⟨by rw [← c4]; congr 1; omega, c5⟩
theorem smS_lrF {S : qN} {n k : Int} (h : smS S) : smS (lrF S n k) := by
  intro j hj
  unfold lrF; split
  · omega
  · exact h j hj
def aOk (S : qN) : Prop := 0 ≤ S 11135 ∧ S 11135 ≤ 16
def foS (S : qN) (n w : Int) : qN := u1 (u1 (if nd S n 3 = 2 then lrF S n (S 11135) else S) (244 * n + 3) 0) (244 * n + 11) w
section MS
variable {l : Launch} {V : qV} {d : Nat} {s : qS} {c r : qI}
theorem L_losesReads (hd : 4 ≤ d) (hs : ShMs s) {n : Int} {S : qN} (hn : 0 ≤ n ∧ n ≤ 6) (hm : smS S) (ha : aOk S) (Q : Option Value → qH → Prop) (hQ : Q none (mkH s (jn c (uA r 2199 (lrF S n (S 11135)))))) :
    ∀ (j : Nat) (k : Int), 0 ≤ k → k + j = S 11135 → G l V mi_M_losesReads (rm d) 0 0 Q 0 0 2 [.ref 2198, .int (Int32.ofInt n), .int (Int32.ofInt k)] [] (mkH s (jn c (uA r 2199 (lrF S n k)))) := by
  obtain ⟨n1, n2⟩ := hn
  obtain ⟨a1, a2⟩ := ha
  intro j
  induction j with
  | zero =>
    intro k k0 hk
    refine G_ev ok_M_losesReads (smC_ok (d := d - 1) (by omega)) (fun pc => pc == 2) 60 (by omega) (fun K kK => ?_)
    simp (disch := omega) only [ev_s, evN_ap, List.getElem?_cons_zero, List.getElem?_cons_succ, List.set_cons_zero, List.set_cons_succ, Bool.false_eq_true, ↓reduceIte, qrest_n, qrest_1, qrest_2, qrest_3, qrest_4, qrest_5, qrest_6, qtr_i, qtr_r, true_and, and_true, List.length_cons, List.length_nil, Int.cast_ofNat_Int, Int32.toInt_zero, false_implies, true_implies, not_false_eq_true, not_true_eq_false, Option.toList_some, Option.toList_none, List.cons_append, List.nil_append, Nat.reduceBEq, Nat.reduceAdd, Nat.reduceLT, Nat.zero_add, Int.reduceAdd, Int.reduceLE, Int.reduceLT, Int.reduceEq, and_self, Int.reduceNeg, qrok_i, qrok_b0, qrok_b1, qrok_bI, Option.some.injEq, Value.int.injEq, J_bI0, J_bI1, e_0, v_0, e_1, v_1, e_2, v_2, e_3, v_3, e_5, v_5, e_6, v_6, e_13, v_13, e_14, v_14, e_15, v_15, e_20, v_20, e_24, v_24, e_25, v_25, e_41, c_1, c_3, b_0, b_2, r_M_losesReads_0, r_M_losesReads_1, r_M_losesReads_2, r_M_losesReads_3, r_M_losesReads_4, r_M_losesReads_7, r_M_losesReads_10, r_M_losesReads_11, r_M_losesReads_14, r_M_losesReads_15, r_M_losesReads_18, r_M_losesReads_21, r_M_losesReads_23, r_M_losesReads_24, r_M_losesReads_25, r_M_losesReads_26, r_M_losesReads_27, r_M_losesReads_28, r_M_losesReads_31, r_M_losesReads_32, r_M_losesReads_35, r_M_losesReads_38, r_M_losesReads_40, r_M_losesReads_41, r_M_losesReads_42, r_M_losesReads_43, r_M_losesReads_44, r_M_losesReads_45, r_M_losesReads_46, r_M_losesReads_49, r_M_losesReads_50, r_M_losesReads_53, r_M_losesReads_56, r_M_losesReads_58, r_M_losesReads_59, r_M_losesReads_60, r_M_losesReads_61, r_M_losesReads_62, r_M_losesReads_63, r_M_losesReads_64, r_M_losesReads_65, r_M_losesReads_68, r_M_losesReads_71, (shS_o hs), (shS_r_now hs), (shS_k_now hs), nA_mk, lpI_mk, mnI_I, mxI_I, I_val, I_add, I_sub, I_mul, ShM_mk, hs, ndB_I, hM_jr, inB, smv hm, smn hm, bI_z, Bool.or_eq_true, Bool.or_false, Bool.false_or, beq_iff_eq, or_false, false_or, set_jA, uA_uA, uA_same, uA_ne, u1_ne, u1_same, nd_u1, nd_u1s, lpS_u1, n1, n2, lrF_ge]
    refine ⟨fun _ => ?_, fun q => absurd (show S 11135 ≤ k by omega) q⟩
    rw [show k = S 11135 by omega]; exact hQ
  | succ j ih =>
    intro k k0 hk
    have ih := ih (k + 1) (by omega) (by omega)
    refine G_ev ok_M_losesReads (smC_ok (d := d - 1) (by omega)) (fun pc => pc == 2) 60 (by omega) (fun K kK => ?_)
    simp (disch := omega) only [ev_s, evN_ap, List.getElem?_cons_zero, List.getElem?_cons_succ, List.set_cons_zero, List.set_cons_succ, Bool.false_eq_true, ↓reduceIte, qrest_n, qrest_1, qrest_2, qrest_3, qrest_4, qrest_5, qrest_6, qtr_i, qtr_r, true_and, and_true, List.length_cons, List.length_nil, Int.cast_ofNat_Int, Int32.toInt_zero, false_implies, true_implies, not_false_eq_true, not_true_eq_false, Option.toList_some, Option.toList_none, List.cons_append, List.nil_append, Nat.reduceBEq, Nat.reduceAdd, Nat.reduceLT, Nat.zero_add, Int.reduceAdd, Int.reduceLE, Int.reduceLT, Int.reduceEq, and_self, Int.reduceNeg, qrok_i, qrok_b0, qrok_b1, qrok_bI, Option.some.injEq, Value.int.injEq, J_bI0, J_bI1, e_0, v_0, e_1, v_1, e_2, v_2, e_3, v_3, e_5, v_5, e_6, v_6, e_13, v_13, e_14, v_14, e_15, v_15, e_20, v_20, e_24, v_24, e_25, v_25, e_41, c_1, c_3, b_0, b_2, r_M_losesReads_0, r_M_losesReads_1, r_M_losesReads_2, r_M_losesReads_3, r_M_losesReads_4, r_M_losesReads_7, r_M_losesReads_10, r_M_losesReads_11, r_M_losesReads_14, r_M_losesReads_15, r_M_losesReads_18, r_M_losesReads_21, r_M_losesReads_23, r_M_losesReads_24, r_M_losesReads_25, r_M_losesReads_26, r_M_losesReads_27, r_M_losesReads_28, r_M_losesReads_31, r_M_losesReads_32, r_M_losesReads_35, r_M_losesReads_38, r_M_losesReads_40, r_M_losesReads_41, r_M_losesReads_42, r_M_losesReads_43, r_M_losesReads_44, r_M_losesReads_45, r_M_losesReads_46, r_M_losesReads_49, r_M_losesReads_50, r_M_losesReads_53, r_M_losesReads_56, r_M_losesReads_58, r_M_losesReads_59, r_M_losesReads_60, r_M_losesReads_61, r_M_losesReads_62, r_M_losesReads_63, r_M_losesReads_64, r_M_losesReads_65, r_M_losesReads_68, r_M_losesReads_71, (shS_o hs), (shS_r_now hs), (shS_k_now hs), nA_mk, lpI_mk, mnI_I, mxI_I, I_val, I_add, I_sub, I_mul, ShM_mk, hs, ndB_I, hM_jr, inB, smv hm, smn hm, bI_z, Bool.or_eq_true, Bool.or_false, Bool.false_or, beq_iff_eq, or_false, false_or, set_jA, uA_uA, uA_same, uA_ne, u1_ne, u1_same, nd_u1, nd_u1s, lpS_u1, n1, n2, lrF_ge]
    refine ⟨fun q => absurd q (by omega), fun _ => ⟨by omega, fun q => ?_, fun q => ⟨by omega, fun q2 => ?_, fun q2 => ⟨by omega, ?_⟩⟩⟩⟩
    · rw [lrF_s0 (fun z => q z.1) k0]; exact kK _ _ _ _ ih
    · rw [lrF_s0 (fun z => q2 z.2) k0]; exact kK _ _ _ _ ih
    · rw [lrF_s1 (Classical.not_not.mp q) (Classical.not_not.mp q2) k0]; exact kK _ _ _ _ ih
set_option maxHeartbeats 2000000 in
set_option maxRecDepth 100000 in
theorem T_M_losesReads (hd : 4 ≤ d) (hs : ShMs s) {n : Int} (hn : 0 ≤ n ∧ n ≤ 6) (hm : smS (r 2199)) (ha : aOk (r 2199)) : T l V mi_M_losesReads (rm d) 0 0 [.ref 2198, .int (Int32.ofInt n)] (mkH s (jn c r)) (fun v h' => v = none ∧ h' = mkH s (jn c (uA r 2199 (lrF (r 2199) n (r 2199 11135))))) := by
  refine T_ev qm_M_losesReads [.ref 2198, .int (Int32.ofInt n), .retAddr 0] rfl rfl (Nat.le_of_ble_eq_true rfl) ok_M_losesReads (smC_ok (d := d - 1) (by omega)) (fun pc => pc == 2) 200 (by omega) (fun K kK => ?_)
  simp (disch := omega) only [ev_s, evN_ap, List.getElem?_cons_zero, List.getElem?_cons_succ, List.set_cons_zero, List.set_cons_succ, Bool.false_eq_true, ↓reduceIte, qrest_n, qrest_1, qrest_2, qrest_3, qrest_4, qrest_5, qrest_6, qtr_i, qtr_r, true_and, and_true, List.length_cons, List.length_nil, Int.cast_ofNat_Int, Int32.toInt_zero, false_implies, true_implies, not_false_eq_true, not_true_eq_false, Option.toList_some, Option.toList_none, List.cons_append, List.nil_append, Nat.reduceBEq, Nat.reduceAdd, Nat.reduceLT, Nat.zero_add, Int.reduceAdd, Int.reduceLE, Int.reduceLT, Int.reduceEq, and_self, Int.reduceNeg, qrok_i, qrok_b0, qrok_b1, qrok_bI, Option.some.injEq, Value.int.injEq, J_bI0, J_bI1, e_0, v_0, e_1, v_1, e_2, v_2, e_3, v_3, e_5, v_5, e_6, v_6, e_13, v_13, e_14, v_14, e_15, v_15, e_20, v_20, e_24, v_24, e_25, v_25, e_41, c_1, c_3, b_0, b_2, r_M_losesReads_0, r_M_losesReads_1, r_M_losesReads_2, r_M_losesReads_3, r_M_losesReads_4, r_M_losesReads_7, r_M_losesReads_10, r_M_losesReads_11, r_M_losesReads_14, r_M_losesReads_15, r_M_losesReads_18, r_M_losesReads_21, r_M_losesReads_23, r_M_losesReads_24, r_M_losesReads_25, r_M_losesReads_26, r_M_losesReads_27, r_M_losesReads_28, r_M_losesReads_31, r_M_losesReads_32, r_M_losesReads_35, r_M_losesReads_38, r_M_losesReads_40, r_M_losesReads_41, r_M_losesReads_42, r_M_losesReads_43, r_M_losesReads_44, r_M_losesReads_45, r_M_losesReads_46, r_M_losesReads_49, r_M_losesReads_50, r_M_losesReads_53, r_M_losesReads_56, r_M_losesReads_58, r_M_losesReads_59, r_M_losesReads_60, r_M_losesReads_61, r_M_losesReads_62, r_M_losesReads_63, r_M_losesReads_64, r_M_losesReads_65, r_M_losesReads_68, r_M_losesReads_71, (shS_o hs), (shS_r_now hs), (shS_k_now hs), nA_mk, lpI_mk, mnI_I, mxI_I, I_val, I_add, I_sub, I_mul, ShM_mk, hs, ndB_I, hM_jr, inB, smv hm, smn hm, bI_z, Bool.or_eq_true, Bool.or_false, Bool.false_or, beq_iff_eq, or_false, false_or, set_jA, uA_uA, uA_same, uA_ne, u1_ne, u1_same, nd_u1, nd_u1s, lpS_u1]
  refine kK _ _ _ _ ?_
  have := L_losesReads (l := l) (V := V) (c := c) (r := r) hd hs hn hm ha (fun v h' => v = none ∧ h' = mkH s (jn c (uA r 2199 (lrF (r 2199) n (r 2199 11135))))) ⟨rfl, rfl⟩ (r 2199 11135).toNat 0 (by omega) (by have := ha.1; omega)
  rw [lrF_0, uA_self] at this
  exact this
set_option maxHeartbeats 2000000 in
set_option maxRecDepth 100000 in
theorem T_M_follows (hd : 5 ≤ d) (hs : ShMs s) {n w : Int} (hn : 0 ≤ n ∧ n ≤ 6) (hm : smS (r 2199)) (ha : aOk (r 2199)) : T l V mi_M_follows (rm d) 0 0 [.ref 2198, .int (Int32.ofInt n), .int (Int32.ofInt w)] (mkH s (jn c r)) (fun v h' => v = none ∧ h' = mkH s (jn c (uA r 2199 (foS (r 2199) n w)))) := by
  refine T_ev qm_M_follows [.ref 2198, .int (Int32.ofInt n), .int (Int32.ofInt w)] rfl rfl (Nat.le_of_ble_eq_true rfl) ok_M_follows (smC_ok (d := d - 1) (by omega)) (fun _ => false) 200 (by omega) (fun K kK => ?_)
  obtain ⟨n1, n2⟩ := hn
  simp (disch := omega) only [ev_s, evN_ap, List.getElem?_cons_zero, List.getElem?_cons_succ, List.set_cons_zero, List.set_cons_succ, Bool.false_eq_true, ↓reduceIte, qrest_n, qrest_1, qrest_2, qrest_3, qrest_4, qrest_5, qrest_6, qtr_i, qtr_r, true_and, and_true, List.length_cons, List.length_nil, Int.cast_ofNat_Int, Int32.toInt_zero, false_implies, true_implies, not_false_eq_true, not_true_eq_false, Option.toList_some, Option.toList_none, List.cons_append, List.nil_append, Nat.reduceBEq, Nat.reduceAdd, Nat.reduceLT, Nat.zero_add, Int.reduceAdd, Int.reduceLE, Int.reduceLT, Int.reduceEq, and_self, Int.reduceNeg, qrok_i, qrok_b0, qrok_b1, qrok_bI, Option.some.injEq, Value.int.injEq, J_bI0, J_bI1, e_0, v_0, e_1, v_1, e_2, v_2, e_15, v_15, e_41, e_44, qspl_z, qspl_s, evC_s, evD_none, evD_v, evD_s, c_1, smC_176, sw_M_the, smC_177, sw_M_sets, (smC_no (k := 232) rfl), r_M_follows_0, r_M_follows_1, r_M_follows_2, r_M_follows_3, r_M_follows_6, r_M_follows_7, r_M_follows_10, r_M_follows_11, r_M_follows_12, r_M_follows_15, r_M_follows_16, r_M_follows_17, r_M_follows_18, r_M_follows_19, r_M_follows_22, r_M_follows_23, r_M_follows_24, r_M_follows_26, r_M_follows_27, r_M_follows_30, (shS_o hs), (shS_r_now hs), (shS_k_now hs), nA_mk, lpI_mk, mnI_I, mxI_I, I_val, I_add, I_sub, I_mul, ShM_mk, hs, ndB_I, hM_jr, inB, smv hm, smn hm, bI_z, Bool.or_eq_true, Bool.or_false, Bool.false_or, beq_iff_eq, or_false, false_or, set_jA, uA_uA, uA_same, uA_ne, u1_ne, u1_same, nd_u1, nd_u1s, lpS_u1, n1, n2]
  refine ⟨fun q => ?_, fun q => ?_⟩
  · unfold foS; rw [if_neg q]
  · have q := Classical.not_not.mp q
    refine kK _ _ _ _ (GCD ok_M_follows r_M_follows_12 ⟨by decide, by decide⟩ qm_M_losesReads (T_M_losesReads (d := d - 1) (by omega) hs ⟨n1, n2⟩ hm ha) rfl rfl (fun _ => rcM hs) rfl (Nat.le_of_ble_eq_true rfl) (by omega) ?_)
    refine G_ev ok_M_follows (smC_ok (d := d - 1) (by omega)) (fun _ => false) 200 (by omega) (fun K kK => ?_)
    simp (disch := omega) only [ev_s, evN_ap, List.getElem?_cons_zero, List.getElem?_cons_succ, List.set_cons_zero, List.set_cons_succ, Bool.false_eq_true, ↓reduceIte, qrest_n, qrest_1, qrest_2, qrest_3, qrest_4, qrest_5, qrest_6, qtr_i, qtr_r, true_and, and_true, List.length_cons, List.length_nil, Int.cast_ofNat_Int, Int32.toInt_zero, false_implies, true_implies, not_false_eq_true, not_true_eq_false, Option.toList_some, Option.toList_none, List.cons_append, List.nil_append, Nat.reduceBEq, Nat.reduceAdd, Nat.reduceLT, Nat.zero_add, Int.reduceAdd, Int.reduceLE, Int.reduceLT, Int.reduceEq, and_self, Int.reduceNeg, qrok_i, qrok_b0, qrok_b1, qrok_bI, Option.some.injEq, Value.int.injEq, J_bI0, J_bI1, e_0, v_0, e_1, v_1, e_2, v_2, e_15, v_15, e_41, e_44, qspl_z, qspl_s, evC_s, evD_none, evD_v, evD_s, c_1, smC_176, sw_M_the, smC_177, sw_M_sets, (smC_no (k := 232) rfl), r_M_follows_0, r_M_follows_1, r_M_follows_2, r_M_follows_3, r_M_follows_6, r_M_follows_7, r_M_follows_10, r_M_follows_11, r_M_follows_12, r_M_follows_15, r_M_follows_16, r_M_follows_17, r_M_follows_18, r_M_follows_19, r_M_follows_22, r_M_follows_23, r_M_follows_24, r_M_follows_26, r_M_follows_27, r_M_follows_30, (shS_o hs), (shS_r_now hs), (shS_k_now hs), nA_mk, lpI_mk, mnI_I, mxI_I, I_val, I_add, I_sub, I_mul, ShM_mk, hs, ndB_I, hM_jr, inB, smv hm, smn hm, bI_z, Bool.or_eq_true, Bool.or_false, Bool.false_or, beq_iff_eq, or_false, false_or, set_jA, uA_uA, uA_same, uA_ne, u1_ne, u1_same, nd_u1, nd_u1s, lpS_u1, n1, n2]
    unfold foS; rw [if_pos q]
end MS
