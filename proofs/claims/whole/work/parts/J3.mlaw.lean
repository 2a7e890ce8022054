/-! the reference's reader of laws: how its rows tell a state; its leaves -/
def WtR (r : qI) : List Int → Prop
  | [] => True
  | b :: z => r 2206 z.length = b ∧ WtR r z
def wcY (Y : List (Int × Int × Int)) : List Int := Y.map (fun e => 1048576 * e.1 + e.2.1)
def wcX (X : List Int) (Y : List (Int × Int × Int)) : List Int := X.map (fun a => 1048576 * a) ++ wcY Y
def wtp : List Int → Int
  | [] => -1
  | b :: _ => b / 1048576
/-- the rows are a state: W what waits, o how many are open -/
def LrS (r : qI) (n : Int) (K : LK) (U : LU) (W : List Int) (o : Int) : Prop :=
  ((r 2198 7 = K.1 ∧ r 2198 8 = n) ∧ r 2198 12 = K.2.1 ∧ r 2205 = K.2.2.1) ∧ ((r 2198 14 = U.1 ∧ r 2207 = U.2.1) ∧ r 2208 = U.2.2.1 ∧ r 2209 = U.2.2.2.1 ∧ r 2210 = U.2.2.2.2.1) ∧ ((r 2198 13 = W.length ∧ WtR r W) ∧ r 2198 11 = o) ∧ ((0 ≤ K.1 ∧ K.1 ≤ n) ∧ (0 ≤ n ∧ n ≤ 240) ∧ (0 ≤ K.2.1 ∧ K.2.1 ≤ K.1 + 1)) ∧ (W.length : Int) ≤ K.1 + 1 ∧ ((0 ≤ o ∧ o ≤ 6) ∧ (0 ≤ U.1 ∧ U.1 ≤ 16)) ∧ (∀ b ∈ W, 0 ≤ b ∧ b ≤ 20000000) ∧ ∀ k, 0 ≤ k → k < K.2.1 → 0 ≤ K.2.2.1 k ∧ K.2.2.1 k ≤ 100000000
def LrF (r r' : qI) : Prop := (∀ a, a ≠ 2198 → (a < 2205 ∨ 2210 < a) → r' a = r a) ∧ ∀ k, k ≠ 7 → (k < 9 ∨ 14 < k) → r' 2198 k = r 2198 k
section Lr
variable {r r' r'' : qI} {n o : Int} {K : LK} {U : LU} {W : List Int}
theorem LrF_rf : LrF r r := ⟨fun _ _ _ => rfl, fun _ _ _ => rfl⟩
theorem LrF_tr (h : LrF r r') (h' : LrF r' r'') : LrF r r'' := ⟨fun a a1 a2 => (h'.1 a a1 a2).trans (h.1 a a1 a2), fun k b1 b2 => (h'.2 k b1 b2).trans (h.2 k b1 b2)⟩
theorem LrF_fT (h : LrF r r') : fT r' = fT r := by
  funext j
  unfold fT
  rw [h.1 2204 (by omega) (by omega)]
theorem LrF_98 {X : qN} (h : ∀ k, k ≠ 7 → (k < 9 ∨ 14 < k) → X k = r 2198 k) : LrF r (uA r 2198 X) := ⟨fun a a1 _ => uA_ne a1, fun k k1 k2 => by rw [uA_same]; exact h k k1 k2⟩
theorem WtR_c {z : List Int} (h : ∀ i : Int, 0 ≤ i → i < z.length → r' 2206 i = r 2206 i) (h' : WtR r z) : WtR r' z := by
  induction z with
  | nil => trivial
  | cons b z ih => exact ⟨by rw [h z.length (by omega) (by rw [List.length_cons]; omega)]; exact h'.1, ih (fun i a b => h i a (by rw [List.length_cons]; omega)) h'.2⟩
theorem WtR_o {z : List Int} (h : r' 2206 = r 2206) (h' : WtR r z) : WtR r' z := WtR_c (fun _ _ _ => by rw [h]) h'
theorem WtR_v {b : Int} {z : List Int} (h : WtR r (b :: z)) : r 2206 z.length = b := h.1
theorem LrS_PN (h : LrS r n K U W o) : PN r K.1 n := ⟨h.1.1, by have := h.2.2.2.1; omega, h.2.2.2.1.2.1⟩
end Lr
section MS
variable {l : Launch} {V : qV} {d : Nat} {s : qS} {c r r0 : qI} {R n p o : Int} {Q : Option Value → qH → Prop} {K : LK} {U : LU} {W : List Int}
set_option maxHeartbeats 2000000 in
set_option maxRecDepth 100000 in
theorem T_M_isDigit (hd : 10 ≤ d) (hs : ShMs s) (h : PN r p n) : T l V mi_M_isDigit (rm d) 0 0 [.ref 2198] (mkH s (jn c r)) (fun v h' => v = some (.int (bI (dgQ (sgF (fT r) n p)))) ∧ h' = mkH s (jn c r)) := by
  refine T_ev qm_M_isDigit [.ref 2198] rfl rfl (Nat.le_of_ble_eq_true rfl) ok_M_isDigit (smE_ok (d := d - 1) (by omega)) (fun _ => false) 200 (by omega) (fun Kc kK => ?_)
  have sr := sgF_rng (fT_rng (r := r)) (by have := h.2.2; omega) h.2.1.1 (n := n)
  simp (disch := omega) only [ev_s, evN_ap, List.getElem?_cons_zero, List.getElem?_cons_succ, List.set_cons_zero, List.set_cons_succ, Bool.false_eq_true, ↓reduceIte, qrest_n, qrest_1, qrest_2, qrest_3, qrest_4, qrest_5, qrest_6, qtr_i, qtr_r, true_and, and_true, List.length_cons, List.length_nil, Int.cast_ofNat_Int, Int32.toInt_zero, false_implies, true_implies, not_false_eq_true, not_true_eq_false, Option.toList_some, Option.toList_none, List.cons_append, List.nil_append, Nat.reduceBEq, Nat.reduceEqDiff, Bool.or_self, or_self, Nat.reduceAdd, Nat.reduceLT, Nat.zero_add, Int.reduceAdd, Int.reduceLE, Int.reduceLT, Int.reduceEq, and_self, Int.reduceNeg, qrok_i, qrok_b0, qrok_b1, qrok_bI, Option.some.injEq, Value.int.injEq, J_bI0, J_bI1, Classical.not_not, Int.zero_add, Int.add_zero, Int.sub_zero, false_and, and_false, and_true, true_and, e_0, v_0, e_2, v_2, e_13, v_13, e_15, v_15, e_40, e_44, qspl_z, qspl_s, evC_s, evD_none, evD_v, evD_s, c_2, c_4, (smE_no (k := 196) rfl), r_M_isDigit_0, r_M_isDigit_1, r_M_isDigit_4, r_M_isDigit_6, r_M_isDigit_9, r_M_isDigit_10, r_M_isDigit_13, r_M_isDigit_15, r_M_isDigit_18, r_M_isDigit_19, r_M_isDigit_22, r_M_isDigit_23, (shS_o hs), (shS_r_now hs), (shS_k_now hs), I_val, I_add, I_sub, I_mul, ShM_mk, hs, hM_j2, inB, beq_iff_eq]
  refine kK _ _ _ _ (GCD ok_M_isDigit r_M_isDigit_1 ⟨by decide, by decide⟩ qm_M_here (T_M_here (d := d - 1) (by omega) hs h) rfl rfl (fun _ => rcM hs) rfl (Nat.le_of_ble_eq_true rfl) (by omega) ?_)
  by_cases q : 48 ≤ sgF (fT r) n p
  · refine G_ev ok_M_isDigit (smE_ok (d := d - 1) (by omega)) (fun _ => false) 200 (by omega) (fun Kc kK => ?_)
    simp (disch := omega) only [ev_s, evN_ap, List.getElem?_cons_zero, List.getElem?_cons_succ, List.set_cons_zero, List.set_cons_succ, Bool.false_eq_true, ↓reduceIte, qrest_n, qrest_1, qrest_2, qrest_3, qrest_4, qrest_5, qrest_6, qtr_i, qtr_r, true_and, and_true, List.length_cons, List.length_nil, Int.cast_ofNat_Int, Int32.toInt_zero, false_implies, true_implies, not_false_eq_true, not_true_eq_false, Option.toList_some, Option.toList_none, List.cons_append, List.nil_append, Nat.reduceBEq, Nat.reduceEqDiff, Bool.or_self, or_self, Nat.reduceAdd, Nat.reduceLT, Nat.zero_add, Int.reduceAdd, Int.reduceLE, Int.reduceLT, Int.reduceEq, and_self, Int.reduceNeg, qrok_i, qrok_b0, qrok_b1, qrok_bI, Option.some.injEq, Value.int.injEq, J_bI0, J_bI1, Classical.not_not, Int.zero_add, Int.add_zero, Int.sub_zero, false_and, and_false, and_true, true_and, e_0, v_0, e_2, v_2, e_13, v_13, e_15, v_15, e_40, e_44, qspl_z, qspl_s, evC_s, evD_none, evD_v, evD_s, c_2, c_4, (smE_no (k := 196) rfl), r_M_isDigit_0, r_M_isDigit_1, r_M_isDigit_4, r_M_isDigit_6, r_M_isDigit_9, r_M_isDigit_10, r_M_isDigit_13, r_M_isDigit_15, r_M_isDigit_18, r_M_isDigit_19, r_M_isDigit_22, r_M_isDigit_23, (shS_o hs), (shS_r_now hs), (shS_k_now hs), I_val, I_add, I_sub, I_mul, ShM_mk, hs, hM_j2, inB, beq_iff_eq]
    repeat' (first | with_reducible apply And.intro | intro _)
    all_goals try (clear kK; omega)
    all_goals try omega
    refine kK _ _ _ _ (GCD ok_M_isDigit r_M_isDigit_10 ⟨by decide, by decide⟩ qm_M_here (T_M_here (d := d - 1) (by omega) hs h) rfl rfl (fun _ => rcM hs) rfl (Nat.le_of_ble_eq_true rfl) (by omega) ?_)
    by_cases q2 : sgF (fT r) n p ≤ 57
    · rw [bT (show dgQ _ from ⟨q, q2⟩)]
      refine G_ev ok_M_isDigit (smE_ok (d := d - 1) (by omega)) (fun _ => false) 200 (by omega) (fun Kc kK => ?_)
      simp (disch := omega) only [ev_s, evN_ap, List.getElem?_cons_zero, List.getElem?_cons_succ, List.set_cons_zero, List.set_cons_succ, Bool.false_eq_true, ↓reduceIte, qrest_n, qrest_1, qrest_2, qrest_3, qrest_4, qrest_5, qrest_6, qtr_i, qtr_r, true_and, and_true, List.length_cons, List.length_nil, Int.cast_ofNat_Int, Int32.toInt_zero, false_implies, true_implies, not_false_eq_true, not_true_eq_false, Option.toList_some, Option.toList_none, List.cons_append, List.nil_append, Nat.reduceBEq, Nat.reduceEqDiff, Bool.or_self, or_self, Nat.reduceAdd, Nat.reduceLT, Nat.zero_add, Int.reduceAdd, Int.reduceLE, Int.reduceLT, Int.reduceEq, and_self, Int.reduceNeg, qrok_i, qrok_b0, qrok_b1, qrok_bI, Option.some.injEq, Value.int.injEq, J_bI0, J_bI1, Classical.not_not, Int.zero_add, Int.add_zero, Int.sub_zero, false_and, and_false, and_true, true_and, e_0, v_0, e_2, v_2, e_13, v_13, e_15, v_15, e_40, e_44, qspl_z, qspl_s, evC_s, evD_none, evD_v, evD_s, c_2, c_4, (smE_no (k := 196) rfl), r_M_isDigit_0, r_M_isDigit_1, r_M_isDigit_4, r_M_isDigit_6, r_M_isDigit_9, r_M_isDigit_10, r_M_isDigit_13, r_M_isDigit_15, r_M_isDigit_18, r_M_isDigit_19, r_M_isDigit_22, r_M_isDigit_23, (shS_o hs), (shS_r_now hs), (shS_k_now hs), I_val, I_add, I_sub, I_mul, ShM_mk, hs, hM_j2, inB, beq_iff_eq]
      repeat' (first | with_reducible apply And.intro | intro _)
      all_goals try (clear kK; omega)
      all_goals first | omega | trivial
    · rw [bF (fun z => q2 z.2)]
      refine G_ev ok_M_isDigit (smE_ok (d := d - 1) (by omega)) (fun _ => false) 200 (by omega) (fun Kc kK => ?_)
      simp (disch := omega) only [ev_s, evN_ap, List.getElem?_cons_zero, List.getElem?_cons_succ, List.set_cons_zero, List.set_cons_succ, Bool.false_eq_true, ↓reduceIte, qrest_n, qrest_1, qrest_2, qrest_3, qrest_4, qrest_5, qrest_6, qtr_i, qtr_r, true_and, and_true, List.length_cons, List.length_nil, Int.cast_ofNat_Int, Int32.toInt_zero, false_implies, true_implies, not_false_eq_true, not_true_eq_false, Option.toList_some, Option.toList_none, List.cons_append, List.nil_append, Nat.reduceBEq, Nat.reduceEqDiff, Bool.or_self, or_self, Nat.reduceAdd, Nat.reduceLT, Nat.zero_add, Int.reduceAdd, Int.reduceLE, Int.reduceLT, Int.reduceEq, and_self, Int.reduceNeg, qrok_i, qrok_b0, qrok_b1, qrok_bI, Option.some.injEq, Value.int.injEq, J_bI0, J_bI1, Classical.not_not, Int.zero_add, Int.add_zero, Int.sub_zero, false_and, and_false, and_true, true_and, e_0, v_0, e_2, v_2, e_13, v_13, e_15, v_15, e_40, e_44, qspl_z, qspl_s, evC_s, evD_none, evD_v, evD_s, c_2, c_4, (smE_no (k := 196) rfl), r_M_isDigit_0, r_M_isDigit_1, r_M_isDigit_4, r_M_isDigit_6, r_M_isDigit_9, r_M_isDigit_10, r_M_isDigit_13, r_M_isDigit_15, r_M_isDigit_18, r_M_isDigit_19, r_M_isDigit_22, r_M_isDigit_23, (shS_o hs), (shS_r_now hs), (shS_k_now hs), I_val, I_add, I_sub, I_mul, ShM_mk, hs, hM_j2, inB, beq_iff_eq]
      repeat' (first | with_reducible apply And.intro | intro _)
      all_goals try (clear kK; omega)
      all_goals first | omega | trivial
  · rw [bF (fun z => q z.1)]
    refine G_ev ok_M_isDigit (smE_ok (d := d - 1) (by omega)) (fun _ => false) 200 (by omega) (fun Kc kK => ?_)
    simp (disch := omega) only [ev_s, evN_ap, List.getElem?_cons_zero, List.getElem?_cons_succ, List.set_cons_zero, List.set_cons_succ, Bool.false_eq_true, ↓reduceIte, qrest_n, qrest_1, qrest_2, qrest_3, qrest_4, qrest_5, qrest_6, qtr_i, qtr_r, true_and, and_true, List.length_cons, List.length_nil, Int.cast_ofNat_Int, Int32.toInt_zero, false_implies, true_implies, not_false_eq_true, not_true_eq_false, Option.toList_some, Option.toList_none, List.cons_append, List.nil_append, Nat.reduceBEq, Nat.reduceEqDiff, Bool.or_self, or_self, Nat.reduceAdd, Nat.reduceLT, Nat.zero_add, Int.reduceAdd, Int.reduceLE, Int.reduceLT, Int.reduceEq, and_self, Int.reduceNeg, qrok_i, qrok_b0, qrok_b1, qrok_bI, Option.some.injEq, Value.int.injEq, J_bI0, J_bI1, Classical.not_not, Int.zero_add, Int.add_zero, Int.sub_zero, false_and, and_false, and_true, true_and, e_0, v_0, e_2, v_2, e_13, v_13, e_15, v_15, e_40, e_44, qspl_z, qspl_s, evC_s, evD_none, evD_v, evD_s, c_2, c_4, (smE_no (k := 196) rfl), r_M_isDigit_0, r_M_isDigit_1, r_M_isDigit_4, r_M_isDigit_6, r_M_isDigit_9, r_M_isDigit_10, r_M_isDigit_13, r_M_isDigit_15, r_M_isDigit_18, r_M_isDigit_19, r_M_isDigit_22, r_M_isDigit_23, (shS_o hs), (shS_r_now hs), (shS_k_now hs), I_val, I_add, I_sub, I_mul, ShM_mk, hs, hM_j2, inB, beq_iff_eq]
    repeat' (first | with_reducible apply And.intro | intro _)
    all_goals try (clear kK; omega)
    all_goals first | omega | trivial
set_option maxHeartbeats 2000000 in
set_option maxRecDepth 100000 in
theorem T_M_sumSign (hd : 8 ≤ d) (hs : ShMs s) {a : Int} (ha : -1 ≤ a ∧ a ≤ 255) : T l V mi_M_sumSign (rm d) 0 0 [.int (Int32.ofInt a)] (mkH s (jn c r)) (fun v h' => v = some (.int (Int32.ofInt (if 0 ≤ adF a then adF a else mlF a))) ∧ h' = mkH s (jn c r)) := by
  refine T_ev qm_M_sumSign [.int (Int32.ofInt a)] rfl rfl (Nat.le_of_ble_eq_true rfl) ok_M_sumSign (smE_ok (d := d - 1) (by omega)) (fun _ => false) 200 (by omega) (fun Kc kK => ?_)
  by_cases h : a = 43 ∨ a = 45 ∨ a = 42 ∨ a = 47 ∨ a = 37
  · rcases h with rfl | rfl | rfl | rfl | rfl
    all_goals
      simp [adF, mlF] at kK ⊢
      simp (disch := omega) only [ev_s, evN_ap, List.getElem?_cons_zero, List.getElem?_cons_succ, List.set_cons_zero, List.set_cons_succ, Bool.false_eq_true, ↓reduceIte, qrest_n, qrest_1, qrest_2, qrest_3, qrest_4, qrest_5, qrest_6, qtr_i, qtr_r, true_and, and_true, List.length_cons, List.length_nil, Int.cast_ofNat_Int, Int32.toInt_zero, false_implies, true_implies, not_false_eq_true, not_true_eq_false, Option.toList_some, Option.toList_none, List.cons_append, List.nil_append, Nat.reduceBEq, Nat.reduceEqDiff, Bool.or_self, or_self, Nat.reduceAdd, Nat.reduceLT, Nat.zero_add, Int.reduceAdd, Int.reduceLE, Int.reduceLT, Int.reduceEq, and_self, Int.reduceNeg, qrok_i, qrok_b0, qrok_b1, qrok_bI, Option.some.injEq, Value.int.injEq, J_bI0, J_bI1, Classical.not_not, Int.zero_add, Int.add_zero, Int.sub_zero, false_and, and_false, and_true, true_and, e_0, v_0, e_1, v_1, e_13, v_13, e_15, v_15, e_40, c_1, r_M_sumSign_0, r_M_sumSign_1, r_M_sumSign_3, r_M_sumSign_6, r_M_sumSign_7, r_M_sumSign_10, r_M_sumSign_11, r_M_sumSign_13, r_M_sumSign_16, r_M_sumSign_17, r_M_sumSign_20, r_M_sumSign_21, r_M_sumSign_23, r_M_sumSign_26, r_M_sumSign_27, r_M_sumSign_30, r_M_sumSign_31, r_M_sumSign_33, r_M_sumSign_36, r_M_sumSign_37, r_M_sumSign_40, r_M_sumSign_41, r_M_sumSign_43, r_M_sumSign_46, r_M_sumSign_48, r_M_sumSign_51, r_M_sumSign_52, (shS_o hs), (shS_r_now hs), (shS_k_now hs), I_val, I_add, I_sub, I_mul, ShM_mk, hs, hM_j2, inB, beq_iff_eq]
      repeat' (first | with_reducible apply And.intro | intro _)
      all_goals first | assumption | contradiction | trivial | (exact kK _ _ _ _ rfl) | (exact rfl) | (clear kK; omega)
  · have e : adF a = -1 := by unfold adF; rw [if_neg (by omega), if_neg (by omega)]
    have e2 : mlF a = -1 := by unfold mlF; rw [if_neg (by omega), if_neg (by omega), if_neg (by omega)]
    rw [e, e2, if_neg (by omega)]
    rw [e, e2, if_neg (by omega)] at kK
    simp (disch := omega) only [ev_s, evN_ap, List.getElem?_cons_zero, List.getElem?_cons_succ, List.set_cons_zero, List.set_cons_succ, Bool.false_eq_true, ↓reduceIte, qrest_n, qrest_1, qrest_2, qrest_3, qrest_4, qrest_5, qrest_6, qtr_i, qtr_r, true_and, and_true, List.length_cons, List.length_nil, Int.cast_ofNat_Int, Int32.toInt_zero, false_implies, true_implies, not_false_eq_true, not_true_eq_false, Option.toList_some, Option.toList_none, List.cons_append, List.nil_append, Nat.reduceBEq, Nat.reduceEqDiff, Bool.or_self, or_self, Nat.reduceAdd, Nat.reduceLT, Nat.zero_add, Int.reduceAdd, Int.reduceLE, Int.reduceLT, Int.reduceEq, and_self, Int.reduceNeg, qrok_i, qrok_b0, qrok_b1, qrok_bI, Option.some.injEq, Value.int.injEq, J_bI0, J_bI1, Classical.not_not, Int.zero_add, Int.add_zero, Int.sub_zero, false_and, and_false, and_true, true_and, e_0, v_0, e_1, v_1, e_13, v_13, e_15, v_15, e_40, c_1, r_M_sumSign_0, r_M_sumSign_1, r_M_sumSign_3, r_M_sumSign_6, r_M_sumSign_7, r_M_sumSign_10, r_M_sumSign_11, r_M_sumSign_13, r_M_sumSign_16, r_M_sumSign_17, r_M_sumSign_20, r_M_sumSign_21, r_M_sumSign_23, r_M_sumSign_26, r_M_sumSign_27, r_M_sumSign_30, r_M_sumSign_31, r_M_sumSign_33, r_M_sumSign_36, r_M_sumSign_37, r_M_sumSign_40, r_M_sumSign_41, r_M_sumSign_43, r_M_sumSign_46, r_M_sumSign_48, r_M_sumSign_51, r_M_sumSign_52, (shS_o hs), (shS_r_now hs), (shS_k_now hs), I_val, I_add, I_sub, I_mul, ShM_mk, hs, hM_j2, inB, beq_iff_eq]
    repeat' (first | with_reducible apply And.intro | intro _)
    all_goals first | assumption | contradiction | trivial | (exact kK _ _ _ _ rfl) | (exact rfl) | (clear kK; omega)
set_option maxHeartbeats 2000000 in
set_option maxRecDepth 100000 in
theorem T_M_factOf (hd : 8 ≤ d) (hs : ShMs s) {a : Int} (ha : -1 ≤ a ∧ a ≤ 255) : T l V mi_M_factOf (rm d) 0 0 [.int (Int32.ofInt a)] (mkH s (jn c r)) (fun v h' => v = some (.int (Int32.ofInt (lpF a))) ∧ h' = mkH s (jn c r)) := by
  refine T_ev qm_M_factOf [.int (Int32.ofInt a)] rfl rfl (Nat.le_of_ble_eq_true rfl) ok_M_factOf (smE_ok (d := d - 1) (by omega)) (fun _ => false) 200 (by omega) (fun Kc kK => ?_)
  by_cases h : a = 102 ∨ a = 116 ∨ a = 107 ∨ a = 110 ∨ a = 113 ∨ a = 115 ∨ a = 119
  · rcases h with rfl | rfl | rfl | rfl | rfl | rfl | rfl
    all_goals
      simp [lpF] at kK ⊢
      simp (disch := omega) only [ev_s, evN_ap, List.getElem?_cons_zero, List.getElem?_cons_succ, List.set_cons_zero, List.set_cons_succ, Bool.false_eq_true, ↓reduceIte, qrest_n, qrest_1, qrest_2, qrest_3, qrest_4, qrest_5, qrest_6, qtr_i, qtr_r, true_and, and_true, List.length_cons, List.length_nil, Int.cast_ofNat_Int, Int32.toInt_zero, false_implies, true_implies, not_false_eq_true, not_true_eq_false, Option.toList_some, Option.toList_none, List.cons_append, List.nil_append, Nat.reduceBEq, Nat.reduceEqDiff, Bool.or_self, or_self, Nat.reduceAdd, Nat.reduceLT, Nat.zero_add, Int.reduceAdd, Int.reduceLE, Int.reduceLT, Int.reduceEq, and_self, Int.reduceNeg, qrok_i, qrok_b0, qrok_b1, qrok_bI, Option.some.injEq, Value.int.injEq, J_bI0, J_bI1, Classical.not_not, Int.zero_add, Int.add_zero, Int.sub_zero, false_and, and_false, and_true, true_and, e_0, v_0, e_1, v_1, e_18, v_18, e_40, swP, r_M_factOf_0, r_M_factOf_1, r_M_factOf_88, r_M_factOf_89, r_M_factOf_90, r_M_factOf_91, r_M_factOf_92, r_M_factOf_93, r_M_factOf_94, r_M_factOf_95, r_M_factOf_96, r_M_factOf_97, r_M_factOf_98, r_M_factOf_99, r_M_factOf_100, r_M_factOf_102, r_M_factOf_103, r_M_factOf_104, (shS_o hs), (shS_r_now hs), (shS_k_now hs), I_val, I_add, I_sub, I_mul, ShM_mk, hs, hM_j2, inB, beq_iff_eq]
      repeat' (first | with_reducible apply And.intro | intro _)
      all_goals first | assumption | contradiction | trivial | (exact kK _ _ _ _ rfl) | (exact rfl) | (clear kK; omega)
  · have e : lpF a = -1 := by
      unfold lpF
      rw [if_neg (by omega), if_neg (by omega), if_neg (by omega), if_neg (by omega), if_neg (by omega), if_neg (by omega), if_neg (by omega)]
    rw [e]
    rw [e] at kK
    simp (disch := omega) only [ev_s, evN_ap, List.getElem?_cons_zero, List.getElem?_cons_succ, List.set_cons_zero, List.set_cons_succ, Bool.false_eq_true, ↓reduceIte, qrest_n, qrest_1, qrest_2, qrest_3, qrest_4, qrest_5, qrest_6, qtr_i, qtr_r, true_and, and_true, List.length_cons, List.length_nil, Int.cast_ofNat_Int, Int32.toInt_zero, false_implies, true_implies, not_false_eq_true, not_true_eq_false, Option.toList_some, Option.toList_none, List.cons_append, List.nil_append, Nat.reduceBEq, Nat.reduceEqDiff, Bool.or_self, or_self, Nat.reduceAdd, Nat.reduceLT, Nat.zero_add, Int.reduceAdd, Int.reduceLE, Int.reduceLT, Int.reduceEq, and_self, Int.reduceNeg, qrok_i, qrok_b0, qrok_b1, qrok_bI, Option.some.injEq, Value.int.injEq, J_bI0, J_bI1, Classical.not_not, Int.zero_add, Int.add_zero, Int.sub_zero, false_and, and_false, and_true, true_and, e_0, v_0, e_1, v_1, e_18, v_18, e_40, swP, r_M_factOf_0, r_M_factOf_1, r_M_factOf_88, r_M_factOf_89, r_M_factOf_90, r_M_factOf_91, r_M_factOf_92, r_M_factOf_93, r_M_factOf_94, r_M_factOf_95, r_M_factOf_96, r_M_factOf_97, r_M_factOf_98, r_M_factOf_99, r_M_factOf_100, r_M_factOf_102, r_M_factOf_103, r_M_factOf_104, (shS_o hs), (shS_r_now hs), (shS_k_now hs), I_val, I_add, I_sub, I_mul, ShM_mk, hs, hM_j2, inB, beq_iff_eq]
    repeat' (first | with_reducible apply And.intro | intro _)
    all_goals first | assumption | contradiction | trivial | (exact kK _ _ _ _ rfl) | (exact rfl) | (clear kK; omega)
set_option maxHeartbeats 2000000 in
set_option maxRecDepth 100000 in
theorem T_M_waitTop (hd : 8 ≤ d) (hs : ShMs s) (h : LrS r n K U W o) : T l V mi_M_waitTop (rm d) 0 0 [.ref 2198] (mkH s (jn c r)) (fun v h' => v = some (.int (Int32.ofInt (wtp W))) ∧ h' = mkH s (jn c r)) := by
  refine T_ev qm_M_waitTop [.ref 2198] rfl rfl (Nat.le_of_ble_eq_true rfl) ok_M_waitTop (smE_ok (d := d - 1) (by omega)) (fun _ => false) 200 (by omega) (fun Kc kK => ?_)
  obtain ⟨-, -, ⟨⟨h13, hW⟩, -⟩, ⟨hp, hn, hm⟩, hl, -, hb, -⟩ := h
  cases W with
  | nil =>
    have h13 : r 2198 13 = 0 := h13
    have e : wtp [] = -1 := rfl
    rw [e]
    rw [e] at kK
    simp (disch := omega) only [ev_s, evN_ap, List.getElem?_cons_zero, List.getElem?_cons_succ, List.set_cons_zero, List.set_cons_succ, Bool.false_eq_true, ↓reduceIte, qrest_n, qrest_1, qrest_2, qrest_3, qrest_4, qrest_5, qrest_6, qtr_i, qtr_r, true_and, and_true, List.length_cons, List.length_nil, Int.cast_ofNat_Int, Int32.toInt_zero, false_implies, true_implies, not_false_eq_true, not_true_eq_false, Option.toList_some, Option.toList_none, List.cons_append, List.nil_append, Nat.reduceBEq, Nat.reduceEqDiff, Bool.or_self, or_self, Nat.reduceAdd, Nat.reduceLT, Nat.zero_add, Int.reduceAdd, Int.reduceLE, Int.reduceLT, Int.reduceEq, and_self, Int.reduceNeg, qrok_i, qrok_b0, qrok_b1, qrok_bI, Option.some.injEq, Value.int.injEq, J_bI0, J_bI1, Classical.not_not, Int.zero_add, Int.add_zero, Int.sub_zero, false_and, and_false, and_true, true_and, e_0, v_0, e_2, v_2, e_6, v_6, e_7, v_7, e_13, v_13, e_14, v_14, e_19, v_19, e_20, v_20, e_24, v_24, e_40, c_1, b_1, r_M_waitTop_0, r_M_waitTop_1, r_M_waitTop_4, r_M_waitTop_7, r_M_waitTop_8, r_M_waitTop_11, r_M_waitTop_12, r_M_waitTop_15, r_M_waitTop_16, r_M_waitTop_19, r_M_waitTop_20, r_M_waitTop_21, r_M_waitTop_22, r_M_waitTop_24, r_M_waitTop_25, (shS_o hs), (shS_r_now hs), (shS_k_now hs), I_val, I_add, I_sub, I_mul, ShM_mk, hs, hM_j2, inB, beq_iff_eq, hM_jr, h13]
    repeat' (first | with_reducible apply And.intro | intro _)
    all_goals first | assumption | contradiction | trivial | (exact kK _ _ _ _ rfl) | (exact rfl) | (clear kK; omega)
  | cons b z =>
    have h13' : r 2198 13 = (z.length : Int) + 1 := by rw [h13, List.length_cons]; omega
    have hl' : (z.length : Int) + 1 ≤ K.1 + 1 := by rw [List.length_cons] at hl; omega
    have e : wtp (b :: z) = b / 1048576 := rfl
    have b0 := hb b List.mem_cons_self
    have zl : (z.length : Int) + 1 - 1 = z.length := by omega
    rw [e]
    rw [e] at kK
    simp (disch := omega) only [ev_s, evN_ap, List.getElem?_cons_zero, List.getElem?_cons_succ, List.set_cons_zero, List.set_cons_succ, Bool.false_eq_true, ↓reduceIte, qrest_n, qrest_1, qrest_2, qrest_3, qrest_4, qrest_5, qrest_6, qtr_i, qtr_r, true_and, and_true, List.length_cons, List.length_nil, Int.cast_ofNat_Int, Int32.toInt_zero, false_implies, true_implies, not_false_eq_true, not_true_eq_false, Option.toList_some, Option.toList_none, List.cons_append, List.nil_append, Nat.reduceBEq, Nat.reduceEqDiff, Bool.or_self, or_self, Nat.reduceAdd, Nat.reduceLT, Nat.zero_add, Int.reduceAdd, Int.reduceLE, Int.reduceLT, Int.reduceEq, and_self, Int.reduceNeg, qrok_i, qrok_b0, qrok_b1, qrok_bI, Option.some.injEq, Value.int.injEq, J_bI0, J_bI1, Classical.not_not, Int.zero_add, Int.add_zero, Int.sub_zero, false_and, and_false, and_true, true_and, e_0, v_0, e_2, v_2, e_6, v_6, e_7, v_7, e_13, v_13, e_14, v_14, e_19, v_19, e_20, v_20, e_24, v_24, e_40, c_1, b_1, r_M_waitTop_0, r_M_waitTop_1, r_M_waitTop_4, r_M_waitTop_7, r_M_waitTop_8, r_M_waitTop_11, r_M_waitTop_12, r_M_waitTop_15, r_M_waitTop_16, r_M_waitTop_19, r_M_waitTop_20, r_M_waitTop_21, r_M_waitTop_22, r_M_waitTop_24, r_M_waitTop_25, (shS_o hs), (shS_r_now hs), (shS_k_now hs), I_val, I_add, I_sub, I_mul, ShM_mk, hs, hM_j2, inB, beq_iff_eq, (shS_o hs), (shS_r_waitsAt hs), (shS_k_waitsAt hs), hM_jr, h13', zl, hW.1, I_div]
    repeat' (first | with_reducible apply And.intro | intro _)
    all_goals try (clear kK; omega)
    all_goals first | omega | trivial
set_option maxHeartbeats 2000000 in
set_option maxRecDepth 100000 in
theorem T_M_notes (hd : 8 ≤ d) (hs : ShMs s) {x a : Int} (h : LrS r n K U W o) (hx : 0 ≤ x ∧ x ≤ 12) (ha : 0 ≤ a ∧ a < 1048576) (hm1 : K.2.1 ≤ K.1) : T l V mi_M_notes (rm d) 0 0 [.ref 2198, .int (Int32.ofInt x), .int (Int32.ofInt a)] (mkH s (jn c r)) (fun v h' => v = none ∧ ∃ r', h' = mkH s (jn c r') ∧ LrF r r' ∧ LrS r' n (emK K x a) U W o) := by
  refine T_ev qm_M_notes [.ref 2198, .int (Int32.ofInt x), .int (Int32.ofInt a)] rfl rfl (Nat.le_of_ble_eq_true rfl) ok_M_notes (smE_ok (d := d - 1) (by omega)) (fun _ => false) 200 (by omega) (fun Kc kK => ?_)
  obtain ⟨⟨⟨h7, h8⟩, h12, h05⟩, ⟨⟨h14, h07⟩, h08, h09, h10⟩, ⟨⟨h13, hW⟩, h11⟩, ⟨hp, hn, hm⟩, hl, ⟨ho, hu⟩, hb, hc⟩ := h
  have g : ∃ r', mkH s (jn c (uA (uA r 2205 (u1 (r 2205) (K.2.1) (1048576 * x + a))) 2198 (u1 (r 2198) 12 (K.2.1 + 1)))) = mkH s (jn c r') ∧ LrF r r' ∧ LrS r' n (emK K x a) U W o := by
    have e98 : uA (uA r 2205 (u1 (r 2205) (K.2.1) (1048576 * x + a))) 2198 (u1 (r 2198) 12 (K.2.1 + 1)) 2198 = u1 (r 2198) 12 (K.2.1 + 1) := uA_same
    have e05 : uA (uA r 2205 (u1 (r 2205) (K.2.1) (1048576 * x + a))) 2198 (u1 (r 2198) 12 (K.2.1 + 1)) 2205 = u1 (r 2205) (K.2.1) (1048576 * x + a) := by rw [uA_ne (by omega), uA_same]
    have eo : ∀ a', a' ≠ 2198 → a' ≠ 2205 → uA (uA r 2205 (u1 (r 2205) (K.2.1) (1048576 * x + a))) 2198 (u1 (r 2198) 12 (K.2.1 + 1)) a' = r a' := fun a' a1 a2 => by rw [uA_ne a1, uA_ne a2]
    refine ⟨_, rfl, ⟨fun a' a1 a2 => eo a' a1 (by omega), fun k k1 k2 => by rw [e98, u1_ne (by omega)]⟩, ?_⟩
    unfold LrS
    rw [e98, e05, eo 2207 (by omega) (by omega), eo 2208 (by omega) (by omega), eo 2209 (by omega) (by omega), eo 2210 (by omega) (by omega), u1_ne (by omega), u1_ne (by omega), u1_same, u1_ne (by omega), u1_ne (by omega), u1_ne (by omega), h05]
    refine ⟨⟨⟨h7, h8⟩, rfl, rfl⟩, ⟨⟨h14, h07⟩, h08, h09, h10⟩, ⟨⟨h13, WtR_o (eo 2206 (by omega) (by omega)) hW⟩, h11⟩, ⟨hp, hn, by show 0 ≤ K.2.1 + 1 ∧ K.2.1 + 1 ≤ K.1 + 1; omega⟩, hl, ⟨ho, hu⟩, hb, fun k k1 k2 => ?_⟩
    have k2 : k < K.2.1 + 1 := k2
    show 0 ≤ u1 K.2.2.1 K.2.1 (1048576 * x + a) k ∧ u1 K.2.2.1 K.2.1 (1048576 * x + a) k ≤ 100000000
    by_cases q : k = K.2.1
    · rw [q, u1_same]; omega
    · rw [u1_ne q]; exact hc k k1 (by omega)
  simp (disch := omega) only [ev_s, evN_ap, List.getElem?_cons_zero, List.getElem?_cons_succ, List.set_cons_zero, List.set_cons_succ, Bool.false_eq_true, ↓reduceIte, qrest_n, qrest_1, qrest_2, qrest_3, qrest_4, qrest_5, qrest_6, qtr_i, qtr_r, true_and, and_true, List.length_cons, List.length_nil, Int.cast_ofNat_Int, Int32.toInt_zero, false_implies, true_implies, not_false_eq_true, not_true_eq_false, Option.toList_some, Option.toList_none, List.cons_append, List.nil_append, Nat.reduceBEq, Nat.reduceEqDiff, Bool.or_self, or_self, Nat.reduceAdd, Nat.reduceLT, Nat.zero_add, Int.reduceAdd, Int.reduceLE, Int.reduceLT, Int.reduceEq, and_self, Int.reduceNeg, qrok_i, qrok_b0, qrok_b1, qrok_bI, Option.some.injEq, Value.int.injEq, J_bI0, J_bI1, Classical.not_not, Int.zero_add, Int.add_zero, Int.sub_zero, false_and, and_false, and_true, true_and, e_0, v_0, e_1, v_1, e_2, v_2, e_6, v_6, e_19, v_19, e_20, v_20, e_21, v_21, e_25, v_25, e_41, b_0, b_2, r_M_notes_0, r_M_notes_1, r_M_notes_4, r_M_notes_5, r_M_notes_8, r_M_notes_10, r_M_notes_11, r_M_notes_12, r_M_notes_13, r_M_notes_14, r_M_notes_15, r_M_notes_16, r_M_notes_17, r_M_notes_20, r_M_notes_21, r_M_notes_22, r_M_notes_25, (shS_o hs), (shS_r_now hs), (shS_k_now hs), I_val, I_add, I_sub, I_mul, ShM_mk, hs, hM_j2, inB, beq_iff_eq, (shS_o hs), (shS_r_said hs), (shS_k_said hs), hM_jr, set_jA, uA_uA, uA_same, uA_ne, u1_ne, u1_same, h12]
  repeat' (first | with_reducible apply And.intro | intro _)
  all_goals try (clear kK; omega)
  all_goals first | omega | exact g
set_option maxHeartbeats 2000000 in
set_option maxRecDepth 100000 in
theorem T_M_opens (hd : 9 ≤ d) (hs : ShMs s) {x : Int} (h : LrS r n K U W o) (hx : 10 ≤ x ∧ x ≤ 14) (hp1 : K.1 < n) : T l V mi_M_opens (rm d) 0 0 [.ref 2198, .int (Int32.ofInt x)] (mkH s (jn c r)) (fun v h' => (o = 6 → v = some (.int (Int32.ofInt 0)) ∧ ∃ r', h' = mkH s (jn c r') ∧ LrF r r' ∧ r' 2198 9 = -5000 - K.1) ∧ (o ≠ 6 → v = some (.int (Int32.ofInt 1)) ∧ ∃ r', h' = mkH s (jn c r') ∧ LrF r r' ∧ LrS r' n (atK K (K.1 + 1)) U (1048576 * x :: W) (o + 1))) := by
  refine T_ev qm_M_opens [.ref 2198, .int (Int32.ofInt x)] rfl rfl (Nat.le_of_ble_eq_true rfl) ok_M_opens (smE_ok (d := d - 1) (by omega)) (fun _ => false) 200 (by omega) (fun Kc kK => ?_)
  have h' := h
  obtain ⟨⟨⟨h7, h8⟩, h12, h05⟩, ⟨⟨h14, h07⟩, h08, h09, h10⟩, ⟨⟨h13, hW⟩, h11⟩, ⟨hp, hn, hm⟩, hl, ⟨ho, hu⟩, hb, hc⟩ := h'
  by_cases q : o = 6
  · simp (disch := omega) only [ev_s, evN_ap, List.getElem?_cons_zero, List.getElem?_cons_succ, List.set_cons_zero, List.set_cons_succ, Bool.false_eq_true, ↓reduceIte, qrest_n, qrest_1, qrest_2, qrest_3, qrest_4, qrest_5, qrest_6, qtr_i, qtr_r, true_and, and_true, List.length_cons, List.length_nil, Int.cast_ofNat_Int, Int32.toInt_zero, false_implies, true_implies, not_false_eq_true, not_true_eq_false, Option.toList_some, Option.toList_none, List.cons_append, List.nil_append, Nat.reduceBEq, Nat.reduceEqDiff, Bool.or_self, or_self, Nat.reduceAdd, Nat.reduceLT, Nat.zero_add, Int.reduceAdd, Int.reduceLE, Int.reduceLT, Int.reduceEq, and_self, Int.reduceNeg, qrok_i, qrok_b0, qrok_b1, qrok_bI, Option.some.injEq, Value.int.injEq, J_bI0, J_bI1, Classical.not_not, Int.zero_add, Int.add_zero, Int.sub_zero, false_and, and_false, and_true, true_and, e_0, v_0, e_1, v_1, e_2, v_2, e_6, v_6, e_15, v_15, e_19, v_19, e_20, v_20, e_21, v_21, e_25, v_25, e_40, e_44, qspl_z, qspl_s, evC_s, evD_none, evD_v, evD_s, c_1, b_0, b_2, (smE_no (k := 198) rfl), r_M_opens_0, r_M_opens_1, r_M_opens_4, r_M_opens_6, r_M_opens_9, r_M_opens_10, r_M_opens_11, r_M_opens_12, r_M_opens_15, r_M_opens_18, r_M_opens_19, r_M_opens_20, r_M_opens_21, r_M_opens_24, r_M_opens_25, r_M_opens_26, r_M_opens_29, r_M_opens_30, r_M_opens_33, r_M_opens_34, r_M_opens_37, r_M_opens_39, r_M_opens_40, r_M_opens_41, r_M_opens_42, r_M_opens_43, r_M_opens_44, r_M_opens_47, r_M_opens_48, r_M_opens_49, r_M_opens_52, r_M_opens_53, r_M_opens_54, r_M_opens_57, r_M_opens_58, r_M_opens_59, r_M_opens_62, r_M_opens_63, (shS_o hs), (shS_r_now hs), (shS_k_now hs), I_val, I_add, I_sub, I_mul, ShM_mk, hs, hM_j2, inB, beq_iff_eq, hM_jr, h11, h7]
    repeat' (first | with_reducible apply And.intro | intro _)
    all_goals try (clear kK; omega)
    all_goals try omega
    refine kK _ _ _ _ (GCD ok_M_opens r_M_opens_15 ⟨by decide, by decide⟩ qm_M_wrongAt (T_M_wrongAt (d := d - 1) (a := 5) (b := K.1) (by omega) hs (by omega) (by omega)) rfl rfl (fun _ => rcM hs) rfl (Nat.le_of_ble_eq_true rfl) (by omega) ?_)
    rw [show (-1000 * 5 - K.1 : Int) = -5000 - K.1 by omega]
    have g : ∃ r', mkH s (jn c (uA r 2198 (u1 (r 2198) 9 (-5000 - K.1)))) = mkH s (jn c r') ∧ LrF r r' ∧ r' 2198 9 = -5000 - K.1 := ⟨_, rfl, LrF_98 (fun k k1 k2 => u1_ne (by omega)), by rw [uA_same, u1_same]⟩
    refine G_ev ok_M_opens (smE_ok (d := d - 1) (by omega)) (fun _ => false) 200 (by omega) (fun Kc kK => ?_)
    simp (disch := omega) only [ev_s, evN_ap, List.getElem?_cons_zero, List.getElem?_cons_succ, List.set_cons_zero, List.set_cons_succ, Bool.false_eq_true, ↓reduceIte, qrest_n, qrest_1, qrest_2, qrest_3, qrest_4, qrest_5, qrest_6, qtr_i, qtr_r, true_and, and_true, List.length_cons, List.length_nil, Int.cast_ofNat_Int, Int32.toInt_zero, false_implies, true_implies, not_false_eq_true, not_true_eq_false, Option.toList_some, Option.toList_none, List.cons_append, List.nil_append, Nat.reduceBEq, Nat.reduceEqDiff, Bool.or_self, or_self, Nat.reduceAdd, Nat.reduceLT, Nat.zero_add, Int.reduceAdd, Int.reduceLE, Int.reduceLT, Int.reduceEq, and_self, Int.reduceNeg, qrok_i, qrok_b0, qrok_b1, qrok_bI, Option.some.injEq, Value.int.injEq, J_bI0, J_bI1, Classical.not_not, Int.zero_add, Int.add_zero, Int.sub_zero, false_and, and_false, and_true, true_and, e_0, v_0, e_1, v_1, e_2, v_2, e_6, v_6, e_15, v_15, e_19, v_19, e_20, v_20, e_21, v_21, e_25, v_25, e_40, e_44, qspl_z, qspl_s, evC_s, evD_none, evD_v, evD_s, c_1, b_0, b_2, (smE_no (k := 198) rfl), r_M_opens_0, r_M_opens_1, r_M_opens_4, r_M_opens_6, r_M_opens_9, r_M_opens_10, r_M_opens_11, r_M_opens_12, r_M_opens_15, r_M_opens_18, r_M_opens_19, r_M_opens_20, r_M_opens_21, r_M_opens_24, r_M_opens_25, r_M_opens_26, r_M_opens_29, r_M_opens_30, r_M_opens_33, r_M_opens_34, r_M_opens_37, r_M_opens_39, r_M_opens_40, r_M_opens_41, r_M_opens_42, r_M_opens_43, r_M_opens_44, r_M_opens_47, r_M_opens_48, r_M_opens_49, r_M_opens_52, r_M_opens_53, r_M_opens_54, r_M_opens_57, r_M_opens_58, r_M_opens_59, r_M_opens_62, r_M_opens_63, (shS_o hs), (shS_r_now hs), (shS_k_now hs), I_val, I_add, I_sub, I_mul, ShM_mk, hs, hM_j2, inB, beq_iff_eq]
    exact ⟨fun _ => g, fun z => absurd q z⟩
  · have e0 : ∃ R1, R1 = uA (uA (uA r 2198 (u1 (r 2198) 11 (o + 1))) 2206 (u1 (r 2206) (W.length : Int) (1048576 * x))) 2198 (u1 (u1 (u1 (r 2198) 11 (o + 1)) 13 ((W.length : Int) + 1)) 7 (K.1 + 1)) := ⟨_, rfl⟩
    obtain ⟨R1, eR⟩ := e0
    have e98 : R1 2198 = u1 (u1 (u1 (r 2198) 11 (o + 1)) 13 ((W.length : Int) + 1)) 7 (K.1 + 1) := by rw [eR, uA_same]
    have e06 : R1 2206 = u1 (r 2206) (W.length : Int) (1048576 * x) := by rw [eR, uA_ne (by omega), uA_same]
    have eo : ∀ a', a' ≠ 2198 → a' ≠ 2206 → R1 a' = r a' := fun a' a1 a2 => by rw [eR, uA_ne a1, uA_ne a2, uA_ne a1]
    have g : ∃ r', mkH s (jn c R1) = mkH s (jn c r') ∧ LrF r r' ∧ LrS r' n (atK K (K.1 + 1)) U (1048576 * x :: W) (o + 1) := by
      refine ⟨_, rfl, ⟨fun a' a1 a2 => eo a' a1 (by omega), fun k k1 k2 => by rw [e98, u1_ne (by omega), u1_ne (by omega), u1_ne (by omega)]⟩, ?_⟩
      unfold LrS
      rw [e98, eo 2205 (by omega) (by omega), eo 2207 (by omega) (by omega), eo 2208 (by omega) (by omega), eo 2209 (by omega) (by omega), eo 2210 (by omega) (by omega)]
      refine ⟨⟨⟨u1_same, by rw [u1_ne (by omega), u1_ne (by omega), u1_ne (by omega)]; exact h8⟩, by rw [u1_ne (by omega), u1_ne (by omega), u1_ne (by omega)]; exact h12, h05⟩, ⟨⟨by rw [u1_ne (by omega), u1_ne (by omega), u1_ne (by omega)]; exact h14, h07⟩, h08, h09, h10⟩, ⟨⟨by rw [u1_ne (by omega), u1_same, List.length_cons]; omega, ?_, ?_⟩, by rw [u1_ne (by omega), u1_ne (by omega), u1_same]⟩, ⟨by show 0 ≤ K.1 + 1 ∧ K.1 + 1 ≤ n; omega, hn, by show 0 ≤ K.2.1 ∧ K.2.1 ≤ K.1 + 1 + 1; omega⟩, by rw [List.length_cons]; show _ ≤ K.1 + 1 + 1; omega, ⟨by omega, hu⟩, fun b hb' => ?_, hc⟩
      · rw [e06, u1_same]
      · refine WtR_c (fun i i1 i2 => ?_) hW
        rw [e06, u1_ne (by omega)]
      · rcases List.mem_cons.mp hb' with rfl | hb'
        · omega
        · exact hb b hb'
    have hl0 : 0 ≤ (W.length : Int) := by omega
    generalize (W.length : Int) = L at *
    simp (disch := omega) only [ev_s, evN_ap, List.getElem?_cons_zero, List.getElem?_cons_succ, List.set_cons_zero, List.set_cons_succ, Bool.false_eq_true, ↓reduceIte, qrest_n, qrest_1, qrest_2, qrest_3, qrest_4, qrest_5, qrest_6, qtr_i, qtr_r, true_and, and_true, List.length_cons, List.length_nil, Int.cast_ofNat_Int, Int32.toInt_zero, false_implies, true_implies, not_false_eq_true, not_true_eq_false, Option.toList_some, Option.toList_none, List.cons_append, List.nil_append, Nat.reduceBEq, Nat.reduceEqDiff, Bool.or_self, or_self, Nat.reduceAdd, Nat.reduceLT, Nat.zero_add, Int.reduceAdd, Int.reduceLE, Int.reduceLT, Int.reduceEq, and_self, Int.reduceNeg, qrok_i, qrok_b0, qrok_b1, qrok_bI, Option.some.injEq, Value.int.injEq, J_bI0, J_bI1, Classical.not_not, Int.zero_add, Int.add_zero, Int.sub_zero, false_and, and_false, and_true, true_and, e_0, v_0, e_1, v_1, e_2, v_2, e_6, v_6, e_15, v_15, e_19, v_19, e_20, v_20, e_21, v_21, e_25, v_25, e_40, e_44, qspl_z, qspl_s, evC_s, evD_none, evD_v, evD_s, c_1, b_0, b_2, (smE_no (k := 198) rfl), r_M_opens_0, r_M_opens_1, r_M_opens_4, r_M_opens_6, r_M_opens_9, r_M_opens_10, r_M_opens_11, r_M_opens_12, r_M_opens_15, r_M_opens_18, r_M_opens_19, r_M_opens_20, r_M_opens_21, r_M_opens_24, r_M_opens_25, r_M_opens_26, r_M_opens_29, r_M_opens_30, r_M_opens_33, r_M_opens_34, r_M_opens_37, r_M_opens_39, r_M_opens_40, r_M_opens_41, r_M_opens_42, r_M_opens_43, r_M_opens_44, r_M_opens_47, r_M_opens_48, r_M_opens_49, r_M_opens_52, r_M_opens_53, r_M_opens_54, r_M_opens_57, r_M_opens_58, r_M_opens_59, r_M_opens_62, r_M_opens_63, (shS_o hs), (shS_r_now hs), (shS_k_now hs), I_val, I_add, I_sub, I_mul, ShM_mk, hs, hM_j2, inB, beq_iff_eq, (shS_o hs), (shS_r_waitsAt hs), (shS_k_waitsAt hs), hM_jr, set_jA, uA_uA, uA_same, uA_ne, u1_ne, u1_same, h11, h13, h7]
    repeat' (first | with_reducible apply And.intro | intro _)
    all_goals try (clear kK; omega)
    all_goals try omega
    all_goals (rw [← eR]; exact g)
end MS
