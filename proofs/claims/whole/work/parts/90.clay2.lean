/-! a node of the class lays, drops, stands, leads -/
section St
variable {s : qS} {w : Nat} {S : qN} {g r : qI} {n k v t a b e : Int}
theorem su_log (hw : 8 ≤ w ∧ w ≤ 1462) (hn : 0 ≤ n ∧ n ≤ 6) (hk : nd S n 8 ≤ k) : setM (mkH s (jn (mkC w S g) r)) (ndA w n 1) k (Int32.ofInt v) = mkH s (jn (mkC w S (up g (ndA w n 1) k v)) r) := by
  rw [set_c (ndA_lt hw hn (by omega)), up_log hn hk]
theorem su_many (hw : 8 ≤ w ∧ w ≤ 1462) (hn : 0 ≤ n ∧ n ≤ 6) (hv : v ≤ nd S n 8) : setM (mkH s (jn (mkC w S g) r)) (ndA w n 0) 5 (Int32.ofInt v) = mkH s (jn (mkC w (u1 S (244 * n + 8) v) (mkC w S g)) r) := by
  rw [set_c (ndA_lt hw hn (by omega))]
  refine congrArg (fun c => mkH s (jn c r)) ?_
  refine (congrArg (fun c => up c (ndA w n 0) 5 v) mkC_id.symm).trans ?_
  refine up_N hn (by omega) (offN_u1 (by omega)) (fun p' k' hp' => ?_) (fun _ _ _ => rfl)
  rw [nd_u1c, mkC_N hn hp']
  generalize g (ndA w n p') k' = x
  have hp8 : p' = 0 ∨ p' = 1 ∨ p' = 2 ∨ p' = 3 ∨ p' = 4 ∨ p' = 5 ∨ p' = 6 ∨ p' = 7 := by omega
  rcases hp8 with rfl | rfl | rfl | rfl | rfl | rfl | rfl | rfl <;> simp only [ndC, pk, u1] <;> grind (splits := 60)
theorem su_lay (hw : 8 ≤ w ∧ w ≤ 1462) (hn : 0 ≤ n ∧ n ≤ 6) (h8 : 0 ≤ nd S n 8 ∧ nd S n 8 < 48) (he : e = pkv t k a b) : setM (mkH s (jn (mkC w S (up g (ndA w n 1) (nd S n 8) e)) r)) (ndA w n 0) 5 (Int32.ofInt (nd S n 8 + 1)) = mkH s (jn (mkC w (ly1 S n t k a b) (up g (ndA w n 1) (nd S n 8) e)) r) := by
  rw [set_c (ndA_lt hw hn (by omega))]
  refine congrArg (fun c => mkH s (jn c r)) ?_
  have hb : nd S n 8 ≤ 48 ∧ 0 ≤ nd S n 8 := by omega
  have o : ∀ e, 0 ≤ e → e < 52 → e ≠ 8 → nd (ly1 S n t k a b) n e = nd S n e := fun e h1 h2 h3 => ly1_nd hb ⟨h1, h2⟩ h3
  have e8 : nd (ly1 S n t k a b) n 8 = nd S n 8 + 1 := ly1_8 hb
  refine up_N hn (by omega) (fun j hj => ly1_ne (by omega) (by omega)) (fun p k' hp => ?_) (fun _ _ _ => rfl)
  have hp8 : p = 0 ∨ p = 1 ∨ p = 2 ∨ p = 3 ∨ p = 4 ∨ p = 5 ∨ p = 6 ∨ p = 7 := by omega
  rcases hp8 with rfl | rfl | rfl | rfl | rfl | rfl | rfl | rfl
  · generalize up g (ndA w n 1) (nd S n 8) e (ndA w n 0) k' = x
    simp only [ndC]
    rw [o 0 (by omega) (by omega) (by omega), o 1 (by omega) (by omega) (by omega), o 2 (by omega) (by omega) (by omega), e8, o 3 (by omega) (by omega) (by omega), o 9 (by omega) (by omega) (by omega), o 10 (by omega) (by omega) (by omega), o 11 (by omega) (by omega) (by omega), o 12 (by omega) (by omega) (by omega), o 13 (by omega) (by omega) (by omega), o 14 (by omega) (by omega) (by omega)]
    grind (splits := 60)
  · rw [ndC_1, ndC_1, if_neg (show ¬ ((1 : Nat) = 0 ∧ k' = 5) by omega), e8]
    by_cases h1 : 0 ≤ k' ∧ k' < nd S n 8
    · rw [if_pos (by omega), if_pos (by omega)]
      have x : ∀ q, 0 ≤ q → q < 4 → nd (ly1 S n t k a b) n (52 + 4 * k' + q) = nd S n (52 + 4 * k' + q) := fun q h3 h4 => ly1_old (by omega) (by omega)
      have x0 := x 0 (by omega) (by omega)
      rw [Int.add_zero] at x0
      unfold pk
      rw [x0, x 1 (by omega) (by omega), x 2 (by omega) (by omega), x 3 (by omega) (by omega)]
    · by_cases h2 : k' = nd S n 8
      · rw [if_pos (by omega), if_neg (by omega), h2, up_same, he]
        have y := ly1_new (S := S) (n := n) (t := t) (k := k) (a := a) (b := b) (244 * n + (52 + 4 * nd S n 8)) (by omega)
        obtain ⟨y0, y1, y2, y3⟩ := y
        unfold pk pkv nd at *
        simp only [Int.add_assoc] at y0 y1 y2 y3 ⊢
        rw [y0, y1, y2, y3]
      · rw [if_neg (by omega), if_neg (by omega)]
  · generalize up g (ndA w n 1) (nd S n 8) e (ndA w n 2) k' = x
    rw [if_neg (by omega), ndC_2, ndC_2, o 4 (by omega) (by omega) (by omega), o 5 (by omega) (by omega) (by omega), o 6 (by omega) (by omega) (by omega), o 7 (by omega) (by omega) (by omega)]
  · generalize up g (ndA w n 1) (nd S n 8) e (ndA w n 3) k' = x
    rw [if_neg (show ¬ ((3 : Nat) = 0 ∧ k' = 5) by omega), ndC_3, ndC_3]
    by_cases hk : 0 ≤ k' ∧ k' < 8
    · rw [o (23 + k') (by omega) (by omega) (by omega)]
    · rw [if_neg hk, if_neg hk]
  · generalize up g (ndA w n 1) (nd S n 8) e (ndA w n 4) k' = x
    rw [if_neg (show ¬ ((4 : Nat) = 0 ∧ k' = 5) by omega), ndC_4, ndC_4]
    by_cases hk : 0 ≤ k' ∧ k' < 8
    · rw [o (15 + k') (by omega) (by omega) (by omega)]
    · rw [if_neg hk, if_neg hk]
  · generalize up g (ndA w n 1) (nd S n 8) e (ndA w n 5) k' = x
    rw [if_neg (show ¬ ((5 : Nat) = 0 ∧ k' = 5) by omega), ndC_5, ndC_5, o 3 (by omega) (by omega) (by omega)]
    by_cases hk : nd S n 3 = 2 ∧ 0 ≤ k' ∧ k' < 7
    · rw [o (31 + k') (by omega) (by omega) (by omega)]
    · rw [if_neg hk, if_neg hk]
  · generalize up g (ndA w n 1) (nd S n 8) e (ndA w n 6) k' = x
    rw [if_neg (show ¬ ((6 : Nat) = 0 ∧ k' = 5) by omega), ndC_6, ndC_6, o 3 (by omega) (by omega) (by omega)]
    by_cases hk : nd S n 3 = 2 ∧ 0 ≤ k' ∧ k' < 7
    · rw [o (38 + k') (by omega) (by omega) (by omega)]
    · rw [if_neg hk, if_neg hk]
  · generalize up g (ndA w n 1) (nd S n 8) e (ndA w n 7) k' = x
    rw [if_neg (show ¬ ((7 : Nat) = 0 ∧ k' = 5) by omega), ndC_7, ndC_7, o 3 (by omega) (by omega) (by omega)]
    by_cases hk : nd S n 3 = 2 ∧ 0 ≤ k' ∧ k' < 7
    · rw [o (45 + k') (by omega) (by omega) (by omega)]
    · rw [if_neg hk, if_neg hk]
theorem FrN_up {p : Nat} (hn : 0 ≤ n ∧ n ≤ 6) (hp : p < 8) : FrN w g (up g (ndA w n p) k v) := fun q h => by
  funext k'
  exact up_ne (Or.inl (fun e => ndA_off hn hp (e ▸ h)))
end St
section CS
variable {l : Launch} {V : qV} {d : Nat} {s : qS} {w : Nat} {S : qN} {c g r : qI} {R n : Int} {Q : Option Value → qH → Prop}
set_option maxHeartbeats 2000000 in
set_option maxRecDepth 100000 in
theorem C_Node_lay (hd : 6 ≤ d) (hw : 8 ≤ w ∧ w ≤ 1462) (hS : ShW s w) {n e : Int} {t k a b : Int} (hn : 0 ≤ n ∧ n ≤ 6) (ho : OK R S) (hp : pkR t k a b) (he : e = pkv t k a b) : T l V mi_Node_lay (rm d) 0 0 [.ref (ndA w n 0), .int (Int32.ofInt e)] (mkH s (jn (mkC w S g) r)) (fun v h' => v = some (.int (bI (hasRoom S n))) ∧ ∃ g', h' = mkH s (jn (mkC w (lyS S n t k a b) g') r) ∧ FrN w g g') := by
  refine T_ev qm_Node_lay [.ref (ndA w n 0), .int (Int32.ofInt e)] rfl rfl (Nat.le_of_ble_eq_true rfl) ok_Node_lay (smL_ok (d := d - 1) (by omega)) (fun pc => pc == 13) 200 (by omega) (fun K kK => ?_)
  obtain ⟨-, n3, n4, n5, n6⟩ := OK_nOk ho hn
  have hb := pkv_rng hp
  have key : ∀ g1, FrN w g g1 → G l V mi_Node_lay (rm d) 0 0 (fun v h' => v = some (.int (bI (hasRoom S n))) ∧ ∃ g', h' = mkH s (jn (mkC w (lyS S n t k a b) g') r) ∧ FrN w g g') 0 0 13 [.ref (ndA w n 0), .int (Int32.ofInt e)] [] (mkH s (jn (mkC w (rmS S n) g1) r)) := by
    intro g1 hg
    have hrm := OK_rm ho hn
    obtain ⟨-, m3, m4, m5, m6⟩ := OK_nOk hrm hn
    refine G_ev ok_Node_lay (smL_ok (d := d - 1) (by omega)) (fun pc => pc == 13) 200 (by omega) (fun K kK => ?_)
    simp (disch := omega) only [ev_s, evN_ap, List.getElem?_cons_zero, List.getElem?_cons_succ, List.set_cons_zero, List.set_cons_succ, Bool.false_eq_true, ↓reduceIte, qrest_n, qrest_1, qrest_2, qrest_3, qrest_4, qrest_5, qrest_6, qtr_i, qtr_r, true_and, and_true, List.length_cons, List.length_nil, Int.cast_ofNat_Int, Int32.toInt_zero, false_implies, true_implies, not_false_eq_true, not_true_eq_false, Option.toList_some, Option.toList_none, List.cons_append, List.nil_append, Nat.reduceBEq, Nat.reduceEqDiff, Bool.or_self, or_self, Nat.reduceAdd, Nat.reduceLT, Nat.zero_add, Int.reduceAdd, Int.reduceLE, Int.reduceLT, Int.reduceEq, and_self, Int.reduceNeg, qrok_i, qrok_b0, qrok_b1, qrok_bI, Option.some.injEq, Value.int.injEq, J_bI0, J_bI1, Classical.not_not, Int.zero_add, Int.add_zero, Int.sub_zero, false_and, and_false, and_true, true_and, e_0, v_0, e_1, v_1, e_2, v_2, e_6, v_6, e_10, v_10, e_15, v_15, e_19, v_19, e_20, v_20, e_21, v_21, e_25, v_25, e_40, e_44, qspl_z, qspl_s, evC_s, evD_none, evD_v, evD_s, c_2, c_3, b_0, smL_34, sw_Node_last, (smL_no (k := 46) rfl), r_Node_lay_0, r_Node_lay_1, r_Node_lay_4, r_Node_lay_6, r_Node_lay_9, r_Node_lay_10, r_Node_lay_13, r_Node_lay_14, r_Node_lay_17, r_Node_lay_19, r_Node_lay_22, r_Node_lay_23, r_Node_lay_26, r_Node_lay_29, r_Node_lay_32, r_Node_lay_33, r_Node_lay_34, r_Node_lay_35, r_Node_lay_38, r_Node_lay_39, r_Node_lay_42, r_Node_lay_43, r_Node_lay_44, r_Node_lay_45, r_Node_lay_46, r_Node_lay_49, r_Node_lay_50, r_Node_lay_51, r_Node_lay_54, r_Node_lay_55, sv_k hS, sv_0 hS, sv_1 hS, sv_k1 hS, sv_n hS, sv_2 hS, sv_k2 hS, sv_b, sv_4, sv_5 hS, sv_k7 hS, sv_r hS, sv_kr hS, sv_7 hS, sv_k8 hS, sv_10 hS, sv_k9 hS, sv_11 hS, sv_k10 hS, sn_k hS, sn_4 hS, sn_k1 hS, sn_6 hS, sn_k2 hS, sn_24 hS, sn_k3 hS, sn_9 hS, sn_k4 hS, sn_13 hS, sn_k5 hS, sn_14 hS, sn_k6 hS, sn_15 hS, sn_k7 hS, sl_k hS, sl_2 hS, sl_k4 hS, sl_3 hS, sl_k5 hS, sl_4 hS, sl_k6 hS, sl_5 hS, sl_k7 hS, rn_0, rn_1, rn_2, rn_3, rn_5, rn_7, rn_8, rn_10, rn_11, rn_12, rn_16, rn_17, rn_log, rn_20, rn_21, rn_22, rn_23, rn_sk, rn_key, rn_next, rn_match, rn_heard, rw_3, rw_6, rw_8, rw_9, rw_12, rw_13, rw_14, rw_15, rw_he, rw_ld, rw_cu, rr_0, rr_1, rr_2, rr_3, rr_4, rr_5, su_2, su_8, su_10, su_12, su_16, su_17, su_20, su_21, su_22, su_23, su_sk, su_key, su_next, su_match, su_heard, su_3m, su_3, su_11m, su_11, su_7, sw_3, sw_8, sw_12, sw_13, sw_14, sw_15, sw_ld, sw_cu, sr_0, sr_5, I_val, I_add, I_sub, I_mul, inB, beq_iff_eq, or_false, false_or, u1_ne, u1_same, nd_u1, nd_u1s, lpS_u1, Bool.or_eq_true, Bool.or_false, Bool.false_or, bI_z, mnI_I, mxI_I, su_log, su_lay (t := t) (k := k) (a := a) (b := b)]
    by_cases hr : hasRoom S n
    · have hr' := hr
      unfold hasRoom at hr'
      rw [lyS, if_pos hr]
      repeat' (first | with_reducible apply And.intro | intro _)
      all_goals (try clear kK)
      all_goals first | omega | exact hr | (rw [su_lay hw hn (by omega) he]; exact ⟨_, rfl, FrN_tr hg (FrN_up hn (by omega))⟩) | trivial
    · have hr' := hr
      unfold hasRoom at hr'
      rw [lyS, if_neg hr]
      repeat' (first | with_reducible apply And.intro | intro _)
      all_goals (try clear kK)
      all_goals first | omega | exact hr | exact ⟨g1, rfl, hg⟩ | trivial
  simp (disch := omega) only [ev_s, evN_ap, List.getElem?_cons_zero, List.getElem?_cons_succ, List.set_cons_zero, List.set_cons_succ, Bool.false_eq_true, ↓reduceIte, qrest_n, qrest_1, qrest_2, qrest_3, qrest_4, qrest_5, qrest_6, qtr_i, qtr_r, true_and, and_true, List.length_cons, List.length_nil, Int.cast_ofNat_Int, Int32.toInt_zero, false_implies, true_implies, not_false_eq_true, not_true_eq_false, Option.toList_some, Option.toList_none, List.cons_append, List.nil_append, Nat.reduceBEq, Nat.reduceEqDiff, Bool.or_self, or_self, Nat.reduceAdd, Nat.reduceLT, Nat.zero_add, Int.reduceAdd, Int.reduceLE, Int.reduceLT, Int.reduceEq, and_self, Int.reduceNeg, qrok_i, qrok_b0, qrok_b1, qrok_bI, Option.some.injEq, Value.int.injEq, J_bI0, J_bI1, Classical.not_not, Int.zero_add, Int.add_zero, Int.sub_zero, false_and, and_false, and_true, true_and, e_0, v_0, e_1, v_1, e_2, v_2, e_6, v_6, e_10, v_10, e_15, v_15, e_19, v_19, e_20, v_20, e_21, v_21, e_25, v_25, e_40, e_44, qspl_z, qspl_s, evC_s, evD_none, evD_v, evD_s, c_2, c_3, b_0, smL_34, sw_Node_last, (smL_no (k := 46) rfl), r_Node_lay_0, r_Node_lay_1, r_Node_lay_4, r_Node_lay_6, r_Node_lay_9, r_Node_lay_10, r_Node_lay_13, r_Node_lay_14, r_Node_lay_17, r_Node_lay_19, r_Node_lay_22, r_Node_lay_23, r_Node_lay_26, r_Node_lay_29, r_Node_lay_32, r_Node_lay_33, r_Node_lay_34, r_Node_lay_35, r_Node_lay_38, r_Node_lay_39, r_Node_lay_42, r_Node_lay_43, r_Node_lay_44, r_Node_lay_45, r_Node_lay_46, r_Node_lay_49, r_Node_lay_50, r_Node_lay_51, r_Node_lay_54, r_Node_lay_55, sv_k hS, sv_0 hS, sv_1 hS, sv_k1 hS, sv_n hS, sv_2 hS, sv_k2 hS, sv_b, sv_4, sv_5 hS, sv_k7 hS, sv_r hS, sv_kr hS, sv_7 hS, sv_k8 hS, sv_10 hS, sv_k9 hS, sv_11 hS, sv_k10 hS, sn_k hS, sn_4 hS, sn_k1 hS, sn_6 hS, sn_k2 hS, sn_24 hS, sn_k3 hS, sn_9 hS, sn_k4 hS, sn_13 hS, sn_k5 hS, sn_14 hS, sn_k6 hS, sn_15 hS, sn_k7 hS, sl_k hS, sl_2 hS, sl_k4 hS, sl_3 hS, sl_k5 hS, sl_4 hS, sl_k6 hS, sl_5 hS, sl_k7 hS, rn_0, rn_1, rn_2, rn_3, rn_5, rn_7, rn_8, rn_10, rn_11, rn_12, rn_16, rn_17, rn_log, rn_20, rn_21, rn_22, rn_23, rn_sk, rn_key, rn_next, rn_match, rn_heard, rw_3, rw_6, rw_8, rw_9, rw_12, rw_13, rw_14, rw_15, rw_he, rw_ld, rw_cu, rr_0, rr_1, rr_2, rr_3, rr_4, rr_5, su_2, su_8, su_10, su_12, su_16, su_17, su_20, su_21, su_22, su_23, su_sk, su_key, su_next, su_match, su_heard, su_3m, su_3, su_11m, su_11, su_7, sw_3, sw_8, sw_12, sw_13, sw_14, sw_15, sw_ld, sw_cu, sr_0, sr_5, I_val, I_add, I_sub, I_mul, inB, beq_iff_eq, or_false, false_or, u1_ne, u1_same, nd_u1, nd_u1s, lpS_u1, Bool.or_eq_true, Bool.or_false, Bool.false_or, bI_z, mnI_I, mxI_I]
  refine ⟨fun q => ?_, fun q => ?_⟩
  · rw [show S = rmS S n by rw [rmS, if_neg (by omega)]]
    exact kK _ _ _ _ (key g FrN_rf)
  · refine kK _ _ _ _ (GCQ ok_Node_lay r_Node_lay_10 ⟨by decide, by decide⟩ qm_Node_shorten (C_Node_shorten (d := d - 1) (by omega) hw hS hn ho) rfl rfl (fun _ => by first | exact rcN hS (by omega) | exact rcW hS | exact rcG hS (by assumption) | exact rcL hS | exact rcN2 hS (by omega) | exact rcG2 hS (by assumption)) rfl (Nat.le_of_ble_eq_true rfl) (by omega) (fun v1 h1 q1 => ?_))
    obtain ⟨rfl, g1, rfl, f1⟩ := q1
    rw [show cmS S n = rmS S n by rw [rmS, if_pos (by omega)]]
    exact key g1 f1
set_option maxHeartbeats 2000000 in
set_option maxRecDepth 100000 in
theorem C_Node_dropFrom (hd : 3 ≤ d) (hw : 8 ≤ w ∧ w ≤ 1462) (hS : ShW s w) {n i : Int} (hn : 0 ≤ n ∧ n ≤ 6) (ho : OK R S) (hi : nd S n 4 < i ∧ i ≤ nd S n 4 + nd S n 8) : T l V mi_Node_dropFrom (rm d) 0 0 [.ref (ndA w n 0), .int (Int32.ofInt i)] (mkH s (jn (mkC w S g) r)) (fun v h' => v = none ∧ ∃ g', h' = mkH s (jn (mkC w (u1 S (244 * n + 8) (i - nd S n 4 - 1)) g') r) ∧ FrN w g g') := by
  refine T_ev qm_Node_dropFrom [.ref (ndA w n 0), .int (Int32.ofInt i)] rfl rfl (Nat.le_of_ble_eq_true rfl) ok_Node_dropFrom (smL_ok (d := d - 1) (by omega)) (fun _ => false) 200 (by omega) (fun K kK => ?_)
  obtain ⟨-, n3, n4, n5, n6⟩ := OK_nOk ho hn
  simp (disch := omega) only [ev_s, evN_ap, List.getElem?_cons_zero, List.getElem?_cons_succ, List.set_cons_zero, List.set_cons_succ, Bool.false_eq_true, ↓reduceIte, qrest_n, qrest_1, qrest_2, qrest_3, qrest_4, qrest_5, qrest_6, qtr_i, qtr_r, true_and, and_true, List.length_cons, List.length_nil, Int.cast_ofNat_Int, Int32.toInt_zero, false_implies, true_implies, not_false_eq_true, not_true_eq_false, Option.toList_some, Option.toList_none, List.cons_append, List.nil_append, Nat.reduceBEq, Nat.reduceEqDiff, Bool.or_self, or_self, Nat.reduceAdd, Nat.reduceLT, Nat.zero_add, Int.reduceAdd, Int.reduceLE, Int.reduceLT, Int.reduceEq, and_self, Int.reduceNeg, qrok_i, qrok_b0, qrok_b1, qrok_bI, Option.some.injEq, Value.int.injEq, J_bI0, J_bI1, Classical.not_not, Int.zero_add, Int.add_zero, Int.sub_zero, false_and, and_false, and_true, true_and, e_0, v_0, e_1, v_1, e_2, v_2, e_6, v_6, e_19, v_19, e_20, v_20, e_21, v_21, e_36, v_36, e_37, v_37, e_41, b_1, r_Node_dropFrom_0, r_Node_dropFrom_1, r_Node_dropFrom_2, r_Node_dropFrom_3, r_Node_dropFrom_4, r_Node_dropFrom_7, r_Node_dropFrom_10, r_Node_dropFrom_11, r_Node_dropFrom_12, r_Node_dropFrom_13, r_Node_dropFrom_14, r_Node_dropFrom_17, r_Node_dropFrom_20, r_Node_dropFrom_23, r_Node_dropFrom_26, sv_k hS, sv_0 hS, sv_1 hS, sv_k1 hS, sv_n hS, sv_2 hS, sv_k2 hS, sv_b, sv_4, sv_5 hS, sv_k7 hS, sv_r hS, sv_kr hS, sv_7 hS, sv_k8 hS, sv_10 hS, sv_k9 hS, sv_11 hS, sv_k10 hS, sn_k hS, sn_4 hS, sn_k1 hS, sn_6 hS, sn_k2 hS, sn_24 hS, sn_k3 hS, sn_9 hS, sn_k4 hS, sn_13 hS, sn_k5 hS, sn_14 hS, sn_k6 hS, sn_15 hS, sn_k7 hS, sl_k hS, sl_2 hS, sl_k4 hS, sl_3 hS, sl_k5 hS, sl_4 hS, sl_k6 hS, sl_5 hS, sl_k7 hS, rn_0, rn_1, rn_2, rn_3, rn_5, rn_7, rn_8, rn_10, rn_11, rn_12, rn_16, rn_17, rn_log, rn_20, rn_21, rn_22, rn_23, rn_sk, rn_key, rn_next, rn_match, rn_heard, rw_3, rw_6, rw_8, rw_9, rw_12, rw_13, rw_14, rw_15, rw_he, rw_ld, rw_cu, rr_0, rr_1, rr_2, rr_3, rr_4, rr_5, su_2, su_8, su_10, su_12, su_16, su_17, su_20, su_21, su_22, su_23, su_sk, su_key, su_next, su_match, su_heard, su_3m, su_3, su_11m, su_11, su_7, sw_3, sw_8, sw_12, sw_13, sw_14, sw_15, sw_ld, sw_cu, sr_0, sr_5, I_val, I_add, I_sub, I_mul, inB, beq_iff_eq, or_false, false_or, u1_ne, u1_same, nd_u1, nd_u1s, lpS_u1, Bool.or_eq_true, Bool.or_false, Bool.false_or, bI_z, mnI_I, mxI_I, mnJ, mxJ]
  rw [show max 0 (min (nd S n 8) (i - nd S n 4 - 1)) = i - nd S n 4 - 1 by omega, su_many hw hn (by omega)]
  repeat' (first | with_reducible apply And.intro | intro _)
  all_goals (try clear kK)
  all_goals first | omega | exact ⟨_, rfl, FrN_mk⟩ | trivial
end CS
