/-! a node of the class compacts, lays -/
theorem ndC_1 {f : qN} {n k x : Int} : ndC f n 1 k x = if 0 ≤ k ∧ k < f 8 ∧ k < 48 then pk f (52 + 4 * k) else x := by simp [ndC]
theorem ndC_2 {f : qN} {n k x : Int} : ndC f n 2 k x = if k = 0 then f 4 else if k = 1 then f 5 else if k = 2 then f 6 else if k = 3 then f 7 else x := by simp [ndC]
theorem ndC_3 {f : qN} {n k x : Int} : ndC f n 3 k x = if 0 ≤ k ∧ k < 8 then f (23 + k) else x := by simp [ndC]
theorem ndC_4 {f : qN} {n k x : Int} : ndC f n 4 k x = if 0 ≤ k ∧ k < 8 then f (15 + k) else x := by simp [ndC]
theorem ndC_5 {f : qN} {n k x : Int} : ndC f n 5 k x = if f 3 = 2 ∧ 0 ≤ k ∧ k < 7 then f (31 + k) else x := by simp [ndC]
theorem ndC_6 {f : qN} {n k x : Int} : ndC f n 6 k x = if f 3 = 2 ∧ 0 ≤ k ∧ k < 7 then f (38 + k) else x := by simp [ndC]
theorem ndC_7 {f : qN} {n k x : Int} : ndC f n 7 k x = if f 3 = 2 ∧ 0 ≤ k ∧ k < 7 then f (45 + k) else x := by simp [ndC]
theorem FrN_mk {w : Nat} {S : qN} {g : qI} : FrN w g (mkC w S g) := fun a h => by funext k; exact mkC_o h
theorem FrN_rf {w : Nat} {g : qI} : FrN w g g := fun _ _ => rfl
theorem FrN_tr {w : Nat} {g g' g'' : qI} (h : FrN w g g') (h' : FrN w g' g'') : FrN w g g'' := fun a q => (h' a q).trans (h a q)
theorem ndA_off {w p : Nat} {n : Int} (hn : 0 ≤ n ∧ n ≤ 6) (hp : p < 8) : ¬ offW w (ndA w n p) := by unfold offW ndA; omega
section Sh
variable {R : Int} {S : qN} {n : Int} {w : Nat} {g F : qI}
theorem sh_fin (hn : 0 ≤ n ∧ n ≤ 6) (ho : OK R S) (hout : ∀ a k, (∀ p, p < 8 → a ≠ ndA w n p) → F a k = mkC w S g a k)
    (h0 : ∀ k, F (ndA w n 0) k = if k = 5 then nd S n 8 - (nd S n 9 - nd S n 4) else mkC w S g (ndA w n 0) k)
    (h1 : ∀ k, F (ndA w n 1) k = if 0 ≤ k ∧ k < nd S n 8 - (nd S n 9 - nd S n 4) then mkC w S g (ndA w n 1) (k + (nd S n 9 - nd S n 4)) else mkC w S g (ndA w n 1) k)
    (h2 : ∀ k, F (ndA w n 2) k = if k = 0 then nd S n 9 else if k = 1 then tAS S n (nd S n 9) else if k = 2 then nd (cmS S n) n 6 else if k = 3 then nd (cmS S n) n 7 else mkC w S g (ndA w n 2) k)
    (h3 : ∀ k, F (ndA w n 3) k = if 0 ≤ k ∧ k < 8 then mkC w S g (ndA w n 4) k else mkC w S g (ndA w n 3) k)
    (h4 : ∀ p k, 4 ≤ p → p < 8 → F (ndA w n p) k = mkC w S g (ndA w n p) k) : F = mkC w (cmS S n) (mkC w S g) := by
  have hn' := OK_nOk ho hn
  have hk' := OK_kOk ho hn
  obtain ⟨-, n3, n4, n5, n6⟩ := OK_nOk ho hn
  obtain ⟨k1, k2⟩ := OK_kOk ho hn
  have o : ∀ e, 0 ≤ e → e < 244 → (e < 23 ∧ e ≠ 4 ∧ e ≠ 5 ∧ e ≠ 6 ∧ e ≠ 7 ∧ e ≠ 8) ∨ (31 ≤ e ∧ e < 52) → nd (cmS S n) n e = nd S n e := fun e _ _ h => cmS_nd hn' hk' h
  have e8 : nd (cmS S n) n 8 = nd S n 8 - (nd S n 9 - nd S n 4) := by rw [cmS_8]; omega
  refine mk_node hn (fun j hj => cmS_ne hn' hk' (by omega)) hout (fun p k hp => ?_)
  have hp8 : p = 0 ∨ p = 1 ∨ p = 2 ∨ p = 3 ∨ p = 4 ∨ p = 5 ∨ p = 6 ∨ p = 7 := by omega
  rcases hp8 with rfl | rfl | rfl | rfl | rfl | rfl | rfl | rfl
  · rw [h0, mkC_N hn hp]
    generalize g (ndA w n 0) k = x
    simp only [ndC]
    rw [o 0 (by omega) (by omega) (by omega), o 1 (by omega) (by omega) (by omega), o 2 (by omega) (by omega) (by omega), e8, o 3 (by omega) (by omega) (by omega), o 9 (by omega) (by omega) (by omega), o 10 (by omega) (by omega) (by omega), o 11 (by omega) (by omega) (by omega), o 12 (by omega) (by omega) (by omega), o 13 (by omega) (by omega) (by omega), o 14 (by omega) (by omega) (by omega)]
    grind (splits := 60)
  · rw [h1]
    by_cases hk : 0 ≤ k ∧ k < nd S n 8 - (nd S n 9 - nd S n 4)
    · rw [if_pos hk, mkC_N hn hp]
      rw [ndC_1, ndC_1, if_pos (by omega), e8, if_pos (by omega)]
      have l1 : lpS (cmS S n) n (nd S n 9 + 1 + k) = 244 * n + (52 + 4 * k) := by unfold lpS; rw [cmS_4]; omega
      have l2 : lpS S n (nd S n 9 + 1 + k) = 244 * n + (52 + 4 * (k + (nd S n 9 - nd S n 4))) := by unfold lpS; omega
      have t : ∀ q, 0 ≤ q ∧ q < 4 → nd (cmS S n) n (52 + 4 * k + q) = nd S n (52 + 4 * (k + (nd S n 9 - nd S n 4)) + q) := by
        intro q hq
        have := cmS_e (k := q) hn' hk' (i := nd S n 9 + 1 + k) (by omega) (by omega) hq
        rw [l1, l2] at this
        show cmS S n (244 * n + (52 + 4 * k + q)) = S (244 * n + (52 + 4 * (k + (nd S n 9 - nd S n 4)) + q))
        rw [show 244 * n + (52 + 4 * k + q) = 244 * n + (52 + 4 * k) + q by omega, this]
        congr 1; omega
      have t0 := t 0 (by omega)
      rw [Int.add_zero, Int.add_zero] at t0
      simp only [pk]
      rw [t0, t 1 (by omega), t 2 (by omega), t 3 (by omega)]
    · rw [if_neg hk]
      rw [ndC_1, if_neg (by rw [e8]; omega)]
  · rw [h2, mkC_N hn hp]
    simp only [ndC]
    rw [cmS_4, cmS_5]
    grind (splits := 60)
  · rw [h3, mkC_N hn (by omega), mkC_N hn (by omega)]
    simp only [ndC_3, ndC_4]
    by_cases hk : 0 ≤ k ∧ k < 8
    · simp only [if_pos hk]
      rw [cmS_23 (by omega), show 23 + k - 8 = 15 + k by omega]
    · simp only [if_neg hk]
  · rw [h4 _ _ (by omega) (by omega), mkC_N hn hp]
    simp only [ndC]
    by_cases hk : 0 ≤ k ∧ k < 8
    · rw [o (15 + k) (by omega) (by omega) (by omega)]
      simp [hk]
    · simp [hk]
  all_goals
    rw [h4 _ _ (by omega) (by omega), mkC_N hn hp]
    simp only [ndC]
    rw [o 3 (by omega) (by omega) (by omega)]
    by_cases hk : 0 ≤ k ∧ k < 7
    · have a1 := o (31 + k) (by omega) (by omega) (by omega)
      have a2 := o (38 + k) (by omega) (by omega) (by omega)
      have a3 := o (45 + k) (by omega) (by omega) (by omega)
      grind (splits := 60)
    · simp [hk]
end Sh
section CS
variable {l : Launch} {V : qV} {d : Nat} {s : qS} {w : Nat} {S : qN} {c g r : qI} {R n : Int} {Q : Option Value → qH → Prop}
set_option maxHeartbeats 2000000 in
set_option maxRecDepth 100000 in
theorem C_Node_shorten (hd : 5 ≤ d) (hw : 8 ≤ w ∧ w ≤ 1462) (hS : ShW s w) {n : Int} (hn : 0 ≤ n ∧ n ≤ 6) (ho : OK R S) : T l V mi_Node_shorten (rm d) 0 0 [.ref (ndA w n 0)] (mkH s (jn (mkC w S g) r)) (fun v h' => v = none ∧ ∃ g', h' = mkH s (jn (mkC w (cmS S n) g') r) ∧ FrN w g g') := by
  refine T_ev qm_Node_shorten [.ref (ndA w n 0), .retAddr 0, .retAddr 0] rfl rfl (Nat.le_of_ble_eq_true rfl) ok_Node_shorten (smL_ok (d := d - 1) (by omega)) (fun _ => false) 200 (by omega) (fun K kK => ?_)
  have hn' := OK_nOk ho hn
  obtain ⟨-, n3, n4, n5, n6⟩ := OK_nOk ho hn
  obtain ⟨k1, k2⟩ := OK_kOk ho hn
  have hr := cfC_rng (u := nd S n 9) ho hn
  have hc := cfgAt_rng (u := nd S n 9) (OK_nOk ho hn)
  have ht := tA_rng ho hn (i := nd S n 9) k1 k2
  simp (disch := omega) only [ev_s, evN_ap, List.getElem?_cons_zero, List.getElem?_cons_succ, List.set_cons_zero, List.set_cons_succ, Bool.false_eq_true, ↓reduceIte, qrest_n, qrest_1, qrest_2, qrest_3, qrest_4, qrest_5, qrest_6, qtr_i, qtr_r, true_and, and_true, List.length_cons, List.length_nil, Int.cast_ofNat_Int, Int32.toInt_zero, false_implies, true_implies, not_false_eq_true, not_true_eq_false, Option.toList_some, Option.toList_none, List.cons_append, List.nil_append, Nat.reduceBEq, Nat.reduceEqDiff, Bool.or_self, or_self, Nat.reduceAdd, Nat.reduceLT, Nat.zero_add, Int.reduceAdd, Int.reduceLE, Int.reduceLT, Int.reduceEq, and_self, Int.reduceNeg, qrok_i, qrok_b0, qrok_b1, qrok_bI, Option.some.injEq, Value.int.injEq, J_bI0, J_bI1, Classical.not_not, Int.zero_add, Int.add_zero, Int.sub_zero, false_and, and_false, and_true, true_and, e_0, v_0, e_1, v_1, e_2, v_2, e_3, v_3, e_14, v_14, e_19, v_19, e_20, v_20, e_21, v_21, e_33, v_33, e_41, e_44, e_45, qspl_z, qspl_s, evC_s, evD_none, evD_v, evD_s, c_0, smL_35, sw_Node_entry, smL_36, sw_Node_termAt, (smL_no (k := 38) rfl), (smL_no (k := 47) rfl), smL_163, sw_T_firstOf, smL_164, sw_T_secondOf, r_Node_shorten_0, r_Node_shorten_1, r_Node_shorten_2, r_Node_shorten_3, r_Node_shorten_6, r_Node_shorten_9, r_Node_shorten_12, r_Node_shorten_13, r_Node_shorten_14, r_Node_shorten_15, r_Node_shorten_18, r_Node_shorten_21, r_Node_shorten_22, r_Node_shorten_23, r_Node_shorten_24, r_Node_shorten_27, r_Node_shorten_30, r_Node_shorten_31, r_Node_shorten_34, r_Node_shorten_35, r_Node_shorten_38, r_Node_shorten_41, r_Node_shorten_42, r_Node_shorten_45, r_Node_shorten_46, r_Node_shorten_49, r_Node_shorten_50, r_Node_shorten_53, r_Node_shorten_54, r_Node_shorten_57, r_Node_shorten_58, r_Node_shorten_61, r_Node_shorten_64, r_Node_shorten_65, r_Node_shorten_68, r_Node_shorten_69, r_Node_shorten_72, r_Node_shorten_75, r_Node_shorten_76, r_Node_shorten_79, r_Node_shorten_80, r_Node_shorten_81, r_Node_shorten_84, r_Node_shorten_87, r_Node_shorten_88, r_Node_shorten_90, r_Node_shorten_93, sv_k hS, sv_0 hS, sv_1 hS, sv_k1 hS, sv_n hS, sv_2 hS, sv_k2 hS, sv_b, sv_4, sv_5 hS, sv_k7 hS, sv_r hS, sv_kr hS, sv_7 hS, sv_k8 hS, sv_10 hS, sv_k9 hS, sv_11 hS, sv_k10 hS, sn_k hS, sn_4 hS, sn_k1 hS, sn_6 hS, sn_k2 hS, sn_24 hS, sn_k3 hS, sn_9 hS, sn_k4 hS, sn_13 hS, sn_k5 hS, sn_14 hS, sn_k6 hS, sn_15 hS, sn_k7 hS, sl_k hS, sl_2 hS, sl_k4 hS, sl_3 hS, sl_k5 hS, sl_4 hS, sl_k6 hS, sl_5 hS, sl_k7 hS, rn_0, rn_1, rn_2, rn_3, rn_5, rn_7, rn_8, rn_10, rn_11, rn_12, rn_16, rn_17, rn_log, rn_20, rn_21, rn_22, rn_23, rn_sk, rn_key, rn_next, rn_match, rn_heard, rw_3, rw_6, rw_8, rw_9, rw_12, rw_13, rw_14, rw_15, rw_he, rw_ld, rw_cu, rr_0, rr_1, rr_2, rr_3, rr_4, rr_5, su_2, su_8, su_10, su_12, su_16, su_17, su_20, su_21, su_22, su_23, su_sk, su_key, su_next, su_match, su_heard, su_3m, su_3, su_11m, su_11, su_7, sw_3, sw_8, sw_12, sw_13, sw_14, sw_15, sw_ld, sw_cu, sr_0, sr_5, I_val, I_add, I_sub, I_mul, inB, beq_iff_eq, or_false, false_or, u1_ne, u1_same, nd_u1, nd_u1s, lpS_u1, Bool.or_eq_true, Bool.or_false, Bool.false_or, bI_z, mnI_I, mxI_I]
  refine kK _ _ _ _ (GCD ok_Node_shorten r_Node_shorten_6 ⟨by decide, by decide⟩ qm_Node_configIndex (C_Node_configIndex (d := d - 1) (u := nd S n 9) (by omega) hw hS hn ho (by omega)) rfl rfl (fun _ => by first | exact rcN hS (by omega) | exact rcW hS | exact rcG hS (by assumption) | exact rcL hS | exact rcN2 hS (by omega) | exact rcG2 hS (by assumption)) rfl (Nat.le_of_ble_eq_true rfl) (by omega) ?_)
  refine G_ev ok_Node_shorten (smL_ok (d := d - 1) (by omega)) (fun _ => false) 200 (by omega) (fun K kK => ?_)
  simp (disch := omega) only [ev_s, evN_ap, List.getElem?_cons_zero, List.getElem?_cons_succ, List.set_cons_zero, List.set_cons_succ, Bool.false_eq_true, ↓reduceIte, qrest_n, qrest_1, qrest_2, qrest_3, qrest_4, qrest_5, qrest_6, qtr_i, qtr_r, true_and, and_true, List.length_cons, List.length_nil, Int.cast_ofNat_Int, Int32.toInt_zero, false_implies, true_implies, not_false_eq_true, not_true_eq_false, Option.toList_some, Option.toList_none, List.cons_append, List.nil_append, Nat.reduceBEq, Nat.reduceEqDiff, Bool.or_self, or_self, Nat.reduceAdd, Nat.reduceLT, Nat.zero_add, Int.reduceAdd, Int.reduceLE, Int.reduceLT, Int.reduceEq, and_self, Int.reduceNeg, qrok_i, qrok_b0, qrok_b1, qrok_bI, Option.some.injEq, Value.int.injEq, J_bI0, J_bI1, Classical.not_not, Int.zero_add, Int.add_zero, Int.sub_zero, false_and, and_false, and_true, true_and, e_0, v_0, e_1, v_1, e_2, v_2, e_3, v_3, e_14, v_14, e_19, v_19, e_20, v_20, e_21, v_21, e_33, v_33, e_41, e_44, e_45, qspl_z, qspl_s, evC_s, evD_none, evD_v, evD_s, c_0, smL_35, sw_Node_entry, smL_36, sw_Node_termAt, (smL_no (k := 38) rfl), (smL_no (k := 47) rfl), smL_163, sw_T_firstOf, smL_164, sw_T_secondOf, r_Node_shorten_0, r_Node_shorten_1, r_Node_shorten_2, r_Node_shorten_3, r_Node_shorten_6, r_Node_shorten_9, r_Node_shorten_12, r_Node_shorten_13, r_Node_shorten_14, r_Node_shorten_15, r_Node_shorten_18, r_Node_shorten_21, r_Node_shorten_22, r_Node_shorten_23, r_Node_shorten_24, r_Node_shorten_27, r_Node_shorten_30, r_Node_shorten_31, r_Node_shorten_34, r_Node_shorten_35, r_Node_shorten_38, r_Node_shorten_41, r_Node_shorten_42, r_Node_shorten_45, r_Node_shorten_46, r_Node_shorten_49, r_Node_shorten_50, r_Node_shorten_53, r_Node_shorten_54, r_Node_shorten_57, r_Node_shorten_58, r_Node_shorten_61, r_Node_shorten_64, r_Node_shorten_65, r_Node_shorten_68, r_Node_shorten_69, r_Node_shorten_72, r_Node_shorten_75, r_Node_shorten_76, r_Node_shorten_79, r_Node_shorten_80, r_Node_shorten_81, r_Node_shorten_84, r_Node_shorten_87, r_Node_shorten_88, r_Node_shorten_90, r_Node_shorten_93, sv_k hS, sv_0 hS, sv_1 hS, sv_k1 hS, sv_n hS, sv_2 hS, sv_k2 hS, sv_b, sv_4, sv_5 hS, sv_k7 hS, sv_r hS, sv_kr hS, sv_7 hS, sv_k8 hS, sv_10 hS, sv_k9 hS, sv_11 hS, sv_k10 hS, sn_k hS, sn_4 hS, sn_k1 hS, sn_6 hS, sn_k2 hS, sn_24 hS, sn_k3 hS, sn_9 hS, sn_k4 hS, sn_13 hS, sn_k5 hS, sn_14 hS, sn_k6 hS, sn_15 hS, sn_k7 hS, sl_k hS, sl_2 hS, sl_k4 hS, sl_3 hS, sl_k5 hS, sl_4 hS, sl_k6 hS, sl_5 hS, sl_k7 hS, rn_0, rn_1, rn_2, rn_3, rn_5, rn_7, rn_8, rn_10, rn_11, rn_12, rn_16, rn_17, rn_log, rn_20, rn_21, rn_22, rn_23, rn_sk, rn_key, rn_next, rn_match, rn_heard, rw_3, rw_6, rw_8, rw_9, rw_12, rw_13, rw_14, rw_15, rw_he, rw_ld, rw_cu, rr_0, rr_1, rr_2, rr_3, rr_4, rr_5, su_2, su_8, su_10, su_12, su_16, su_17, su_20, su_21, su_22, su_23, su_sk, su_key, su_next, su_match, su_heard, su_3m, su_3, su_11m, su_11, su_7, sw_3, sw_8, sw_12, sw_13, sw_14, sw_15, sw_ld, sw_cu, sr_0, sr_5, I_val, I_add, I_sub, I_mul, inB, beq_iff_eq, or_false, false_or, u1_ne, u1_same, nd_u1, nd_u1s, lpS_u1, Bool.or_eq_true, Bool.or_false, Bool.false_or, bI_z, mnI_I, mxI_I, enI_S hw hS ho, tmI_S hw hS ho, tC_eq]
  refine ⟨n5, n5, ?_⟩
  refine kK _ _ _ _ (GCD ok_Node_shorten r_Node_shorten_27 ⟨by decide, by decide⟩ qm_Node_dropUpTo (C_dropUpTo (d := d - 1) (c := mkC w S g) (b := nd S n 4) (m := nd S n 8) (i := nd S n 9) (by omega) hw hS hn (by rw [mkC_N hn (by omega)]; simp [ndC]) (by rw [mkC_N hn (by omega)]; simp [ndC]) (by omega) (by omega) (by omega)) rfl rfl (fun _ => by first | exact rcN hS (by omega) | exact rcW hS | exact rcG hS (by assumption) | exact rcL hS | exact rcN2 hS (by omega) | exact rcG2 hS (by assumption)) rfl (Nat.le_of_ble_eq_true rfl) (by omega) ?_)
  refine G_ev ok_Node_shorten (smL_ok (d := d - 1) (by omega)) (fun _ => false) 200 (by omega) (fun K kK => ?_)
  rw [show min (nd S n 9 - nd S n 4) (nd S n 8) = nd S n 9 - nd S n 4 by omega]
  have D8 : drC (mkC w S g) w n (nd S n 9 - nd S n 4) (nd S n 8) (ndA w n 0) 8 = nd S n 9 := by
    simp [drC, drL, up, ndA_eq, mkC_N hn, ndC]
  generalize hD : drC (mkC w S g) w n (nd S n 9 - nd S n 4) (nd S n 8) = D at D8 ⊢
  have fin : ∀ o2 n2 : Int, o2 = nd (cmS S n) n 6 → n2 = nd (cmS S n) n 7 → ∀ F, (∀ a k, F a k = if a = ndA w n 3 ∧ 0 ≤ k ∧ k < 8 then D (ndA w n 4) k else if a = ndA w n 2 ∧ k = 3 then n2 else if a = ndA w n 2 ∧ k = 2 then o2 else if a = ndA w n 2 ∧ k = 1 then tAS S n (nd S n 9) else if a = ndA w n 2 ∧ k = 0 then nd S n 9 else D a k) → F = mkC w (cmS S n) (mkC w S g) := by
    intro o2 n2 ho2 hn2 F hF
    subst hD
    refine sh_fin hn ho (fun a k h => ?_) (fun k => ?_) (fun k => ?_) (fun k => ?_) (fun k => ?_) (fun p k h1 h2 => ?_)
    · rw [hF]
      simp [h 0, h 1, h 2, h 3, drC, drL, up]
    all_goals
      rw [hF]
      simp only [ndA_eq, drC, drL, up]
      grind (splits := 40)
  by_cases hcf : cfgAt S n (nd S n 9) = -1
  · have e0 : enS S n (cfC S n (nd S n 9)) = 0 := by rw [enS, if_neg]; rw [cfC, if_pos hcf]; omega
    rw [e0]
    simp (disch := omega) only [ev_s, evN_ap, List.getElem?_cons_zero, List.getElem?_cons_succ, List.set_cons_zero, List.set_cons_succ, Bool.false_eq_true, ↓reduceIte, qrest_n, qrest_1, qrest_2, qrest_3, qrest_4, qrest_5, qrest_6, qtr_i, qtr_r, true_and, and_true, List.length_cons, List.length_nil, Int.cast_ofNat_Int, Int32.toInt_zero, false_implies, true_implies, not_false_eq_true, not_true_eq_false, Option.toList_some, Option.toList_none, List.cons_append, List.nil_append, Nat.reduceBEq, Nat.reduceEqDiff, Bool.or_self, or_self, Nat.reduceAdd, Nat.reduceLT, Nat.zero_add, Int.reduceAdd, Int.reduceLE, Int.reduceLT, Int.reduceEq, and_self, Int.reduceNeg, qrok_i, qrok_b0, qrok_b1, qrok_bI, Option.some.injEq, Value.int.injEq, J_bI0, J_bI1, Classical.not_not, Int.zero_add, Int.add_zero, Int.sub_zero, false_and, and_false, and_true, true_and, e_0, v_0, e_1, v_1, e_2, v_2, e_3, v_3, e_14, v_14, e_19, v_19, e_20, v_20, e_21, v_21, e_33, v_33, e_41, e_44, e_45, qspl_z, qspl_s, evC_s, evD_none, evD_v, evD_s, c_0, smL_35, sw_Node_entry, smL_36, sw_Node_termAt, (smL_no (k := 38) rfl), (smL_no (k := 47) rfl), smL_163, sw_T_firstOf, smL_164, sw_T_secondOf, r_Node_shorten_0, r_Node_shorten_1, r_Node_shorten_2, r_Node_shorten_3, r_Node_shorten_6, r_Node_shorten_9, r_Node_shorten_12, r_Node_shorten_13, r_Node_shorten_14, r_Node_shorten_15, r_Node_shorten_18, r_Node_shorten_21, r_Node_shorten_22, r_Node_shorten_23, r_Node_shorten_24, r_Node_shorten_27, r_Node_shorten_30, r_Node_shorten_31, r_Node_shorten_34, r_Node_shorten_35, r_Node_shorten_38, r_Node_shorten_41, r_Node_shorten_42, r_Node_shorten_45, r_Node_shorten_46, r_Node_shorten_49, r_Node_shorten_50, r_Node_shorten_53, r_Node_shorten_54, r_Node_shorten_57, r_Node_shorten_58, r_Node_shorten_61, r_Node_shorten_64, r_Node_shorten_65, r_Node_shorten_68, r_Node_shorten_69, r_Node_shorten_72, r_Node_shorten_75, r_Node_shorten_76, r_Node_shorten_79, r_Node_shorten_80, r_Node_shorten_81, r_Node_shorten_84, r_Node_shorten_87, r_Node_shorten_88, r_Node_shorten_90, r_Node_shorten_93, sv_k hS, sv_0 hS, sv_1 hS, sv_k1 hS, sv_n hS, sv_2 hS, sv_k2 hS, sv_b, sv_4, sv_5 hS, sv_k7 hS, sv_r hS, sv_kr hS, sv_7 hS, sv_k8 hS, sv_10 hS, sv_k9 hS, sv_11 hS, sv_k10 hS, sn_k hS, sn_4 hS, sn_k1 hS, sn_6 hS, sn_k2 hS, sn_24 hS, sn_k3 hS, sn_9 hS, sn_k4 hS, sn_13 hS, sn_k5 hS, sn_14 hS, sn_k6 hS, sn_15 hS, sn_k7 hS, sl_k hS, sl_2 hS, sl_k4 hS, sl_3 hS, sl_k5 hS, sl_4 hS, sl_k6 hS, sl_5 hS, sl_k7 hS, hM_cN, set_cN, cpy_cN, I_val, I_add, I_sub, I_mul, inB, beq_iff_eq, or_false, false_or, Bool.or_eq_true, Bool.or_false, Bool.false_or, bI_z, mnJ, mxJ, D8]
    repeat refine And.intro (by omega) ?_
    refine ⟨mkC w S g, ?_, FrN_mk⟩
    have e6 := cmS_67 (S := S) (n := n) (e := 6) (by omega)
    have e7 := cmS_67 (S := S) (n := n) (e := 7) (by omega)
    rw [if_pos hcf] at e6 e7
    refine congrArg (fun c => mkH s (jn c r)) (fin (nd S n 6) (nd S n 7) e6.symm e7.symm _ (fun a k => ?_))
    have x2 : ∀ k, k = 2 ∨ k = 3 → D (ndA w n 2) k = nd S n (4 + k) := by
      intro k hk
      rw [← hD]
      rcases hk with rfl | rfl <;> simp [drC, drL, up, ndA_eq, mkC_N hn, ndC]
    simp only [cp, up, ndA_eq]
    by_cases h3 : a = ndA w n 3 ∧ 0 ≤ k ∧ k < 8
    · grind
    · by_cases h2 : a = ndA w n 2
      · subst h2
        have y2 := x2 2 (by omega)
        have y3 := x2 3 (by omega)
        simp only [ndA_eq] at h3 ⊢
        grind
      · grind
  · have he : hasE S n (cfgAt S n (nd S n 9)) := by omega
    have hp := pkR_S ho hn he
    have e0 : enS S n (cfC S n (nd S n 9)) = pkv (S (lpS S n (cfgAt S n (nd S n 9)))) (S (lpS S n (cfgAt S n (nd S n 9)) + 1)) (S (lpS S n (cfgAt S n (nd S n 9)) + 2)) (S (lpS S n (cfgAt S n (nd S n 9)) + 3)) := by rw [cfC, if_neg hcf, enS, if_pos he, pk_v]
    have hb := pkv_rng hp
    have hE := (OK_E ho hn he.1 he.2).1
    have hpos : pkv (S (lpS S n (cfgAt S n (nd S n 9)))) (S (lpS S n (cfgAt S n (nd S n 9)) + 1)) (S (lpS S n (cfgAt S n (nd S n 9)) + 2)) (S (lpS S n (cfgAt S n (nd S n 9)) + 3)) ≠ 0 := by unfold pkv; unfold pkR at hp; omega
    rw [e0]
    simp (disch := omega) only [ev_s, evN_ap, List.getElem?_cons_zero, List.getElem?_cons_succ, List.set_cons_zero, List.set_cons_succ, Bool.false_eq_true, ↓reduceIte, qrest_n, qrest_1, qrest_2, qrest_3, qrest_4, qrest_5, qrest_6, qtr_i, qtr_r, true_and, and_true, List.length_cons, List.length_nil, Int.cast_ofNat_Int, Int32.toInt_zero, false_implies, true_implies, not_false_eq_true, not_true_eq_false, Option.toList_some, Option.toList_none, List.cons_append, List.nil_append, Nat.reduceBEq, Nat.reduceEqDiff, Bool.or_self, or_self, Nat.reduceAdd, Nat.reduceLT, Nat.zero_add, Int.reduceAdd, Int.reduceLE, Int.reduceLT, Int.reduceEq, and_self, Int.reduceNeg, qrok_i, qrok_b0, qrok_b1, qrok_bI, Option.some.injEq, Value.int.injEq, J_bI0, J_bI1, Classical.not_not, Int.zero_add, Int.add_zero, Int.sub_zero, false_and, and_false, and_true, true_and, e_0, v_0, e_1, v_1, e_2, v_2, e_3, v_3, e_14, v_14, e_19, v_19, e_20, v_20, e_21, v_21, e_33, v_33, e_41, e_44, e_45, qspl_z, qspl_s, evC_s, evD_none, evD_v, evD_s, c_0, smL_35, sw_Node_entry, smL_36, sw_Node_termAt, (smL_no (k := 38) rfl), (smL_no (k := 47) rfl), smL_163, sw_T_firstOf, smL_164, sw_T_secondOf, r_Node_shorten_0, r_Node_shorten_1, r_Node_shorten_2, r_Node_shorten_3, r_Node_shorten_6, r_Node_shorten_9, r_Node_shorten_12, r_Node_shorten_13, r_Node_shorten_14, r_Node_shorten_15, r_Node_shorten_18, r_Node_shorten_21, r_Node_shorten_22, r_Node_shorten_23, r_Node_shorten_24, r_Node_shorten_27, r_Node_shorten_30, r_Node_shorten_31, r_Node_shorten_34, r_Node_shorten_35, r_Node_shorten_38, r_Node_shorten_41, r_Node_shorten_42, r_Node_shorten_45, r_Node_shorten_46, r_Node_shorten_49, r_Node_shorten_50, r_Node_shorten_53, r_Node_shorten_54, r_Node_shorten_57, r_Node_shorten_58, r_Node_shorten_61, r_Node_shorten_64, r_Node_shorten_65, r_Node_shorten_68, r_Node_shorten_69, r_Node_shorten_72, r_Node_shorten_75, r_Node_shorten_76, r_Node_shorten_79, r_Node_shorten_80, r_Node_shorten_81, r_Node_shorten_84, r_Node_shorten_87, r_Node_shorten_88, r_Node_shorten_90, r_Node_shorten_93, sv_k hS, sv_0 hS, sv_1 hS, sv_k1 hS, sv_n hS, sv_2 hS, sv_k2 hS, sv_b, sv_4, sv_5 hS, sv_k7 hS, sv_r hS, sv_kr hS, sv_7 hS, sv_k8 hS, sv_10 hS, sv_k9 hS, sv_11 hS, sv_k10 hS, sn_k hS, sn_4 hS, sn_k1 hS, sn_6 hS, sn_k2 hS, sn_24 hS, sn_k3 hS, sn_9 hS, sn_k4 hS, sn_13 hS, sn_k5 hS, sn_14 hS, sn_k6 hS, sn_15 hS, sn_k7 hS, sl_k hS, sl_2 hS, sl_k4 hS, sl_3 hS, sl_k5 hS, sl_4 hS, sl_k6 hS, sl_5 hS, sl_k7 hS, hM_cN, set_cN, cpy_cN, I_val, I_add, I_sub, I_mul, inB, beq_iff_eq, or_false, false_or, Bool.or_eq_true, Bool.or_false, Bool.false_or, bI_z, mnJ, mxJ, D8, fsO_I hp, scO_I hp, hpos]
    repeat refine And.intro (by omega) ?_
    refine ⟨mkC w S g, ?_, FrN_mk⟩
    have e6 := cmS_67 (S := S) (n := n) (e := 6) (by omega)
    have e7 := cmS_67 (S := S) (n := n) (e := 7) (by omega)
    rw [if_neg hcf] at e6 e7
    refine congrArg (fun c => mkH s (jn c r)) (fin _ _ e6.symm e7.symm _ (fun a k => ?_))
    simp only [cp, up, ndA_eq]
    grind
end CS
