/-! the class's world: sent on to some, calls for votes -/
def NX (S : qN) (n : Int) : Prop := ∀ k, 0 ≤ k → k ≤ 6 → nd S n (31 + k) ≤ nd S n 4 + nd S n 8 + 1
noncomputable def soF (L : qL) (n x : Int) : Nat → Int → qN → qN
  | 0, _, S => S
  | j + 1, to, S => soF L n x j (to + 1) (@ite _ (to ≠ n ∧ hsZ x to) (Classical.propDecidable _) (sdS L S n to) S)
theorem enG_0 {g : qI} {o : Nat} {S : qN} {n i : Int} (h : g o 11 = 0) : enG g o S n i 0 = g := by
  funext a k
  unfold enG
  rw [if_neg (by omega)]
  by_cases h1 : a = o ∧ k = 11
  · rw [if_pos h1, h1.1, h1.2, h]
  · rw [if_neg h1]
theorem enG_s {g : qI} {o : Nat} {S : qN} {n i j : Int} (hj : 0 ≤ j) : up (up (enG g o S n i j) (o + 1) j (enS S n (i + j))) o 11 (j + 1) = enG g o S n i (j + 1) := by
  funext a k
  unfold up enG
  by_cases h1 : a = o ∧ k = 11
  · rw [if_pos h1, if_neg (by omega), if_pos h1]
  · rw [if_neg h1]
    by_cases h2 : a = o + 1 ∧ k = j
    · rw [if_pos h2, if_pos (by omega), h2.2]
    · rw [if_neg h2]
      by_cases h3 : a = o + 1 ∧ 0 ≤ k ∧ k < j
      · rw [if_pos h3, if_pos (by omega)]
      · rw [if_neg h3, if_neg h1, if_neg (by omega), if_neg h1]
section Mg
variable {R : Int} {S : qN} {s : qS} {w o : Nat} {g : qI} {n to : Int}
theorem mg_snap (ho : OK R S) (hn : 0 ≤ n ∧ n ≤ 6) (hq : nd S n (31 + to) ≤ nd S n 4) : MgC (up (snG (bgC g o n to 4 (nd S n 1)) o S n) o 9 (nd S n 13)) o (snF S n to) := by
  have f : snF S n to = tsB S (u1 (mB S n to 4) 10 (nd S n 13)) n := by unfold snF; rw [if_pos hq]
  rw [f]
  have e : ∀ k, k < 11 ∨ 19 ≤ k → tsB S (u1 (mB S n to 4) 10 (nd S n 13)) n k = tsA S (u1 (mB S n to 4) 10 (nd S n 13)) n k := fun k hk => by unfold tsB cpN; rw [if_neg (by omega)]
  have e2 : ∀ k, 0 ≤ k → k < 8 → tsB S (u1 (mB S n to 4) 10 (nd S n 13)) n (11 + k) = nd S n (23 + k) := fun k k0 k1 => by
    unfold tsB cpN; rw [if_pos (by omega)]; congr 1; omega
  have a0 : ∀ k, up (snG (bgC g o n to 4 (nd S n 1)) o S n) o 9 (nd S n 13) o k = if k = 9 then nd S n 13 else if k = 11 then 0 else if k = 3 then nd S n 1 else if k = 2 then 4 else if k = 1 then to else if k = 0 then n else g o k := by
    intro k
    simp [up, snG, bgC]
  have a2 : ∀ k, 0 ≤ k → k ≤ 3 → up (snG (bgC g o n to 4 (nd S n 1)) o S n) o 9 (nd S n 13) (o + 2) k = nd S n (4 + k) := by
    intro k k0 k1
    simp [up, snG, k0, k1]
  have a3 : ∀ k, 0 ≤ k → k < 8 → up (snG (bgC g o n to 4 (nd S n 1)) o S n) o 9 (nd S n 13) (o + 3) k = nd S n (23 + k) := by
    intro k k0 k1
    simp [up, snG, k0, k1]
  unfold MgC
  rw [e 0 (by omega), e 1 (by omega), e 2 (by omega), e 3 (by omega), e 5 (by omega), e 6 (by omega), e 7 (by omega), e 8 (by omega), e 9 (by omega), e 10 (by omega)]
  simp only [a0]
  rw [a2 0 (by omega) (by omega), a2 1 (by omega) (by omega), a2 2 (by omega) (by omega), a2 3 (by omega) (by omega)]
  simp only [tsA, mB, u1]
  refine ⟨by simp, by simp, by simp, by simp, by simp, fun _ => ⟨by simp, by simp, by simp, by simp, by simp, fun k k0 k1 => ?_⟩, by simp⟩
  exact (a3 k k0 k1).trans (e2 k k0 k1).symm
theorem mg_ents (ho : OK R S) (hn : 0 ≤ n ∧ n ≤ 6) (hq : ¬ nd S n (31 + to) ≤ nd S n 4) (hx : nd S n (31 + to) ≤ nd S n 4 + nd S n 8 + 1) : MgC (enG (be0 (bgC g o n to 2 (nd S n 1)) o S n (nd S n (31 + to))) o S n (nd S n (31 + to)) (teN S n (nd S n (31 + to)))) o (snF S n to) := by
  obtain ⟨-, n3, n4, n5, n6⟩ := OK_nOk ho hn
  have f : snF S n to = teB S (u1 (mB S n to 2) 10 (nd S n 13)) n (nd S n (31 + to)) := by unfold snF; rw [if_neg hq]
  rw [f]
  generalize hi : nd S n (31 + to) = i at *
  have ht : tCS S n (i - 1) = tAS S n (i - 1) := tC_eq (by omega)
  have hc : 0 ≤ teN S n i ∧ teN S n i ≤ 4 ∧ teN S n i ≤ nd S n 4 + nd S n 8 - i + 1 := by unfold teN; omega
  have e : ∀ k, k < 11 → teB S (u1 (mB S n to 2) 10 (nd S n 13)) n i k = teA S (u1 (mB S n to 2) 10 (nd S n 13)) n i k := fun k hk => by unfold teB cpN; rw [if_neg (by omega)]
  have e2 : ∀ k, 0 ≤ k → k < 4 * teN S n i → teB S (u1 (mB S n to 2) 10 (nd S n 13)) n i (11 + k) = S (lpS S n i + k) := fun k k0 k1 => by
    unfold teB cpN; rw [if_pos (by omega)]; congr 1; omega
  have a0 : ∀ k, enG (be0 (bgC g o n to 2 (nd S n 1)) o S n i) o S n i (teN S n i) o k = if k = 11 then teN S n i else if k = 9 then nd S n 13 else if k = 8 then nd S n 9 else if k = 6 then tCS S n (i - 1) else if k = 5 then i - 1 else if k = 3 then nd S n 1 else if k = 2 then 2 else if k = 1 then to else if k = 0 then n else g o k := by
    intro k
    simp [up, enG, be0, bgC]
    grind
  have a1 : ∀ k, 0 ≤ k → k < teN S n i → enG (be0 (bgC g o n to 2 (nd S n 1)) o S n i) o S n i (teN S n i) (o + 1) k = enS S n (i + k) := by
    intro k k0 k1
    simp [enG, k0, k1]
  unfold MgC
  rw [e 0 (by omega), e 1 (by omega), e 2 (by omega), e 3 (by omega), e 5 (by omega), e 6 (by omega), e 7 (by omega), e 8 (by omega), e 9 (by omega), e 10 (by omega)]
  simp only [a0]
  generalize teB S (u1 (mB S n to 2) 10 (nd S n 13)) n i = T at e2 ⊢
  simp only [teA, mB, u1]
  refine ⟨by simp, by simp, by simp, fun _ => ⟨by simp, by simp [ht], by simp, by simp, fun k k0 k1 => ?_⟩, by simp, by simp, by simp⟩
  have k2 : k < teN S n i := by simpa using k1
  rw [a1 k k0 k2, enS, if_pos (by omega)]
  have l1 : lpS S n (i + k) = lpS S n i + 4 * k := by unfold lpS; omega
  have b0 := e2 (4 * k) (by omega) (by omega)
  have b1 := e2 (4 * k + 1) (by omega) (by omega)
  have b2 := e2 (4 * k + 2) (by omega) (by omega)
  have b3 := e2 (4 * k + 3) (by omega) (by omega)
  unfold pk
  rw [l1]
  simp only [← Int.add_assoc] at b0 b1 b2 b3 ⊢
  rw [b0, b1, b2, b3]
end Mg
section CS
variable {l : Launch} {V : qV} {d : Nat} {s : qS} {w : Nat} {S : qN} {c g r : qI} {R n : Int} {Q : Option Value → qH → Prop}
theorem LC_bearEntries (hd : 3 ≤ d) (hw : 8 ≤ w ∧ w ≤ 1462) (hS : ShW s w) (hn : 0 ≤ n ∧ n ≤ 6) (ho : OK R S) {o : Nat} (hbo : isMO w o) {i : Int} (hi : nd S n 4 < i ∧ i ≤ nd S n 4 + nd S n 8 + 1) (h5 : g o 5 = i - 1) (hQ : Q none (mkH s (jn (mkC w S (enG g o S n i (teN S n i))) r))) : ∀ (m : Nat) (j : Int), j + m = 4 → 0 ≤ j → (j ≤ teN S n i) →
    G l V mi_Msg_bearEntries (rm d) 0 0 Q 0 0 50 [.ref o, .ref (ndA w n 0), .int (Int32.ofInt (nd S n 4 + nd S n 8)), .int (Int32.ofInt j)] [] (mkH s (jn (mkC w S (enG g o S n i j)) r)) := by
  obtain ⟨-, n3, n4, n5, n6⟩ := OK_nOk ho hn
  have e5 : ∀ j, enG g o S n i j o 5 = i - 1 := fun j => by unfold enG; rw [if_neg (by omega), if_neg (by omega), h5]
  intro m
  induction m with
  | zero =>
    intro j h1 h2 h3
    have : teN S n i = j := by unfold teN at h3 ⊢; omega
    rw [this] at hQ
    refine G_ev ok_Msg_bearEntries (smL_ok (d := d - 1) (by omega)) (fun pc => pc == 50) 200 (by omega) (fun K kK => ?_)
    simp (disch := omega) only [ev_s, evN_ap, List.getElem?_cons_zero, List.getElem?_cons_succ, List.set_cons_zero, List.set_cons_succ, Bool.false_eq_true, ↓reduceIte, qrest_n, qrest_1, qrest_2, qrest_3, qrest_4, qrest_5, qrest_6, qtr_i, qtr_r, true_and, and_true, List.length_cons, List.length_nil, Int.cast_ofNat_Int, Int32.toInt_zero, false_implies, true_implies, not_false_eq_true, not_true_eq_false, Option.toList_some, Option.toList_none, List.cons_append, List.nil_append, Nat.reduceBEq, Nat.reduceEqDiff, Bool.or_self, or_self, Nat.reduceAdd, Nat.reduceLT, Nat.zero_add, Int.reduceAdd, Int.reduceLE, Int.reduceLT, Int.reduceEq, and_self, Int.reduceNeg, qrok_i, qrok_b0, qrok_b1, qrok_bI, Option.some.injEq, Value.int.injEq, J_bI0, J_bI1, Classical.not_not, Int.zero_add, Int.add_zero, Int.sub_zero, false_and, and_false, and_true, true_and, e_0, v_0, e_1, v_1, e_2, v_2, e_3, v_3, e_5, v_5, e_6, v_6, e_13, v_13, e_15, v_15, e_19, v_19, e_20, v_20, e_21, v_21, e_24, v_24, e_25, v_25, e_41, e_44, qspl_z, qspl_s, evC_s, evD_none, evD_v, evD_s, c_3, c_4, b_0, b_1, smL_34, sw_Node_last, smL_35, sw_Node_entry, smL_36, sw_Node_termAt, r_Msg_bearEntries_0, r_Msg_bearEntries_1, r_Msg_bearEntries_2, r_Msg_bearEntries_5, r_Msg_bearEntries_6, r_Msg_bearEntries_9, r_Msg_bearEntries_10, r_Msg_bearEntries_11, r_Msg_bearEntries_12, r_Msg_bearEntries_15, r_Msg_bearEntries_16, r_Msg_bearEntries_17, r_Msg_bearEntries_18, r_Msg_bearEntries_21, r_Msg_bearEntries_24, r_Msg_bearEntries_27, r_Msg_bearEntries_28, r_Msg_bearEntries_29, r_Msg_bearEntries_32, r_Msg_bearEntries_35, r_Msg_bearEntries_36, r_Msg_bearEntries_37, r_Msg_bearEntries_40, r_Msg_bearEntries_43, r_Msg_bearEntries_44, r_Msg_bearEntries_47, r_Msg_bearEntries_48, r_Msg_bearEntries_49, r_Msg_bearEntries_50, r_Msg_bearEntries_51, r_Msg_bearEntries_52, r_Msg_bearEntries_55, r_Msg_bearEntries_56, r_Msg_bearEntries_59, r_Msg_bearEntries_60, r_Msg_bearEntries_61, r_Msg_bearEntries_62, r_Msg_bearEntries_63, r_Msg_bearEntries_64, r_Msg_bearEntries_67, r_Msg_bearEntries_68, r_Msg_bearEntries_71, r_Msg_bearEntries_72, r_Msg_bearEntries_73, r_Msg_bearEntries_74, r_Msg_bearEntries_77, r_Msg_bearEntries_78, r_Msg_bearEntries_79, r_Msg_bearEntries_80, r_Msg_bearEntries_81, r_Msg_bearEntries_84, r_Msg_bearEntries_85, r_Msg_bearEntries_86, r_Msg_bearEntries_87, r_Msg_bearEntries_88, r_Msg_bearEntries_89, r_Msg_bearEntries_92, r_Msg_bearEntries_95, r_Msg_bearEntries_98, sv_k hS, sv_0 hS, sv_1 hS, sv_k1 hS, sv_n hS, sv_2 hS, sv_k2 hS, sv_b, sv_4, sv_5 hS, sv_k7 hS, sv_r hS, sv_kr hS, sv_7 hS, sv_k8 hS, sv_10 hS, sv_k9 hS, sv_11 hS, sv_k10 hS, sn_k hS, sn_4 hS, sn_k1 hS, sn_6 hS, sn_k2 hS, sn_24 hS, sn_k3 hS, sn_9 hS, sn_k4 hS, sn_13 hS, sn_k5 hS, sn_14 hS, sn_k6 hS, sn_15 hS, sn_k7 hS, sl_k hS, sl_2 hS, sl_k4 hS, sl_3 hS, sl_k5 hS, sl_4 hS, sl_k6 hS, sl_5 hS, sl_k7 hS, rn_0, rn_1, rn_2, rn_3, rn_5, rn_7, rn_8, rn_10, rn_11, rn_12, rn_16, rn_17, rn_log, rn_20, rn_21, rn_22, rn_23, rn_sk, rn_key, rn_next, rn_match, rn_heard, rw_3, rw_6, rw_8, rw_9, rw_12, rw_13, rw_14, rw_15, rw_he, rw_ld, rw_cu, rr_0, rr_1, rr_2, rr_3, rr_4, rr_5, su_2, su_8, su_10, su_12, su_16, su_17, su_20, su_21, su_22, su_23, su_sk, su_key, su_next, su_match, su_heard, su_3m, su_3, su_11m, su_11, su_7, sw_3, sw_8, sw_12, sw_13, sw_14, sw_15, sw_ld, sw_cu, sr_0, sr_5, I_val, I_add, I_sub, I_mul, inB, beq_iff_eq, or_false, false_or, u1_ne, u1_same, nd_u1, nd_u1s, lpS_u1, Bool.or_eq_true, Bool.or_false, Bool.false_or, bI_z, mnI_I, mxI_I]
    repeat' (first | with_reducible apply And.intro | intro _)
    all_goals (try clear kK)
    all_goals first | omega | exact hQ | trivial
  | succ m ih =>
    intro j h1 h2 h3
    by_cases hj : i + j ≤ nd S n 4 + nd S n 8
    · have ih := ih (j + 1) (by omega) (by omega) (by unfold teN; omega)
      refine G_ev ok_Msg_bearEntries (smL_ok (d := d - 1) (by omega)) (fun pc => pc == 50) 200 (by omega) (fun K kK => ?_)
      simp (disch := omega) only [ev_s, evN_ap, List.getElem?_cons_zero, List.getElem?_cons_succ, List.set_cons_zero, List.set_cons_succ, Bool.false_eq_true, ↓reduceIte, qrest_n, qrest_1, qrest_2, qrest_3, qrest_4, qrest_5, qrest_6, qtr_i, qtr_r, true_and, and_true, List.length_cons, List.length_nil, Int.cast_ofNat_Int, Int32.toInt_zero, false_implies, true_implies, not_false_eq_true, not_true_eq_false, Option.toList_some, Option.toList_none, List.cons_append, List.nil_append, Nat.reduceBEq, Nat.reduceEqDiff, Bool.or_self, or_self, Nat.reduceAdd, Nat.reduceLT, Nat.zero_add, Int.reduceAdd, Int.reduceLE, Int.reduceLT, Int.reduceEq, and_self, Int.reduceNeg, qrok_i, qrok_b0, qrok_b1, qrok_bI, Option.some.injEq, Value.int.injEq, J_bI0, J_bI1, Classical.not_not, Int.zero_add, Int.add_zero, Int.sub_zero, false_and, and_false, and_true, true_and, e_0, v_0, e_1, v_1, e_2, v_2, e_3, v_3, e_5, v_5, e_6, v_6, e_13, v_13, e_15, v_15, e_19, v_19, e_20, v_20, e_21, v_21, e_24, v_24, e_25, v_25, e_41, e_44, qspl_z, qspl_s, evC_s, evD_none, evD_v, evD_s, c_3, c_4, b_0, b_1, smL_34, sw_Node_last, smL_35, sw_Node_entry, smL_36, sw_Node_termAt, r_Msg_bearEntries_0, r_Msg_bearEntries_1, r_Msg_bearEntries_2, r_Msg_bearEntries_5, r_Msg_bearEntries_6, r_Msg_bearEntries_9, r_Msg_bearEntries_10, r_Msg_bearEntries_11, r_Msg_bearEntries_12, r_Msg_bearEntries_15, r_Msg_bearEntries_16, r_Msg_bearEntries_17, r_Msg_bearEntries_18, r_Msg_bearEntries_21, r_Msg_bearEntries_24, r_Msg_bearEntries_27, r_Msg_bearEntries_28, r_Msg_bearEntries_29, r_Msg_bearEntries_32, r_Msg_bearEntries_35, r_Msg_bearEntries_36, r_Msg_bearEntries_37, r_Msg_bearEntries_40, r_Msg_bearEntries_43, r_Msg_bearEntries_44, r_Msg_bearEntries_47, r_Msg_bearEntries_48, r_Msg_bearEntries_49, r_Msg_bearEntries_50, r_Msg_bearEntries_51, r_Msg_bearEntries_52, r_Msg_bearEntries_55, r_Msg_bearEntries_56, r_Msg_bearEntries_59, r_Msg_bearEntries_60, r_Msg_bearEntries_61, r_Msg_bearEntries_62, r_Msg_bearEntries_63, r_Msg_bearEntries_64, r_Msg_bearEntries_67, r_Msg_bearEntries_68, r_Msg_bearEntries_71, r_Msg_bearEntries_72, r_Msg_bearEntries_73, r_Msg_bearEntries_74, r_Msg_bearEntries_77, r_Msg_bearEntries_78, r_Msg_bearEntries_79, r_Msg_bearEntries_80, r_Msg_bearEntries_81, r_Msg_bearEntries_84, r_Msg_bearEntries_85, r_Msg_bearEntries_86, r_Msg_bearEntries_87, r_Msg_bearEntries_88, r_Msg_bearEntries_89, r_Msg_bearEntries_92, r_Msg_bearEntries_95, r_Msg_bearEntries_98, sv_k hS, sv_0 hS, sv_1 hS, sv_k1 hS, sv_n hS, sv_2 hS, sv_k2 hS, sv_b, sv_4, sv_5 hS, sv_k7 hS, sv_r hS, sv_kr hS, sv_7 hS, sv_k8 hS, sv_10 hS, sv_k9 hS, sv_11 hS, sv_k10 hS, sn_k hS, sn_4 hS, sn_k1 hS, sn_6 hS, sn_k2 hS, sn_24 hS, sn_k3 hS, sn_9 hS, sn_k4 hS, sn_13 hS, sn_k5 hS, sn_14 hS, sn_k6 hS, sn_15 hS, sn_k7 hS, sl_k hS, sl_2 hS, sl_k4 hS, sl_3 hS, sl_k5 hS, sl_4 hS, sl_k6 hS, sl_5 hS, sl_k7 hS, rn_0, rn_1, rn_2, rn_3, rn_5, rn_7, rn_8, rn_10, rn_11, rn_12, rn_16, rn_17, rn_log, rn_20, rn_21, rn_22, rn_23, rn_sk, rn_key, rn_next, rn_match, rn_heard, rw_3, rw_6, rw_8, rw_9, rw_12, rw_13, rw_14, rw_15, rw_he, rw_ld, rw_cu, rr_0, rr_1, rr_2, rr_3, rr_4, rr_5, su_2, su_8, su_10, su_12, su_16, su_17, su_20, su_21, su_22, su_23, su_sk, su_key, su_next, su_match, su_heard, su_3m, su_3, su_11m, su_11, su_7, sw_3, sw_8, sw_12, sw_13, sw_14, sw_15, sw_ld, sw_cu, sr_0, sr_5, I_val, I_add, I_sub, I_mul, inB, beq_iff_eq, or_false, false_or, u1_ne, u1_same, nd_u1, nd_u1s, lpS_u1, Bool.or_eq_true, Bool.or_false, Bool.false_or, bI_z, mnI_I, mxI_I, sg_k hS hbo, sg_10 hS hbo, sg_k1 hS hbo, rv_ hw hbo, uv_ hw hbo, uv_i hw hbo, e5, enI_S hw hS ho]
      repeat' (first | with_reducible apply And.intro | intro _)
      all_goals try (clear kK; omega)
      all_goals first | omega | skip
      refine kK _ _ _ _ ?_
      rw [show i - 1 + 1 + j = i + j by omega, enG_s h2]
      exact ih
    · have : teN S n i = j := by unfold teN at h3 ⊢; omega
      rw [this] at hQ
      refine G_ev ok_Msg_bearEntries (smL_ok (d := d - 1) (by omega)) (fun pc => pc == 50) 200 (by omega) (fun K kK => ?_)
      simp (disch := omega) only [ev_s, evN_ap, List.getElem?_cons_zero, List.getElem?_cons_succ, List.set_cons_zero, List.set_cons_succ, Bool.false_eq_true, ↓reduceIte, qrest_n, qrest_1, qrest_2, qrest_3, qrest_4, qrest_5, qrest_6, qtr_i, qtr_r, true_and, and_true, List.length_cons, List.length_nil, Int.cast_ofNat_Int, Int32.toInt_zero, false_implies, true_implies, not_false_eq_true, not_true_eq_false, Option.toList_some, Option.toList_none, List.cons_append, List.nil_append, Nat.reduceBEq, Nat.reduceEqDiff, Bool.or_self, or_self, Nat.reduceAdd, Nat.reduceLT, Nat.zero_add, Int.reduceAdd, Int.reduceLE, Int.reduceLT, Int.reduceEq, and_self, Int.reduceNeg, qrok_i, qrok_b0, qrok_b1, qrok_bI, Option.some.injEq, Value.int.injEq, J_bI0, J_bI1, Classical.not_not, Int.zero_add, Int.add_zero, Int.sub_zero, false_and, and_false, and_true, true_and, e_0, v_0, e_1, v_1, e_2, v_2, e_3, v_3, e_5, v_5, e_6, v_6, e_13, v_13, e_15, v_15, e_19, v_19, e_20, v_20, e_21, v_21, e_24, v_24, e_25, v_25, e_41, e_44, qspl_z, qspl_s, evC_s, evD_none, evD_v, evD_s, c_3, c_4, b_0, b_1, smL_34, sw_Node_last, smL_35, sw_Node_entry, smL_36, sw_Node_termAt, r_Msg_bearEntries_0, r_Msg_bearEntries_1, r_Msg_bearEntries_2, r_Msg_bearEntries_5, r_Msg_bearEntries_6, r_Msg_bearEntries_9, r_Msg_bearEntries_10, r_Msg_bearEntries_11, r_Msg_bearEntries_12, r_Msg_bearEntries_15, r_Msg_bearEntries_16, r_Msg_bearEntries_17, r_Msg_bearEntries_18, r_Msg_bearEntries_21, r_Msg_bearEntries_24, r_Msg_bearEntries_27, r_Msg_bearEntries_28, r_Msg_bearEntries_29, r_Msg_bearEntries_32, r_Msg_bearEntries_35, r_Msg_bearEntries_36, r_Msg_bearEntries_37, r_Msg_bearEntries_40, r_Msg_bearEntries_43, r_Msg_bearEntries_44, r_Msg_bearEntries_47, r_Msg_bearEntries_48, r_Msg_bearEntries_49, r_Msg_bearEntries_50, r_Msg_bearEntries_51, r_Msg_bearEntries_52, r_Msg_bearEntries_55, r_Msg_bearEntries_56, r_Msg_bearEntries_59, r_Msg_bearEntries_60, r_Msg_bearEntries_61, r_Msg_bearEntries_62, r_Msg_bearEntries_63, r_Msg_bearEntries_64, r_Msg_bearEntries_67, r_Msg_bearEntries_68, r_Msg_bearEntries_71, r_Msg_bearEntries_72, r_Msg_bearEntries_73, r_Msg_bearEntries_74, r_Msg_bearEntries_77, r_Msg_bearEntries_78, r_Msg_bearEntries_79, r_Msg_bearEntries_80, r_Msg_bearEntries_81, r_Msg_bearEntries_84, r_Msg_bearEntries_85, r_Msg_bearEntries_86, r_Msg_bearEntries_87, r_Msg_bearEntries_88, r_Msg_bearEntries_89, r_Msg_bearEntries_92, r_Msg_bearEntries_95, r_Msg_bearEntries_98, sv_k hS, sv_0 hS, sv_1 hS, sv_k1 hS, sv_n hS, sv_2 hS, sv_k2 hS, sv_b, sv_4, sv_5 hS, sv_k7 hS, sv_r hS, sv_kr hS, sv_7 hS, sv_k8 hS, sv_10 hS, sv_k9 hS, sv_11 hS, sv_k10 hS, sn_k hS, sn_4 hS, sn_k1 hS, sn_6 hS, sn_k2 hS, sn_24 hS, sn_k3 hS, sn_9 hS, sn_k4 hS, sn_13 hS, sn_k5 hS, sn_14 hS, sn_k6 hS, sn_15 hS, sn_k7 hS, sl_k hS, sl_2 hS, sl_k4 hS, sl_3 hS, sl_k5 hS, sl_4 hS, sl_k6 hS, sl_5 hS, sl_k7 hS, rn_0, rn_1, rn_2, rn_3, rn_5, rn_7, rn_8, rn_10, rn_11, rn_12, rn_16, rn_17, rn_log, rn_20, rn_21, rn_22, rn_23, rn_sk, rn_key, rn_next, rn_match, rn_heard, rw_3, rw_6, rw_8, rw_9, rw_12, rw_13, rw_14, rw_15, rw_he, rw_ld, rw_cu, rr_0, rr_1, rr_2, rr_3, rr_4, rr_5, su_2, su_8, su_10, su_12, su_16, su_17, su_20, su_21, su_22, su_23, su_sk, su_key, su_next, su_match, su_heard, su_3m, su_3, su_11m, su_11, su_7, sw_3, sw_8, sw_12, sw_13, sw_14, sw_15, sw_ld, sw_cu, sr_0, sr_5, I_val, I_add, I_sub, I_mul, inB, beq_iff_eq, or_false, false_or, u1_ne, u1_same, nd_u1, nd_u1s, lpS_u1, Bool.or_eq_true, Bool.or_false, Bool.false_or, bI_z, mnI_I, mxI_I, sg_k hS hbo, sg_10 hS hbo, sg_k1 hS hbo, rv_ hw hbo, uv_ hw hbo, uv_i hw hbo, e5, enI_S hw hS ho]
      repeat' (first | with_reducible apply And.intro | intro _)
      all_goals try (clear kK; omega)
      all_goals first | omega | exact hQ
set_option maxHeartbeats 2000000 in
set_option maxRecDepth 100000 in
theorem C_Msg_bearEntries (hd : 4 ≤ d) (hw : 8 ≤ w ∧ w ≤ 1462) (hS : ShW s w) {n : Int} {o : Nat} {to : Int} (hn : 0 ≤ n ∧ n ≤ 6) (ho : OK R S) (hbo : isMO w o) (ht : 0 ≤ to ∧ to ≤ 6) (h3 : nd S n 3 = 2) (hi : nd S n 4 < nd S n (31 + to) ∧ nd S n (31 + to) ≤ nd S n 4 + nd S n 8 + 1) (h1 : g o 1 = to) (h11 : g o 11 = 0) : T l V mi_Msg_bearEntries (rm d) 0 0 [.ref o, .ref (ndA w n 0)] (mkH s (jn (mkC w S g) r)) (fun v h' => v = none ∧ h' = mkH s (jn (mkC w S (enG (be0 g o S n (nd S n (31 + to))) o S n (nd S n (31 + to)) (teN S n (nd S n (31 + to))))) r)) := by
  refine T_ev qm_Msg_bearEntries [.ref o, .ref (ndA w n 0), .retAddr 0, .retAddr 0] rfl rfl (Nat.le_of_ble_eq_true rfl) ok_Msg_bearEntries (smL_ok (d := d - 1) (by omega)) (fun pc => pc == 50) 200 (by omega) (fun K kK => ?_)
  obtain ⟨-, n3, n4, n5, n6⟩ := OK_nOk ho hn
  have u5 : ∀ v, up g o 5 v o 5 = v := fun v => up_same
  simp (disch := omega) only [ev_s, evN_ap, List.getElem?_cons_zero, List.getElem?_cons_succ, List.set_cons_zero, List.set_cons_succ, Bool.false_eq_true, ↓reduceIte, qrest_n, qrest_1, qrest_2, qrest_3, qrest_4, qrest_5, qrest_6, qtr_i, qtr_r, true_and, and_true, List.length_cons, List.length_nil, Int.cast_ofNat_Int, Int32.toInt_zero, false_implies, true_implies, not_false_eq_true, not_true_eq_false, Option.toList_some, Option.toList_none, List.cons_append, List.nil_append, Nat.reduceBEq, Nat.reduceEqDiff, Bool.or_self, or_self, Nat.reduceAdd, Nat.reduceLT, Nat.zero_add, Int.reduceAdd, Int.reduceLE, Int.reduceLT, Int.reduceEq, and_self, Int.reduceNeg, qrok_i, qrok_b0, qrok_b1, qrok_bI, Option.some.injEq, Value.int.injEq, J_bI0, J_bI1, Classical.not_not, Int.zero_add, Int.add_zero, Int.sub_zero, false_and, and_false, and_true, true_and, e_0, v_0, e_1, v_1, e_2, v_2, e_3, v_3, e_5, v_5, e_6, v_6, e_13, v_13, e_15, v_15, e_19, v_19, e_20, v_20, e_21, v_21, e_24, v_24, e_25, v_25, e_41, e_44, qspl_z, qspl_s, evC_s, evD_none, evD_v, evD_s, c_3, c_4, b_0, b_1, smL_34, sw_Node_last, smL_35, sw_Node_entry, smL_36, sw_Node_termAt, r_Msg_bearEntries_0, r_Msg_bearEntries_1, r_Msg_bearEntries_2, r_Msg_bearEntries_5, r_Msg_bearEntries_6, r_Msg_bearEntries_9, r_Msg_bearEntries_10, r_Msg_bearEntries_11, r_Msg_bearEntries_12, r_Msg_bearEntries_15, r_Msg_bearEntries_16, r_Msg_bearEntries_17, r_Msg_bearEntries_18, r_Msg_bearEntries_21, r_Msg_bearEntries_24, r_Msg_bearEntries_27, r_Msg_bearEntries_28, r_Msg_bearEntries_29, r_Msg_bearEntries_32, r_Msg_bearEntries_35, r_Msg_bearEntries_36, r_Msg_bearEntries_37, r_Msg_bearEntries_40, r_Msg_bearEntries_43, r_Msg_bearEntries_44, r_Msg_bearEntries_47, r_Msg_bearEntries_48, r_Msg_bearEntries_49, r_Msg_bearEntries_50, r_Msg_bearEntries_51, r_Msg_bearEntries_52, r_Msg_bearEntries_55, r_Msg_bearEntries_56, r_Msg_bearEntries_59, r_Msg_bearEntries_60, r_Msg_bearEntries_61, r_Msg_bearEntries_62, r_Msg_bearEntries_63, r_Msg_bearEntries_64, r_Msg_bearEntries_67, r_Msg_bearEntries_68, r_Msg_bearEntries_71, r_Msg_bearEntries_72, r_Msg_bearEntries_73, r_Msg_bearEntries_74, r_Msg_bearEntries_77, r_Msg_bearEntries_78, r_Msg_bearEntries_79, r_Msg_bearEntries_80, r_Msg_bearEntries_81, r_Msg_bearEntries_84, r_Msg_bearEntries_85, r_Msg_bearEntries_86, r_Msg_bearEntries_87, r_Msg_bearEntries_88, r_Msg_bearEntries_89, r_Msg_bearEntries_92, r_Msg_bearEntries_95, r_Msg_bearEntries_98, sv_k hS, sv_0 hS, sv_1 hS, sv_k1 hS, sv_n hS, sv_2 hS, sv_k2 hS, sv_b, sv_4, sv_5 hS, sv_k7 hS, sv_r hS, sv_kr hS, sv_7 hS, sv_k8 hS, sv_10 hS, sv_k9 hS, sv_11 hS, sv_k10 hS, sn_k hS, sn_4 hS, sn_k1 hS, sn_6 hS, sn_k2 hS, sn_24 hS, sn_k3 hS, sn_9 hS, sn_k4 hS, sn_13 hS, sn_k5 hS, sn_14 hS, sn_k6 hS, sn_15 hS, sn_k7 hS, sl_k hS, sl_2 hS, sl_k4 hS, sl_3 hS, sl_k5 hS, sl_4 hS, sl_k6 hS, sl_5 hS, sl_k7 hS, rn_0, rn_1, rn_2, rn_3, rn_5, rn_7, rn_8, rn_10, rn_11, rn_12, rn_16, rn_17, rn_log, rn_20, rn_21, rn_22, rn_23, rn_sk, rn_key, rn_next, rn_match, rn_heard, rw_3, rw_6, rw_8, rw_9, rw_12, rw_13, rw_14, rw_15, rw_he, rw_ld, rw_cu, rr_0, rr_1, rr_2, rr_3, rr_4, rr_5, su_2, su_8, su_10, su_12, su_16, su_17, su_20, su_21, su_22, su_23, su_sk, su_key, su_next, su_match, su_heard, su_3m, su_3, su_11m, su_11, su_7, sw_3, sw_8, sw_12, sw_13, sw_14, sw_15, sw_ld, sw_cu, sr_0, sr_5, I_val, I_add, I_sub, I_mul, inB, beq_iff_eq, or_false, false_or, u1_ne, u1_same, nd_u1, nd_u1s, lpS_u1, Bool.or_eq_true, Bool.or_false, Bool.false_or, bI_z, mnI_I, mxI_I, sg_k hS hbo, rv_ hw hbo, uv_ hw hbo, h1, u5, tmI_S hw hS ho]
  repeat refine And.intro (by omega) ?_
  refine kK _ _ _ _ ?_
  have e11 : be0 g o S n (nd S n (31 + to)) o 11 = 0 := by simp [be0, up, h11]
  have e5 : be0 g o S n (nd S n (31 + to)) o 5 = nd S n (31 + to) - 1 := by simp [be0, up]
  have := LC_bearEntries (l := l) (V := V) (d := d) (s := s) (r := r) (g := be0 g o S n (nd S n (31 + to))) (Q := fun v h' => v = none ∧ h' = mkH s (jn (mkC w S (enG (be0 g o S n (nd S n (31 + to))) o S n (nd S n (31 + to)) (teN S n (nd S n (31 + to))))) r)) (by omega) hw hS hn ho hbo hi e5 ⟨rfl, rfl⟩ 4 0 (by omega) (by omega) (by unfold teN; omega)
  rw [enG_0 e11] at this
  exact this
end CS
