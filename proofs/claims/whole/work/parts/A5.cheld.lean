/-! the class's world: entries are seen held, COMMIT grows; crowned; calls for votes -/
section He
variable {s : qS} {w : Nat} {S : qN} {g r : qI} {i t k a b e : Int}
theorem su_held (hw : 8 ≤ w ∧ w ≤ 1462) (hi : 1 ≤ i ∧ i ≤ 999) (h0 : S (6028 + 4 * i) = 0) (ht : t ≠ 0) (he : e = pkv t k a b) : setM (setM (mkH s (jn (mkC w S g) r)) (w + 8) i (Int32.ofInt e)) w 9 (Int32.ofInt (hcnt S + 1)) = mkH s (jn (mkC w (u1 (u1 (u1 (u1 S (6028 + 4 * i) t) (6028 + 4 * i + 1) k) (6028 + 4 * i + 2) a) (6028 + 4 * i + 3) b) g) r) := by
  rw [set_c (by omega), set_c (by omega)]
  refine congrArg (fun c => mkH s (jn c r)) ?_
  generalize hT : u1 (u1 (u1 (u1 S (6028 + 4 * i) t) (6028 + 4 * i + 1) k) (6028 + 4 * i + 2) a) (6028 + 4 * i + 3) b = T
  have tn : ∀ j, j < 6028 + 4 * i ∨ 6028 + 4 * i + 4 ≤ j → T j = S j := fun j hj => by rw [← hT, u1_ne (by omega), u1_ne (by omega), u1_ne (by omega), u1_ne (by omega)]
  have t0 : T (6028 + 4 * i) = t := by rw [← hT, u1_ne (by omega), u1_ne (by omega), u1_ne (by omega), u1_same]
  have t1 : T (6028 + 4 * i + 1) = k := by rw [← hT, u1_ne (by omega), u1_ne (by omega), u1_same]
  have t2 : T (6028 + 4 * i + 2) = a := by rw [← hT, u1_ne (by omega), u1_same]
  have t3 : T (6028 + 4 * i + 3) = b := by rw [← hT, u1_same]
  have hc : hcnt T = hcnt S + 1 := by
    have := hcF_set (S := S) (S' := T) (i := i) (fun k hk => tn _ (by omega)) h0 (by rw [t0]; exact ht) 1000
    unfold hcnt
    rw [this, if_pos (by omega)]
  funext x y
  unfold up
  refine mk_cases (w := w) (P := fun x => (if x = w ∧ y = 9 then hcnt S + 1 else if x = w + 8 ∧ y = i then e else mkC w S g x y) = mkC w T g x y) ?_ ?_ ?_ ?_ ?_ ?_ ?_ x
  · intro m q h1 h2 h3
    rw [if_neg (by unfold ndA; omega), if_neg (by unfold ndA; omega), mkC_N ⟨h1, h2⟩ h3, mkC_N ⟨h1, h2⟩ h3, nd_c (fun e e0 e1 => tn _ (by omega))]
  · intro j h1 h2
    rw [if_neg (by unfold rdA; omega), if_neg (by unfold rdA; omega), mkC_R ⟨h1, h2⟩, mkC_R ⟨h1, h2⟩]
    unfold rdC
    rw [tn 11135 (by omega), tn (11028 + 6 * j + 4) (by omega), tn (11028 + 6 * j) (by omega), tn (11028 + 6 * j + 1) (by omega), tn (11028 + 6 * j + 2) (by omega), tn (11028 + 6 * j + 3) (by omega), tn (11028 + 6 * j + 5) (by omega)]
  · rw [mkC_w, mkC_w]
    unfold wlC
    rw [hc, tn 11133 (by omega), tn 11135 (by omega), tn 11134 (by omega), tn 11131 (by omega), tn 11132 (by omega), tn 11136 (by omega), tn 11137 (by omega)]
    grind (splits := 40)
  · rw [if_neg (by omega), mkC_8, mkC_8]
    unfold heC
    by_cases hy : y = i
    · rw [if_pos ⟨rfl, hy⟩, hy, if_pos hi, t0, if_neg ht, pk_v, t0, t1, t2, t3, he]
    · rw [if_neg (fun q => hy q.2)]
      by_cases h1 : 1 ≤ y ∧ y ≤ 999
      · unfold pk
        rw [tn (6028 + 4 * y) (by omega), tn (6028 + 4 * y + 1) (by omega), tn (6028 + 4 * y + 2) (by omega), tn (6028 + 4 * y + 3) (by omega)]
      · rw [if_neg h1, if_neg h1]
  · rw [if_neg (by omega), if_neg (by omega), mkC_9, mkC_9]
    by_cases h1 : 0 ≤ y ∧ y ≤ 999
    · rw [tn _ (by omega)]
    · rw [if_neg h1, if_neg h1]
  · rw [if_neg (by omega), if_neg (by omega), mkC_10, mkC_10]
    by_cases h1 : 0 ≤ y ∧ y ≤ 6
    · rw [tn _ (by omega)]
    · rw [if_neg h1, if_neg h1]
  · intro x hx
    rw [if_neg (by unfold offW at hx; omega), if_neg (by unfold offW at hx; omega), mkC_o hx, mkC_o hx]
theorem hM_sne {h : qH} {x y : Nat} {j k : Int} {v : Int32} (hne : x ≠ y) : hM (setM h y k v) x j = hM h x j := by
  rw [hM_setM, if_neg (fun q => hne q.1)]
theorem hK_set {h : qH} {x y : Nat} {k : Int} {v : Int32} : hK (setM h y k v) x = hK h x := rfl
theorem hR_set {h : qH} {x y : Nat} {j k : Int} {v : Int32} : hR (setM h y k v) x j = hR h x j := rfl
end He
section CS
variable {l : Launch} {V : qV} {d : Nat} {s : qS} {w : Nat} {S : qN} {c g r : qI} {R n : Int} {Q : Option Value → qH → Prop}
set_option maxHeartbeats 2000000 in
set_option maxRecDepth 100000 in
theorem C_World_seeHeld (hd : 4 ≤ d) (hw : 8 ≤ w ∧ w ≤ 1462) (hS : ShW s w) {n i e : Int} (hn : 0 ≤ n ∧ n ≤ 6) (ho : OK R S) (hE : hasE S n i) (he : e = enS S n i) : T l V mi_World_seeHeld (rm d) 0 0 [.ref w, .ref (ndA w n 0), .int (Int32.ofInt i), .int (Int32.ofInt e)] (mkH s (jn (mkC w S g) r)) (fun v h' => v = none ∧ h' = mkH s (jn (mkC w (seS S n i) g) r)) := by
  refine T_ev qm_World_seeHeld [.ref w, .ref (ndA w n 0), .int (Int32.ofInt i), .int (Int32.ofInt e)] rfl rfl (Nat.le_of_ble_eq_true rfl) ok_World_seeHeld (smL_ok (d := d - 1) (by omega)) (fun pc => pc == 30) 200 (by omega) (fun K kK => ?_)
  obtain ⟨-, n3, n4, n5, n6⟩ := OK_nOk ho hn
  have hE' := OK_E ho hn hE.1 hE.2
  have hp := pkR_E hE'
  rw [enS, if_pos hE, pk_v] at he
  have hpr := pkv_rng hp
  have hlp := lpS_rng (OK_nOk ho hn) (i := i) (by omega) hE.2
  obtain ⟨e1, e2, e3, e4, e5⟩ := hE'
  subst he
  have hh := (OK_h ho).2.1 i (by omega) (by omega)
  have tail : G l V mi_World_seeHeld (rm d) 0 0 (fun v h' => v = none ∧ h' = mkH s (jn (mkC w (seS S n i) g) r)) 0 0 30 [.ref w, .ref (ndA w n 0), .int (Int32.ofInt i), .int (Int32.ofInt (pkv (S (lpS S n i)) (S (lpS S n i + 1)) (S (lpS S n i + 2)) (S (lpS S n i + 3))))] [] (mkH s (jn (mkC w (seK S n (lpS S n i)) g) r)) := by
    have heO : eOk S (lpS S n i) := fun q => ⟨e3.1, e5 q⟩
    have kne : ∀ j, j < 244 * n + 15 ∨ 244 * n + 23 ≤ j → seK S n (lpS S n i) j = S j := fun j hj => seK_ne heO hj
    have k0 := kne (6028 + 4 * i) (by omega)
    have k134 := kne 11134 (by omega)
    have k136 := kne 11136 (by omega)
    have kpk : pk (seK S n (lpS S n i)) (6028 + 4 * i) = pk S (6028 + 4 * i) := by
      unfold pk
      rw [k0, kne _ (by omega), kne _ (by omega), kne _ (by omega)]
    have og := OK_g ho
    unfold GOK at og
    by_cases h0 : S (6028 + 4 * i) = 0
    · have e136 : seS S n i = u1 (u1 (u1 (u1 (u1 (seK S n (lpS S n i)) (6028 + 4 * i) (S (lpS S n i))) (6028 + 4 * i + 1) (S (lpS S n i + 1))) (6028 + 4 * i + 2) (S (lpS S n i + 2))) (6028 + 4 * i + 3) (S (lpS S n i + 3))) 11134 (max (S 11134) i) := by unfold seS; rw [if_pos h0]
      have hsu := su_held (s := s) (g := g) (r := r) (k := S (lpS S n i + 1)) (a := S (lpS S n i + 2)) (b := S (lpS S n i + 3)) hw (by omega : 1 ≤ i ∧ i ≤ 999) (k0.trans h0) (show S (lpS S n i) ≠ 0 by omega) rfl
      refine G_ev ok_World_seeHeld (smL_ok (d := d - 1) (by omega)) (fun pc => pc == 30) 200 (by omega) (fun K kK => ?_)
      simp (disch := omega) only [ev_s, evN_ap, List.getElem?_cons_zero, List.getElem?_cons_succ, List.set_cons_zero, List.set_cons_succ, Bool.false_eq_true, ↓reduceIte, qrest_n, qrest_1, qrest_2, qrest_3, qrest_4, qrest_5, qrest_6, qtr_i, qtr_r, true_and, and_true, List.length_cons, List.length_nil, Int.cast_ofNat_Int, Int32.toInt_zero, false_implies, true_implies, not_false_eq_true, not_true_eq_false, Option.toList_some, Option.toList_none, List.cons_append, List.nil_append, Nat.reduceBEq, Nat.reduceEqDiff, Bool.or_self, or_self, Nat.reduceAdd, Nat.reduceLT, Nat.zero_add, Int.reduceAdd, Int.reduceLE, Int.reduceLT, Int.reduceEq, and_self, Int.reduceNeg, qrok_i, qrok_b0, qrok_b1, qrok_bI, Option.some.injEq, Value.int.injEq, J_bI0, J_bI1, Classical.not_not, Int.zero_add, Int.add_zero, Int.sub_zero, false_and, and_false, and_true, true_and, e_0, v_0, e_1, v_1, e_2, v_2, e_6, v_6, e_10, v_10, e_13, v_13, e_14, v_14, e_15, v_15, e_19, v_19, e_20, v_20, e_21, v_21, e_24, v_24, e_25, v_25, e_36, v_36, e_41, e_45, qspl_z, qspl_s, evC_s, evD_none, evD_v, evD_s, c_0, c_1, c_2, c_5, b_0, smL_153, sw_T_isKey, smL_162, sw_T_kindOf, smL_163, sw_T_firstOf, smL_164, sw_T_secondOf, r_World_seeHeld_0, r_World_seeHeld_1, r_World_seeHeld_4, r_World_seeHeld_7, r_World_seeHeld_8, r_World_seeHeld_11, r_World_seeHeld_14, r_World_seeHeld_17, r_World_seeHeld_18, r_World_seeHeld_21, r_World_seeHeld_22, r_World_seeHeld_25, r_World_seeHeld_26, r_World_seeHeld_29, r_World_seeHeld_30, r_World_seeHeld_31, r_World_seeHeld_32, r_World_seeHeld_35, r_World_seeHeld_36, r_World_seeHeld_39, r_World_seeHeld_42, r_World_seeHeld_43, r_World_seeHeld_44, r_World_seeHeld_47, r_World_seeHeld_48, r_World_seeHeld_49, r_World_seeHeld_52, r_World_seeHeld_53, r_World_seeHeld_56, r_World_seeHeld_57, r_World_seeHeld_58, r_World_seeHeld_59, r_World_seeHeld_60, r_World_seeHeld_61, r_World_seeHeld_64, r_World_seeHeld_65, r_World_seeHeld_66, r_World_seeHeld_69, r_World_seeHeld_70, r_World_seeHeld_71, r_World_seeHeld_74, r_World_seeHeld_75, r_World_seeHeld_78, r_World_seeHeld_81, r_World_seeHeld_84, r_World_seeHeld_85, r_World_seeHeld_88, r_World_seeHeld_89, r_World_seeHeld_90, r_World_seeHeld_91, r_World_seeHeld_94, r_World_seeHeld_95, r_World_seeHeld_96, r_World_seeHeld_99, r_World_seeHeld_100, r_World_seeHeld_101, r_World_seeHeld_104, sv_k hS, sv_0 hS, sv_1 hS, sv_k1 hS, sv_n hS, sv_2 hS, sv_k2 hS, sv_b, sv_4, sv_5 hS, sv_k7 hS, sv_r hS, sv_kr hS, sv_7 hS, sv_k8 hS, sv_10 hS, sv_k9 hS, sv_11 hS, sv_k10 hS, sn_k hS, sn_4 hS, sn_k1 hS, sn_6 hS, sn_k2 hS, sn_24 hS, sn_k3 hS, sn_9 hS, sn_k4 hS, sn_13 hS, sn_k5 hS, sn_14 hS, sn_k6 hS, sn_15 hS, sn_k7 hS, sl_k hS, sl_2 hS, sl_k4 hS, sl_3 hS, sl_k5 hS, sl_4 hS, sl_k6 hS, sl_5 hS, sl_k7 hS, rn_0, rn_1, rn_2, rn_3, rn_5, rn_7, rn_8, rn_10, rn_11, rn_12, rn_16, rn_17, rn_log, rn_20, rn_21, rn_22, rn_23, rn_sk, rn_key, rn_next, rn_match, rn_heard, rw_3, rw_6, rw_8, rw_9, rw_12, rw_13, rw_14, rw_15, rw_he, rw_ld, rw_cu, rr_0, rr_1, rr_2, rr_3, rr_4, rr_5, su_2, su_8, su_10, su_12, su_16, su_17, su_20, su_21, su_22, su_23, su_sk, su_key, su_next, su_match, su_heard, su_3m, su_3, su_11m, su_11, su_7, sw_3, sw_8, sw_12, sw_13, sw_14, sw_15, sw_ld, sw_cu, sr_0, sr_5, I_val, I_add, I_sub, I_mul, inB, beq_iff_eq, or_false, false_or, u1_ne, u1_same, nd_u1, nd_u1s, lpS_u1, Bool.or_eq_true, Bool.or_false, Bool.false_or, bI_z, mnI_I, mxI_I, hM_sne, hK_set, hR_set, k0, h0, k134, mxJ, hsu]
      rw [e136]
      repeat' (first | with_reducible apply And.intro | intro _)
      all_goals try (clear kK; omega)
      all_goals first | omega | rfl | skip
    · have hH : EOK S (6028 + 4 * i) := by
        rcases hh with q | q
        · exact absurd q h0
        · exact q
      have hq := pkR_E hH
      have hqr := pkv_rng hq
      have hqi := pk_inj hq hp
      have e136 : seS S n i = @ite _ (same4 S (lpS S n i) (6028 + 4 * i)) (Classical.propDecidable _) (seK S n (lpS S n i)) (u1 (seK S n (lpS S n i)) 11136 (S 11136 + 1)) := by unfold seS; rw [if_neg h0]
      have hpos : pkv (S (6028 + 4 * i)) (S (6028 + 4 * i + 1)) (S (6028 + 4 * i + 2)) (S (6028 + 4 * i + 3)) ≠ 0 := by unfold pkv; unfold pkR at hq; omega
      refine G_ev ok_World_seeHeld (smL_ok (d := d - 1) (by omega)) (fun pc => pc == 30) 200 (by omega) (fun K kK => ?_)
      simp (disch := omega) only [ev_s, evN_ap, List.getElem?_cons_zero, List.getElem?_cons_succ, List.set_cons_zero, List.set_cons_succ, Bool.false_eq_true, ↓reduceIte, qrest_n, qrest_1, qrest_2, qrest_3, qrest_4, qrest_5, qrest_6, qtr_i, qtr_r, true_and, and_true, List.length_cons, List.length_nil, Int.cast_ofNat_Int, Int32.toInt_zero, false_implies, true_implies, not_false_eq_true, not_true_eq_false, Option.toList_some, Option.toList_none, List.cons_append, List.nil_append, Nat.reduceBEq, Nat.reduceEqDiff, Bool.or_self, or_self, Nat.reduceAdd, Nat.reduceLT, Nat.zero_add, Int.reduceAdd, Int.reduceLE, Int.reduceLT, Int.reduceEq, and_self, Int.reduceNeg, qrok_i, qrok_b0, qrok_b1, qrok_bI, Option.some.injEq, Value.int.injEq, J_bI0, J_bI1, Classical.not_not, Int.zero_add, Int.add_zero, Int.sub_zero, false_and, and_false, and_true, true_and, e_0, v_0, e_1, v_1, e_2, v_2, e_6, v_6, e_10, v_10, e_13, v_13, e_14, v_14, e_15, v_15, e_19, v_19, e_20, v_20, e_21, v_21, e_24, v_24, e_25, v_25, e_36, v_36, e_41, e_45, qspl_z, qspl_s, evC_s, evD_none, evD_v, evD_s, c_0, c_1, c_2, c_5, b_0, smL_153, sw_T_isKey, smL_162, sw_T_kindOf, smL_163, sw_T_firstOf, smL_164, sw_T_secondOf, r_World_seeHeld_0, r_World_seeHeld_1, r_World_seeHeld_4, r_World_seeHeld_7, r_World_seeHeld_8, r_World_seeHeld_11, r_World_seeHeld_14, r_World_seeHeld_17, r_World_seeHeld_18, r_World_seeHeld_21, r_World_seeHeld_22, r_World_seeHeld_25, r_World_seeHeld_26, r_World_seeHeld_29, r_World_seeHeld_30, r_World_seeHeld_31, r_World_seeHeld_32, r_World_seeHeld_35, r_World_seeHeld_36, r_World_seeHeld_39, r_World_seeHeld_42, r_World_seeHeld_43, r_World_seeHeld_44, r_World_seeHeld_47, r_World_seeHeld_48, r_World_seeHeld_49, r_World_seeHeld_52, r_World_seeHeld_53, r_World_seeHeld_56, r_World_seeHeld_57, r_World_seeHeld_58, r_World_seeHeld_59, r_World_seeHeld_60, r_World_seeHeld_61, r_World_seeHeld_64, r_World_seeHeld_65, r_World_seeHeld_66, r_World_seeHeld_69, r_World_seeHeld_70, r_World_seeHeld_71, r_World_seeHeld_74, r_World_seeHeld_75, r_World_seeHeld_78, r_World_seeHeld_81, r_World_seeHeld_84, r_World_seeHeld_85, r_World_seeHeld_88, r_World_seeHeld_89, r_World_seeHeld_90, r_World_seeHeld_91, r_World_seeHeld_94, r_World_seeHeld_95, r_World_seeHeld_96, r_World_seeHeld_99, r_World_seeHeld_100, r_World_seeHeld_101, r_World_seeHeld_104, sv_k hS, sv_0 hS, sv_1 hS, sv_k1 hS, sv_n hS, sv_2 hS, sv_k2 hS, sv_b, sv_4, sv_5 hS, sv_k7 hS, sv_r hS, sv_kr hS, sv_7 hS, sv_k8 hS, sv_10 hS, sv_k9 hS, sv_11 hS, sv_k10 hS, sn_k hS, sn_4 hS, sn_k1 hS, sn_6 hS, sn_k2 hS, sn_24 hS, sn_k3 hS, sn_9 hS, sn_k4 hS, sn_13 hS, sn_k5 hS, sn_14 hS, sn_k6 hS, sn_15 hS, sn_k7 hS, sl_k hS, sl_2 hS, sl_k4 hS, sl_3 hS, sl_k5 hS, sl_4 hS, sl_k6 hS, sl_5 hS, sl_k7 hS, rn_0, rn_1, rn_2, rn_3, rn_5, rn_7, rn_8, rn_10, rn_11, rn_12, rn_16, rn_17, rn_log, rn_20, rn_21, rn_22, rn_23, rn_sk, rn_key, rn_next, rn_match, rn_heard, rw_3, rw_6, rw_8, rw_9, rw_12, rw_13, rw_14, rw_15, rw_he, rw_ld, rw_cu, rr_0, rr_1, rr_2, rr_3, rr_4, rr_5, su_2, su_8, su_10, su_12, su_16, su_17, su_20, su_21, su_22, su_23, su_sk, su_key, su_next, su_match, su_heard, su_3m, su_3, su_11m, su_11, su_7, sw_3, sw_8, sw_12, sw_13, sw_14, sw_15, sw_ld, sw_cu, sr_0, sr_5, I_val, I_add, I_sub, I_mul, inB, beq_iff_eq, or_false, false_or, u1_ne, u1_same, nd_u1, nd_u1s, lpS_u1, Bool.or_eq_true, Bool.or_false, Bool.false_or, bI_z, mnI_I, mxI_I, k0, h0, kpk, pk_v, k136, hpos]
      rw [e136]
      by_cases hs4 : same4 S (lpS S n i) (6028 + 4 * i)
      · rw [if_pos hs4]
        unfold same4 at hs4
        have hx := hqi.mpr hs4
        repeat' (first | with_reducible apply And.intro | intro _)
        all_goals try (clear kK; omega)
        all_goals first | omega | rfl | skip
      · rw [if_neg hs4]
        have hx : pkv (S (6028 + 4 * i)) (S (6028 + 4 * i + 1)) (S (6028 + 4 * i + 2)) (S (6028 + 4 * i + 3)) ≠ pkv (S (lpS S n i)) (S (lpS S n i + 1)) (S (lpS S n i + 2)) (S (lpS S n i + 3)) := fun q => hs4 (hqi.mp q)
        repeat' (first | with_reducible apply And.intro | intro _)
        all_goals try (clear kK; omega)
        all_goals first | omega | rfl | skip
  simp (disch := omega) only [ev_s, evN_ap, List.getElem?_cons_zero, List.getElem?_cons_succ, List.set_cons_zero, List.set_cons_succ, Bool.false_eq_true, ↓reduceIte, qrest_n, qrest_1, qrest_2, qrest_3, qrest_4, qrest_5, qrest_6, qtr_i, qtr_r, true_and, and_true, List.length_cons, List.length_nil, Int.cast_ofNat_Int, Int32.toInt_zero, false_implies, true_implies, not_false_eq_true, not_true_eq_false, Option.toList_some, Option.toList_none, List.cons_append, List.nil_append, Nat.reduceBEq, Nat.reduceEqDiff, Bool.or_self, or_self, Nat.reduceAdd, Nat.reduceLT, Nat.zero_add, Int.reduceAdd, Int.reduceLE, Int.reduceLT, Int.reduceEq, and_self, Int.reduceNeg, qrok_i, qrok_b0, qrok_b1, qrok_bI, Option.some.injEq, Value.int.injEq, J_bI0, J_bI1, Classical.not_not, Int.zero_add, Int.add_zero, Int.sub_zero, false_and, and_false, and_true, true_and, e_0, v_0, e_1, v_1, e_2, v_2, e_6, v_6, e_10, v_10, e_13, v_13, e_14, v_14, e_15, v_15, e_19, v_19, e_20, v_20, e_21, v_21, e_24, v_24, e_25, v_25, e_36, v_36, e_41, e_45, qspl_z, qspl_s, evC_s, evD_none, evD_v, evD_s, c_0, c_1, c_2, c_5, b_0, smL_153, sw_T_isKey, smL_162, sw_T_kindOf, smL_163, sw_T_firstOf, smL_164, sw_T_secondOf, r_World_seeHeld_0, r_World_seeHeld_1, r_World_seeHeld_4, r_World_seeHeld_7, r_World_seeHeld_8, r_World_seeHeld_11, r_World_seeHeld_14, r_World_seeHeld_17, r_World_seeHeld_18, r_World_seeHeld_21, r_World_seeHeld_22, r_World_seeHeld_25, r_World_seeHeld_26, r_World_seeHeld_29, r_World_seeHeld_30, r_World_seeHeld_31, r_World_seeHeld_32, r_World_seeHeld_35, r_World_seeHeld_36, r_World_seeHeld_39, r_World_seeHeld_42, r_World_seeHeld_43, r_World_seeHeld_44, r_World_seeHeld_47, r_World_seeHeld_48, r_World_seeHeld_49, r_World_seeHeld_52, r_World_seeHeld_53, r_World_seeHeld_56, r_World_seeHeld_57, r_World_seeHeld_58, r_World_seeHeld_59, r_World_seeHeld_60, r_World_seeHeld_61, r_World_seeHeld_64, r_World_seeHeld_65, r_World_seeHeld_66, r_World_seeHeld_69, r_World_seeHeld_70, r_World_seeHeld_71, r_World_seeHeld_74, r_World_seeHeld_75, r_World_seeHeld_78, r_World_seeHeld_81, r_World_seeHeld_84, r_World_seeHeld_85, r_World_seeHeld_88, r_World_seeHeld_89, r_World_seeHeld_90, r_World_seeHeld_91, r_World_seeHeld_94, r_World_seeHeld_95, r_World_seeHeld_96, r_World_seeHeld_99, r_World_seeHeld_100, r_World_seeHeld_101, r_World_seeHeld_104, sv_k hS, sv_0 hS, sv_1 hS, sv_k1 hS, sv_n hS, sv_2 hS, sv_k2 hS, sv_b, sv_4, sv_5 hS, sv_k7 hS, sv_r hS, sv_kr hS, sv_7 hS, sv_k8 hS, sv_10 hS, sv_k9 hS, sv_11 hS, sv_k10 hS, sn_k hS, sn_4 hS, sn_k1 hS, sn_6 hS, sn_k2 hS, sn_24 hS, sn_k3 hS, sn_9 hS, sn_k4 hS, sn_13 hS, sn_k5 hS, sn_14 hS, sn_k6 hS, sn_15 hS, sn_k7 hS, sl_k hS, sl_2 hS, sl_k4 hS, sl_3 hS, sl_k5 hS, sl_4 hS, sl_k6 hS, sl_5 hS, sl_k7 hS, rn_0, rn_1, rn_2, rn_3, rn_5, rn_7, rn_8, rn_10, rn_11, rn_12, rn_16, rn_17, rn_log, rn_20, rn_21, rn_22, rn_23, rn_sk, rn_key, rn_next, rn_match, rn_heard, rw_3, rw_6, rw_8, rw_9, rw_12, rw_13, rw_14, rw_15, rw_he, rw_ld, rw_cu, rr_0, rr_1, rr_2, rr_3, rr_4, rr_5, su_2, su_8, su_10, su_12, su_16, su_17, su_20, su_21, su_22, su_23, su_sk, su_key, su_next, su_match, su_heard, su_3m, su_3, su_11m, su_11, su_7, sw_3, sw_8, sw_12, sw_13, sw_14, sw_15, sw_ld, sw_cu, sr_0, sr_5, I_val, I_add, I_sub, I_mul, inB, beq_iff_eq, or_false, false_or, u1_ne, u1_same, nd_u1, nd_u1s, lpS_u1, Bool.or_eq_true, Bool.or_false, Bool.false_or, bI_z, mnI_I, mxI_I, kdO_I hp, fsO_I hp, scO_I hp]
  by_cases hk : S (lpS S n i + 1) = 0
  · have h7 := e5 hk
    rw [show seK S n (lpS S n i) = u1 S (244 * n + (15 + S (lpS S n i + 2))) (S (lpS S n i + 3)) by unfold seK; rw [if_pos hk]] at tail
    repeat' (first | with_reducible apply And.intro | intro _)
    all_goals try (clear kK; omega)
    all_goals first | omega | skip
    rw [su_key hw hn (by omega)]
    exact kK _ _ _ _ tail
  · rw [show seK S n (lpS S n i) = S by unfold seK; rw [if_neg hk]] at tail
    repeat' (first | with_reducible apply And.intro | intro _)
    all_goals try (clear kK; omega)
    all_goals first | omega | exact kK _ _ _ _ tail
theorem LC_raiseCommit (hd : 5 ≤ d) (hw : 8 ≤ w ∧ w ≤ 1462) (hS : ShW s w) (hn : 0 ≤ n ∧ n ≤ 6) {x : Int} (hx : -1000 ≤ x) : ∀ (j : Nat) (i : Int) (S : qN), (i + j = x + 1 ∨ (j = 0 ∧ x < i)) → nd S n 4 < i → i ≤ 1000 → x ≤ nd S n 4 + nd S n 8 → OK R S → Q none (mkH s (jn (mkC w (u1 (gcS n j i S) (244 * n + 9) (max (nd (gcS n j i S) n 9) x)) g) r)) →
    G l V mi_World_raiseCommit (rm d) 0 0 Q 0 0 7 [.ref w, .ref (ndA w n 0), .int (Int32.ofInt x), .int (Int32.ofInt i)] [] (mkH s (jn (mkC w S g) r)) := by
  intro j
  induction j with
  | zero =>
    intro i S h1 h2 h3 h4 ho hQ
    obtain ⟨-, n3, n4, n5, n6⟩ := OK_nOk ho hn
    obtain ⟨k1, k2⟩ := OK_kOk ho hn
    rw [gcS] at hQ
    refine G_ev ok_World_raiseCommit (smL_ok (d := d - 1) (by omega)) (fun pc => pc == 7) 200 (by omega) (fun K kK => ?_)
    simp (disch := omega) only [ev_s, evN_ap, List.getElem?_cons_zero, List.getElem?_cons_succ, List.set_cons_zero, List.set_cons_succ, Bool.false_eq_true, ↓reduceIte, qrest_n, qrest_1, qrest_2, qrest_3, qrest_4, qrest_5, qrest_6, qtr_i, qtr_r, true_and, and_true, List.length_cons, List.length_nil, Int.cast_ofNat_Int, Int32.toInt_zero, false_implies, true_implies, not_false_eq_true, not_true_eq_false, Option.toList_some, Option.toList_none, List.cons_append, List.nil_append, Nat.reduceBEq, Nat.reduceEqDiff, Bool.or_self, or_self, Nat.reduceAdd, Nat.reduceLT, Nat.zero_add, Int.reduceAdd, Int.reduceLE, Int.reduceLT, Int.reduceEq, and_self, Int.reduceNeg, qrok_i, qrok_b0, qrok_b1, qrok_bI, Option.some.injEq, Value.int.injEq, J_bI0, J_bI1, Classical.not_not, Int.zero_add, Int.add_zero, Int.sub_zero, false_and, and_false, and_true, true_and, e_0, v_0, e_1, v_1, e_2, v_2, e_3, v_3, e_5, v_5, e_6, v_6, e_13, v_13, e_15, v_15, e_19, v_19, e_21, v_21, e_36, v_36, e_41, e_44, qspl_z, qspl_s, evC_s, evD_none, evD_v, evD_s, c_4, b_0, smL_35, sw_Node_entry, (smL_no (k := 105) rfl), r_World_raiseCommit_0, r_World_raiseCommit_1, r_World_raiseCommit_4, r_World_raiseCommit_5, r_World_raiseCommit_6, r_World_raiseCommit_7, r_World_raiseCommit_8, r_World_raiseCommit_9, r_World_raiseCommit_12, r_World_raiseCommit_13, r_World_raiseCommit_14, r_World_raiseCommit_15, r_World_raiseCommit_16, r_World_raiseCommit_17, r_World_raiseCommit_20, r_World_raiseCommit_23, r_World_raiseCommit_26, r_World_raiseCommit_29, r_World_raiseCommit_30, r_World_raiseCommit_31, r_World_raiseCommit_34, r_World_raiseCommit_35, r_World_raiseCommit_38, r_World_raiseCommit_41, sv_k hS, sv_0 hS, sv_1 hS, sv_k1 hS, sv_n hS, sv_2 hS, sv_k2 hS, sv_b, sv_4, sv_5 hS, sv_k7 hS, sv_r hS, sv_kr hS, sv_7 hS, sv_k8 hS, sv_10 hS, sv_k9 hS, sv_11 hS, sv_k10 hS, sn_k hS, sn_4 hS, sn_k1 hS, sn_6 hS, sn_k2 hS, sn_24 hS, sn_k3 hS, sn_9 hS, sn_k4 hS, sn_13 hS, sn_k5 hS, sn_14 hS, sn_k6 hS, sn_15 hS, sn_k7 hS, sl_k hS, sl_2 hS, sl_k4 hS, sl_3 hS, sl_k5 hS, sl_4 hS, sl_k6 hS, sl_5 hS, sl_k7 hS, rn_0, rn_1, rn_2, rn_3, rn_5, rn_7, rn_8, rn_10, rn_11, rn_12, rn_16, rn_17, rn_log, rn_20, rn_21, rn_22, rn_23, rn_sk, rn_key, rn_next, rn_match, rn_heard, rw_3, rw_6, rw_8, rw_9, rw_12, rw_13, rw_14, rw_15, rw_he, rw_ld, rw_cu, rr_0, rr_1, rr_2, rr_3, rr_4, rr_5, su_2, su_8, su_10, su_12, su_16, su_17, su_20, su_21, su_22, su_23, su_sk, su_key, su_next, su_match, su_heard, su_3m, su_3, su_11m, su_11, su_7, sw_3, sw_8, sw_12, sw_13, sw_14, sw_15, sw_ld, sw_cu, sr_0, sr_5, I_val, I_add, I_sub, I_mul, inB, beq_iff_eq, or_false, false_or, u1_ne, u1_same, nd_u1, nd_u1s, lpS_u1, Bool.or_eq_true, Bool.or_false, Bool.false_or, bI_z, mnI_I, mxI_I, mxJ]
    repeat' (first | with_reducible apply And.intro | intro _)
    all_goals try (clear kK; omega)
    all_goals first | omega | exact hQ
  | succ j ih =>
    intro i S h1 h2 h3 h4 ho hQ
    obtain ⟨-, n3, n4, n5, n6⟩ := OK_nOk ho hn
    have hE : hasE S n i := ⟨h2, by omega⟩
    rw [gcS, if_pos hE] at hQ
    refine G_ev ok_World_raiseCommit (smL_ok (d := d - 1) (by omega)) (fun pc => pc == 7) 200 (by omega) (fun K kK => ?_)
    simp (disch := omega) only [ev_s, evN_ap, List.getElem?_cons_zero, List.getElem?_cons_succ, List.set_cons_zero, List.set_cons_succ, Bool.false_eq_true, ↓reduceIte, qrest_n, qrest_1, qrest_2, qrest_3, qrest_4, qrest_5, qrest_6, qtr_i, qtr_r, true_and, and_true, List.length_cons, List.length_nil, Int.cast_ofNat_Int, Int32.toInt_zero, false_implies, true_implies, not_false_eq_true, not_true_eq_false, Option.toList_some, Option.toList_none, List.cons_append, List.nil_append, Nat.reduceBEq, Nat.reduceEqDiff, Bool.or_self, or_self, Nat.reduceAdd, Nat.reduceLT, Nat.zero_add, Int.reduceAdd, Int.reduceLE, Int.reduceLT, Int.reduceEq, and_self, Int.reduceNeg, qrok_i, qrok_b0, qrok_b1, qrok_bI, Option.some.injEq, Value.int.injEq, J_bI0, J_bI1, Classical.not_not, Int.zero_add, Int.add_zero, Int.sub_zero, false_and, and_false, and_true, true_and, e_0, v_0, e_1, v_1, e_2, v_2, e_3, v_3, e_5, v_5, e_6, v_6, e_13, v_13, e_15, v_15, e_19, v_19, e_21, v_21, e_36, v_36, e_41, e_44, qspl_z, qspl_s, evC_s, evD_none, evD_v, evD_s, c_4, b_0, smL_35, sw_Node_entry, (smL_no (k := 105) rfl), r_World_raiseCommit_0, r_World_raiseCommit_1, r_World_raiseCommit_4, r_World_raiseCommit_5, r_World_raiseCommit_6, r_World_raiseCommit_7, r_World_raiseCommit_8, r_World_raiseCommit_9, r_World_raiseCommit_12, r_World_raiseCommit_13, r_World_raiseCommit_14, r_World_raiseCommit_15, r_World_raiseCommit_16, r_World_raiseCommit_17, r_World_raiseCommit_20, r_World_raiseCommit_23, r_World_raiseCommit_26, r_World_raiseCommit_29, r_World_raiseCommit_30, r_World_raiseCommit_31, r_World_raiseCommit_34, r_World_raiseCommit_35, r_World_raiseCommit_38, r_World_raiseCommit_41, sv_k hS, sv_0 hS, sv_1 hS, sv_k1 hS, sv_n hS, sv_2 hS, sv_k2 hS, sv_b, sv_4, sv_5 hS, sv_k7 hS, sv_r hS, sv_kr hS, sv_7 hS, sv_k8 hS, sv_10 hS, sv_k9 hS, sv_11 hS, sv_k10 hS, sn_k hS, sn_4 hS, sn_k1 hS, sn_6 hS, sn_k2 hS, sn_24 hS, sn_k3 hS, sn_9 hS, sn_k4 hS, sn_13 hS, sn_k5 hS, sn_14 hS, sn_k6 hS, sn_15 hS, sn_k7 hS, sl_k hS, sl_2 hS, sl_k4 hS, sl_3 hS, sl_k5 hS, sl_4 hS, sl_k6 hS, sl_5 hS, sl_k7 hS, rn_0, rn_1, rn_2, rn_3, rn_5, rn_7, rn_8, rn_10, rn_11, rn_12, rn_16, rn_17, rn_log, rn_20, rn_21, rn_22, rn_23, rn_sk, rn_key, rn_next, rn_match, rn_heard, rw_3, rw_6, rw_8, rw_9, rw_12, rw_13, rw_14, rw_15, rw_he, rw_ld, rw_cu, rr_0, rr_1, rr_2, rr_3, rr_4, rr_5, su_2, su_8, su_10, su_12, su_16, su_17, su_20, su_21, su_22, su_23, su_sk, su_key, su_next, su_match, su_heard, su_3m, su_3, su_11m, su_11, su_7, sw_3, sw_8, sw_12, sw_13, sw_14, sw_15, sw_ld, sw_cu, sr_0, sr_5, I_val, I_add, I_sub, I_mul, inB, beq_iff_eq, or_false, false_or, u1_ne, u1_same, nd_u1, nd_u1s, lpS_u1, Bool.or_eq_true, Bool.or_false, Bool.false_or, bI_z, mnI_I, mxI_I, enI_S hw hS ho]
    repeat' (first | with_reducible apply And.intro | intro _)
    all_goals try (clear kK; omega)
    all_goals first | omega | skip
    refine kK _ _ _ _ (GCD ok_World_raiseCommit r_World_raiseCommit_20 ⟨by decide, by decide⟩ qm_World_seeHeld (C_World_seeHeld (d := d - 1) (i := i) (by omega) hw hS hn ho hE rfl) rfl rfl (fun _ => by first | exact rcN hS (by omega) | exact rcW hS | exact rcG hS (by assumption) | exact rcL hS | exact rcN2 hS (by omega) | exact rcG2 hS (by assumption)) rfl (Nat.le_of_ble_eq_true rfl) (by omega) ?_)
    refine G_ev ok_World_raiseCommit (smL_ok (d := d - 1) (by omega)) (fun pc => pc == 7) 200 (by omega) (fun K kK => ?_)
    simp (disch := omega) only [ev_s, evN_ap, List.getElem?_cons_zero, List.getElem?_cons_succ, List.set_cons_zero, List.set_cons_succ, Bool.false_eq_true, ↓reduceIte, qrest_n, qrest_1, qrest_2, qrest_3, qrest_4, qrest_5, qrest_6, qtr_i, qtr_r, true_and, and_true, List.length_cons, List.length_nil, Int.cast_ofNat_Int, Int32.toInt_zero, false_implies, true_implies, not_false_eq_true, not_true_eq_false, Option.toList_some, Option.toList_none, List.cons_append, List.nil_append, Nat.reduceBEq, Nat.reduceEqDiff, Bool.or_self, or_self, Nat.reduceAdd, Nat.reduceLT, Nat.zero_add, Int.reduceAdd, Int.reduceLE, Int.reduceLT, Int.reduceEq, and_self, Int.reduceNeg, qrok_i, qrok_b0, qrok_b1, qrok_bI, Option.some.injEq, Value.int.injEq, J_bI0, J_bI1, Classical.not_not, Int.zero_add, Int.add_zero, Int.sub_zero, false_and, and_false, and_true, true_and, e_0, v_0, e_1, v_1, e_2, v_2, e_3, v_3, e_5, v_5, e_6, v_6, e_13, v_13, e_15, v_15, e_19, v_19, e_21, v_21, e_36, v_36, e_41, e_44, qspl_z, qspl_s, evC_s, evD_none, evD_v, evD_s, c_4, b_0, smL_35, sw_Node_entry, (smL_no (k := 105) rfl), r_World_raiseCommit_0, r_World_raiseCommit_1, r_World_raiseCommit_4, r_World_raiseCommit_5, r_World_raiseCommit_6, r_World_raiseCommit_7, r_World_raiseCommit_8, r_World_raiseCommit_9, r_World_raiseCommit_12, r_World_raiseCommit_13, r_World_raiseCommit_14, r_World_raiseCommit_15, r_World_raiseCommit_16, r_World_raiseCommit_17, r_World_raiseCommit_20, r_World_raiseCommit_23, r_World_raiseCommit_26, r_World_raiseCommit_29, r_World_raiseCommit_30, r_World_raiseCommit_31, r_World_raiseCommit_34, r_World_raiseCommit_35, r_World_raiseCommit_38, r_World_raiseCommit_41, sv_k hS, sv_0 hS, sv_1 hS, sv_k1 hS, sv_n hS, sv_2 hS, sv_k2 hS, sv_b, sv_4, sv_5 hS, sv_k7 hS, sv_r hS, sv_kr hS, sv_7 hS, sv_k8 hS, sv_10 hS, sv_k9 hS, sv_11 hS, sv_k10 hS, sn_k hS, sn_4 hS, sn_k1 hS, sn_6 hS, sn_k2 hS, sn_24 hS, sn_k3 hS, sn_9 hS, sn_k4 hS, sn_13 hS, sn_k5 hS, sn_14 hS, sn_k6 hS, sn_15 hS, sn_k7 hS, sl_k hS, sl_2 hS, sl_k4 hS, sl_3 hS, sl_k5 hS, sl_4 hS, sl_k6 hS, sl_5 hS, sl_k7 hS, rn_0, rn_1, rn_2, rn_3, rn_5, rn_7, rn_8, rn_10, rn_11, rn_12, rn_16, rn_17, rn_log, rn_20, rn_21, rn_22, rn_23, rn_sk, rn_key, rn_next, rn_match, rn_heard, rw_3, rw_6, rw_8, rw_9, rw_12, rw_13, rw_14, rw_15, rw_he, rw_ld, rw_cu, rr_0, rr_1, rr_2, rr_3, rr_4, rr_5, su_2, su_8, su_10, su_12, su_16, su_17, su_20, su_21, su_22, su_23, su_sk, su_key, su_next, su_match, su_heard, su_3m, su_3, su_11m, su_11, su_7, sw_3, sw_8, sw_12, sw_13, sw_14, sw_15, sw_ld, sw_cu, sr_0, sr_5, I_val, I_add, I_sub, I_mul, inB, beq_iff_eq, or_false, false_or, u1_ne, u1_same, nd_u1, nd_u1s, lpS_u1, Bool.or_eq_true, Bool.or_false, Bool.false_or, bI_z, mnI_I, mxI_I]
    have e4 := seS_nd ho hn hE.1 hE.2 (e := 4) (by omega)
    have e8 := seS_nd ho hn hE.1 hE.2 (e := 8) (by omega)
    exact kK _ _ _ _ (ih (i + 1) (seS S n i) (by omega) (by omega) (by omega) (by omega) (OK_se ho hn hE.1 hE.2) hQ)
set_option maxHeartbeats 2000000 in
set_option maxRecDepth 100000 in
theorem C_World_raiseCommit (hd : 6 ≤ d) (hw : 8 ≤ w ∧ w ≤ 1462) (hS : ShW s w) {n x : Int} (hn : 0 ≤ n ∧ n ≤ 6) (ho : OK R S) (hx : -1000 ≤ x ∧ x ≤ nd S n 4 + nd S n 8) : T l V mi_World_raiseCommit (rm d) 0 0 [.ref w, .ref (ndA w n 0), .int (Int32.ofInt x)] (mkH s (jn (mkC w S g) r)) (fun v h' => v = none ∧ h' = mkH s (jn (mkC w (groS S n x) g) r)) := by
  refine T_ev qm_World_raiseCommit [.ref w, .ref (ndA w n 0), .int (Int32.ofInt x), .retAddr 0] rfl rfl (Nat.le_of_ble_eq_true rfl) ok_World_raiseCommit (smL_ok (d := d - 1) (by omega)) (fun pc => pc == 7) 200 (by omega) (fun K kK => ?_)
  obtain ⟨-, n3, n4, n5, n6⟩ := OK_nOk ho hn
  obtain ⟨k1, k2⟩ := OK_kOk ho hn
  simp (disch := omega) only [ev_s, evN_ap, List.getElem?_cons_zero, List.getElem?_cons_succ, List.set_cons_zero, List.set_cons_succ, Bool.false_eq_true, ↓reduceIte, qrest_n, qrest_1, qrest_2, qrest_3, qrest_4, qrest_5, qrest_6, qtr_i, qtr_r, true_and, and_true, List.length_cons, List.length_nil, Int.cast_ofNat_Int, Int32.toInt_zero, false_implies, true_implies, not_false_eq_true, not_true_eq_false, Option.toList_some, Option.toList_none, List.cons_append, List.nil_append, Nat.reduceBEq, Nat.reduceEqDiff, Bool.or_self, or_self, Nat.reduceAdd, Nat.reduceLT, Nat.zero_add, Int.reduceAdd, Int.reduceLE, Int.reduceLT, Int.reduceEq, and_self, Int.reduceNeg, qrok_i, qrok_b0, qrok_b1, qrok_bI, Option.some.injEq, Value.int.injEq, J_bI0, J_bI1, Classical.not_not, Int.zero_add, Int.add_zero, Int.sub_zero, false_and, and_false, and_true, true_and, e_0, v_0, e_1, v_1, e_2, v_2, e_3, v_3, e_5, v_5, e_6, v_6, e_13, v_13, e_15, v_15, e_19, v_19, e_21, v_21, e_36, v_36, e_41, e_44, qspl_z, qspl_s, evC_s, evD_none, evD_v, evD_s, c_4, b_0, smL_35, sw_Node_entry, (smL_no (k := 105) rfl), r_World_raiseCommit_0, r_World_raiseCommit_1, r_World_raiseCommit_4, r_World_raiseCommit_5, r_World_raiseCommit_6, r_World_raiseCommit_7, r_World_raiseCommit_8, r_World_raiseCommit_9, r_World_raiseCommit_12, r_World_raiseCommit_13, r_World_raiseCommit_14, r_World_raiseCommit_15, r_World_raiseCommit_16, r_World_raiseCommit_17, r_World_raiseCommit_20, r_World_raiseCommit_23, r_World_raiseCommit_26, r_World_raiseCommit_29, r_World_raiseCommit_30, r_World_raiseCommit_31, r_World_raiseCommit_34, r_World_raiseCommit_35, r_World_raiseCommit_38, r_World_raiseCommit_41, sv_k hS, sv_0 hS, sv_1 hS, sv_k1 hS, sv_n hS, sv_2 hS, sv_k2 hS, sv_b, sv_4, sv_5 hS, sv_k7 hS, sv_r hS, sv_kr hS, sv_7 hS, sv_k8 hS, sv_10 hS, sv_k9 hS, sv_11 hS, sv_k10 hS, sn_k hS, sn_4 hS, sn_k1 hS, sn_6 hS, sn_k2 hS, sn_24 hS, sn_k3 hS, sn_9 hS, sn_k4 hS, sn_13 hS, sn_k5 hS, sn_14 hS, sn_k6 hS, sn_15 hS, sn_k7 hS, sl_k hS, sl_2 hS, sl_k4 hS, sl_3 hS, sl_k5 hS, sl_4 hS, sl_k6 hS, sl_5 hS, sl_k7 hS, rn_0, rn_1, rn_2, rn_3, rn_5, rn_7, rn_8, rn_10, rn_11, rn_12, rn_16, rn_17, rn_log, rn_20, rn_21, rn_22, rn_23, rn_sk, rn_key, rn_next, rn_match, rn_heard, rw_3, rw_6, rw_8, rw_9, rw_12, rw_13, rw_14, rw_15, rw_he, rw_ld, rw_cu, rr_0, rr_1, rr_2, rr_3, rr_4, rr_5, su_2, su_8, su_10, su_12, su_16, su_17, su_20, su_21, su_22, su_23, su_sk, su_key, su_next, su_match, su_heard, su_3m, su_3, su_11m, su_11, su_7, sw_3, sw_8, sw_12, sw_13, sw_14, sw_15, sw_ld, sw_cu, sr_0, sr_5, I_val, I_add, I_sub, I_mul, inB, beq_iff_eq, or_false, false_or, u1_ne, u1_same, nd_u1, nd_u1s, lpS_u1, Bool.or_eq_true, Bool.or_false, Bool.false_or, bI_z, mnI_I, mxI_I]
  exact kK _ _ _ _ (LC_raiseCommit (by omega) hw hS hn (by omega) (x - nd S n 9).toNat (nd S n 9 + 1) S (by omega) (by omega) (by omega) (by omega) ho ⟨rfl, rfl⟩)
end CS
