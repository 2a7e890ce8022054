/-! calls that change: found, crash, comeUp, compact, ticks, seed -/
noncomputable def rfd (L : qL) (S : qN) (w : Int) : qN := if 1 ≤ w ∧ w ≤ 127 then fdS L S w else S
noncomputable def rcr (S : qN) (n : Int) : qN := if (0 ≤ n ∧ n ≤ 6) ∧ nd S n 0 = 1 then u1 (foS S n (-1)) (244 * n + 0) 0 else S
def up1 (S : qN) (n : Int) : qN := u1 (u1 (u1 (u1 (u1 S (244 * n + 0) 1) (244 * n + 9) (nd S n 4)) (244 * n + 12) 0) (244 * n + 13) 0) (244 * n + 14) 0
def upK (S : qN) (n k : Int) : qN := fun j => if 244 * n + 15 ≤ j ∧ j < 244 * n + 15 + k then S (j + 8) else S j
noncomputable def rup (L : qL) (S : qN) (n : Int) : qN := if (0 ≤ n ∧ n ≤ 6) ∧ nd S n 0 ≠ 1 then tmS L (upK (up1 S n) n 8) n else S
noncomputable def rcm (S : qN) (n : Int) : qN := if ((0 ≤ n ∧ n ≤ 6) ∧ nd S n 0 = 1) ∧ nd S n 9 ≠ nd S n 4 then cmS S n else S
noncomputable def rtk (L : qL) (S : qN) (n : Int) : qN := if 1 ≤ n ∧ n ≤ 200 then tsS L n.toNat S else S
theorem upK_0 {S : qN} {n : Int} : upK S n 0 = S := by funext j; unfold upK; rw [if_neg (by omega)]
theorem upK_s {S : qN} {n k : Int} (hk : 0 ≤ k ∧ k < 8) : u1 (upK S n k) (244 * n + (15 + k)) (nd (upK S n k) n (23 + k)) = upK S n (k + 1) := by
  funext j
  unfold u1 nd upK
  by_cases h : j = 244 * n + (15 + k)
  · rw [if_pos h, if_neg (by omega), if_pos (by omega)]; congr 1; omega
  · rw [if_neg h]
    by_cases h2 : 244 * n + 15 ≤ j ∧ j < 244 * n + 15 + k
    · rw [if_pos h2, if_pos (by omega)]
    · rw [if_neg h2, if_neg (by omega)]
section OKs
variable {R : Int} {S : qN} {n : Int} {L : qL}
theorem RSt_same {S' : qN} (h : RSt S) (h1 : OK (7 * S 11131 + S 11135 + 1) S') (h2 : S' 11131 = S 11131 ∧ S' 11135 = S 11135) (h3 : TKs S') : RSt S' := by
  unfold RSt; rw [h2.1, h2.2]; exact ⟨h1, h3⟩
theorem fo_fr (h : OK R S) (hn : 0 ≤ n ∧ n ≤ 6) {w : Int} : foS S n w 11131 = S 11131 ∧ foS S n w 11135 = S 11135 := ⟨(Ap_fo h hn).1, (Ap_fo h hn).2.2.2.2⟩
theorem RSt_cr (h : RSt S) : RSt (rcr S n) := by
  unfold rcr; split
  · rename_i q
    have hn := q.1
    have h1 := OK_fo h.1 hn (w := -1) (by omega)
    refine RSt_same h (OK_cell h1 hn (by omega) (by unfold cOKv; omega)) ⟨by rw [u1_ne (by omega)]; exact (fo_fr h.1 hn).1, by rw [u1_ne (by omega)]; exact (fo_fr h.1 hn).2⟩ (fun m m1 m2 => ?_)
    rw [nd_u1 (by omega), nd_u1 (by omega)]
    exact TKs_tk h.2 (Tk_fo hn) m m1 m2
  · exact h
theorem up1_nd (hn : 0 ≤ n ∧ n ≤ 6) {m e : Int} (he : 0 ≤ e ∧ e < 244) (hm : 0 ≤ m ∧ m ≤ 6) (h : m ≠ n ∨ e ≠ 0 ∧ e ≠ 9 ∧ e ≠ 12 ∧ e ≠ 13 ∧ e ≠ 14) : nd (up1 S n) m e = nd S m e := by
  unfold up1; rw [nd_u1 (by omega), nd_u1 (by omega), nd_u1 (by omega), nd_u1 (by omega), nd_u1 (by omega)]
theorem OK_up1 (h : OK R S) (hn : 0 ≤ n ∧ n ≤ 6) : OK R (up1 S n) := by
  have hR := OK_R h
  have hb := (OK_n h hn).2.1.1
  have h1 := OK_cell h hn (e := 0) (v := 1) (by omega) (by unfold cOKv; omega)
  have e4 : nd (u1 S (244 * n + 0) 1) n 4 = nd S n 4 := nd_u1 (by omega)
  have e8 : nd (u1 S (244 * n + 0) 1) n 8 = nd S n 8 := nd_u1 (by omega)
  have h2 := OK_cell h1 hn (e := 9) (v := nd S n 4) (by omega) (by unfold cOKv; rw [e4, e8]; omega)
  have h3 := OK_cell h2 hn (e := 12) (v := 0) (by omega) (by unfold cOKv; omega)
  have h4 := OK_cell h3 hn (e := 13) (v := 0) (by omega) (by unfold cOKv; omega)
  exact OK_cell h4 hn (e := 14) (v := 0) (by omega) (by unfold cOKv; omega)
theorem upK_nd {e : Int} (he : e < 15 ∨ 23 ≤ e) : nd (upK S n 8) n e = nd S n e := by
  unfold nd upK; rw [if_neg (by omega)]
theorem upK_off {j k : Int} (hk : 0 ≤ k ∧ k ≤ 8) (hj : j < 244 * n ∨ 244 * n + 244 ≤ j) : upK S n k j = S j := by
  unfold upK; rw [if_neg (by omega)]
theorem OK_upK (h : OK R S) (hn : 0 ≤ n ∧ n ≤ 6) : OK R (upK S n 8) := by
  have hm := OK_sm h
  obtain ⟨A, B, C, ⟨d1, d2, d3, d4⟩, e1, e2⟩ := OK_n h hn
  have hsm : smS (upK S n 8) := by
    intro j hj
    unfold upK; split
    · exact hm _ (by omega)
    · exact hm j hj
  refine OK_off h hn (fun j hj => upK_off (by omega) hj) ?_ hsm
  have sc : ∀ e, e < 15 ∨ 23 ≤ e → nd (upK S n 8) n e = nd S n e := fun e he => upK_nd he
  refine ⟨?_, ?_, ?_, ⟨fun k k1 k2 => ?_, fun k k1 k2 => ?_, fun k k1 k2 => ?_, fun k k1 k2 => ?_⟩, fun k k1 k2 => ?_, ?_⟩
  · unfold NOKa; rw [sc 0 (by omega), sc 1 (by omega), sc 2 (by omega), sc 3 (by omega)]; exact A
  · unfold NOKb; rw [sc 4 (by omega), sc 5 (by omega), sc 6 (by omega), sc 7 (by omega), sc 8 (by omega), sc 9 (by omega)]; exact B
  · unfold NOKc; rw [sc 10 (by omega), sc 11 (by omega), sc 12 (by omega), sc 13 (by omega), sc 14 (by omega)]; exact C
  · by_cases q : k < 23
    · have := d1 (k + 8) (by omega) (by omega)
      unfold nd upK
      rw [if_pos (by omega)]
      unfold nd at this
      rw [show 244 * n + k + 8 = 244 * n + (k + 8) by omega]; exact this
    · rw [sc k (by omega)]; exact d1 k k1 k2
  · rw [sc k (by omega)]; exact d2 k k1 k2
  · rw [sc k (by omega)]; exact d3 k k1 k2
  · rw [sc k (by omega)]; exact d4 k k1 k2
  · rw [sc 8 (by omega)] at k2
    exact (EOK_c (fun q q1 q2 => sc _ (by omega))).mpr (e1 k k1 k2)
  · unfold NOKf; rw [sc 3 (by omega), sc 1 (by omega)]; exact ⟨fun q k k1 k2 => by rw [sc k (by omega)]; exact e2.1 q k k1 k2, e2.2⟩
theorem RSt_up (h : RSt S) (hl : LwOK L) : RSt (rup L S n) := by
  unfold rup; split
  · rename_i q
    have hn := q.1
    have h1 := OK_upK (OK_up1 h.1 hn) hn
    have e : ∀ j, 1708 ≤ j → upK (up1 S n) n 8 j = S j := fun j hj => by
      rw [upK_off (by omega) (by omega)]; unfold up1
      rw [u1_ne (by omega), u1_ne (by omega), u1_ne (by omega), u1_ne (by omega), u1_ne (by omega)]
    refine RSt_same h (OK_tm h1 hn hl) ⟨?_, ?_⟩ (fun m m1 m2 => ?_)
    · rw [(Ap_tm (L := L) h1 hn).1, e _ (by omega)]
    · rw [(Ap_tm (L := L) h1 hn).2.2.2.2, e _ (by omega)]
    · have ht := h.2 m m1 m2
      by_cases z : m = n
      · subst z
        refine ⟨tm_10 hl, ?_⟩
        rw [tm_nd (e := 14) hn hn (by omega) (by omega), upK_nd (e := 14) (by omega)]
        unfold up1; rw [nd_u1s]; omega
      · have v : ∀ e, 0 ≤ e ∧ e < 244 → nd (tmS L (upK (up1 S n) n 8) n) m e = nd S m e := fun e he => by
          rw [tm_nd hn ⟨m1, m2⟩ he (Or.inl z)]
          show upK _ _ _ _ = _
          rw [upK_off (by omega) (by omega)]
          exact up1_nd hn he ⟨m1, m2⟩ (Or.inl z)
        rw [v 10 (by omega), v 14 (by omega)]; exact ht
  · exact h
theorem RSt_cm (h : RSt S) : RSt (rcm S n) := by
  unfold rcm; split
  · rename_i q
    have hn := q.1.1
    have nk := OK_nOk h.1 hn
    have kk := OK_kOk h.1 hn
    refine RSt_same h (OK_cm h.1 hn) ⟨cmS_ne nk kk (by omega), cmS_ne nk kk (by omega)⟩ (fun m m1 m2 => ?_)
    have ht := h.2 m m1 m2
    by_cases z : m = n
    · subst z; rw [cmS_nd nk kk (by omega), cmS_nd nk kk (by omega)]; exact ht
    · have v : ∀ e, 0 ≤ e ∧ e < 244 → nd (cmS S n) m e = nd S m e := fun e he => cmS_ne nk kk (by omega)
      rw [v 10 (by omega), v 14 (by omega)]; exact ht
  · exact h
theorem RSt_ts (hl : LwOK L) : ∀ (j : Nat) (S : qN), RSt S → RSt (tsS L j S)
  | 0, _, h => h
  | j + 1, S, h => by rw [tsS]; exact RSt_ts hl j _ (RSt_ot h hl)
theorem RSt_tks (h : RSt S) (hl : LwOK L) : RSt (rtk L S n) := by
  unfold rtk; split
  · exact RSt_ts hl _ _ h
  · exact h
theorem RSt_rfd (h : RSt S) (hl : LwOK L) : RSt (rfd L S n) := by
  unfold rfd; split
  · exact RSt_fd (by omega) (OK_g h.1).2.1 (OK_sm h.1) hl
  · exact h
end OKs
section MS
variable {l : Launch} {V : qV} {d : Nat} {s : qS} {c r r0 : qI} {R n : Int} {Q : Option Value → qH → Prop}
set_option maxHeartbeats 2000000 in
set_option maxRecDepth 100000 in
theorem T_M_found (hd : 13 ≤ d) (hs : ShMs s) {w : Int} (hb : -2147483648 ≤ w ∧ w ≤ 2147483647) (ho : RSt (r 2199)) (hL : LOK r) : TZ l V d mi_M_found [.ref 2198, .int (Int32.ofInt w)] s c r (some (.int (bI (1 ≤ w ∧ w ≤ 127)))) (rfd (lwR r) (r 2199) w) := by
  refine T_ev qm_M_found [.ref 2198, .int (Int32.ofInt w)] rfl rfl (Nat.le_of_ble_eq_true rfl) ok_M_found (smE_ok (d := d - 1) (by omega)) (fun pc => pc == 12) 200 (by omega) (fun K kK => ?_)
  have hm := OK_sm ho.1
  by_cases q : 1 ≤ w ∧ w ≤ 127
  · have e0 : rfd (lwR r) (r 2199) w = fdS (lwR r) (r 2199) w := by unfold rfd; rw [if_pos q]
    have g : G l V mi_M_found (rm d) 0 0 (fun v' h' => v' = some (.int (bI (1 ≤ w ∧ w ≤ 127))) ∧ ∃ r', h' = mkH s (jn c r') ∧ r' 2199 = rfd (lwR r) (r 2199) w ∧ Rz r r') 0 0 12 [.ref 2198, .int (Int32.ofInt w)] [] (mkH s (jn c r)) := by
      clear kK K
      refine G_ev ok_M_found (smE_ok (d := d - 1) (by omega)) (fun _ => false) 200 (by omega) (fun K kK => ?_)
      simp (disch := omega) only [ev_s, evN_ap, List.getElem?_cons_zero, List.getElem?_cons_succ, List.set_cons_zero, List.set_cons_succ, Bool.false_eq_true, ↓reduceIte, qrest_n, qrest_1, qrest_2, qrest_3, qrest_4, qrest_5, qrest_6, qtr_i, qtr_r, true_and, and_true, List.length_cons, List.length_nil, Int.cast_ofNat_Int, Int32.toInt_zero, false_implies, true_implies, not_false_eq_true, not_true_eq_false, Option.toList_some, Option.toList_none, List.cons_append, List.nil_append, Nat.reduceBEq, Nat.reduceEqDiff, Bool.or_self, or_self, Nat.reduceAdd, Nat.reduceLT, Nat.zero_add, Int.reduceAdd, Int.reduceLE, Int.reduceLT, Int.reduceEq, and_self, Int.reduceNeg, qrok_i, qrok_b0, qrok_b1, qrok_bI, Option.some.injEq, Value.int.injEq, J_bI0, J_bI1, Classical.not_not, Int.zero_add, Int.add_zero, Int.sub_zero, false_and, and_false, and_true, true_and, e_0, v_0, e_1, v_1, e_2, v_2, e_14, v_14, e_40, e_44, e_45, qspl_z, qspl_s, evC_s, evD_none, evD_v, evD_s, c_1, smE_169, sw_M_in, (smE_no (k := 265) rfl), r_M_found_0, r_M_found_1, r_M_found_2, r_M_found_4, r_M_found_7, r_M_found_10, r_M_found_11, r_M_found_12, r_M_found_13, r_M_found_14, r_M_found_17, r_M_found_18, (shS_o hs), (shS_r_now hs), (shS_k_now hs), nA_mk, lpI_mk, mnI_I, mxI_I, I_val, I_add, I_sub, I_mul, ShM_mk, hs, ndB_I, hM_jr, inB, smv hm, smn hm, bI_z, Bool.or_eq_true, Bool.or_false, Bool.false_or, beq_iff_eq, or_false, false_or, set_jA, uA_uA, uA_same, uA_ne, u1_ne, u1_same, nd_u1, nd_u1s, lpS_u1]
      refine kK _ _ _ _ (GCZ ok_M_found r_M_found_14 ⟨by decide, by decide⟩ qm_M_founds (T_M_founds (d := d - 1) (by omega) hs (by omega) (OK_g ho.1).2.1 hm hL) rfl rfl (fun _ => rcM hs) rfl (Nat.le_of_ble_eq_true rfl) (by omega) (fun r1 e1 x1 => ?_))
      rw [← e0] at e1
      refine G_ev ok_M_found (smE_ok (d := d - 1) (by omega)) (fun _ => false) 200 (by omega) (fun K kK => ?_)
      simp (disch := omega) only [ev_s, evN_ap, List.getElem?_cons_zero, List.getElem?_cons_succ, List.set_cons_zero, List.set_cons_succ, Bool.false_eq_true, ↓reduceIte, qrest_n, qrest_1, qrest_2, qrest_3, qrest_4, qrest_5, qrest_6, qtr_i, qtr_r, true_and, and_true, List.length_cons, List.length_nil, Int.cast_ofNat_Int, Int32.toInt_zero, false_implies, true_implies, not_false_eq_true, not_true_eq_false, Option.toList_some, Option.toList_none, List.cons_append, List.nil_append, Nat.reduceBEq, Nat.reduceEqDiff, Bool.or_self, or_self, Nat.reduceAdd, Nat.reduceLT, Nat.zero_add, Int.reduceAdd, Int.reduceLE, Int.reduceLT, Int.reduceEq, and_self, Int.reduceNeg, qrok_i, qrok_b0, qrok_b1, qrok_bI, Option.some.injEq, Value.int.injEq, J_bI0, J_bI1, Classical.not_not, Int.zero_add, Int.add_zero, Int.sub_zero, false_and, and_false, and_true, true_and, e_0, v_0, e_1, v_1, e_2, v_2, e_14, v_14, e_40, e_44, e_45, qspl_z, qspl_s, evC_s, evD_none, evD_v, evD_s, c_1, smE_169, sw_M_in, (smE_no (k := 265) rfl), r_M_found_0, r_M_found_1, r_M_found_2, r_M_found_4, r_M_found_7, r_M_found_10, r_M_found_11, r_M_found_12, r_M_found_13, r_M_found_14, r_M_found_17, r_M_found_18, (shS_o hs), (shS_r_now hs), (shS_k_now hs), nA_mk, lpI_mk, mnI_I, mxI_I, I_val, I_add, I_sub, I_mul, ShM_mk, hs, ndB_I, hM_jr, inB, smv hm, smn hm, bI_z, Bool.or_eq_true, Bool.or_false, Bool.false_or, beq_iff_eq, or_false, false_or, set_jA, uA_uA, uA_same, uA_ne, u1_ne, u1_same, nd_u1, nd_u1s, lpS_u1]
      exact ⟨q, r1, rfl, e1, x1⟩
    simp (disch := omega) only [ev_s, evN_ap, List.getElem?_cons_zero, List.getElem?_cons_succ, List.set_cons_zero, List.set_cons_succ, Bool.false_eq_true, ↓reduceIte, qrest_n, qrest_1, qrest_2, qrest_3, qrest_4, qrest_5, qrest_6, qtr_i, qtr_r, true_and, and_true, List.length_cons, List.length_nil, Int.cast_ofNat_Int, Int32.toInt_zero, false_implies, true_implies, not_false_eq_true, not_true_eq_false, Option.toList_some, Option.toList_none, List.cons_append, List.nil_append, Nat.reduceBEq, Nat.reduceEqDiff, Bool.or_self, or_self, Nat.reduceAdd, Nat.reduceLT, Nat.zero_add, Int.reduceAdd, Int.reduceLE, Int.reduceLT, Int.reduceEq, and_self, Int.reduceNeg, qrok_i, qrok_b0, qrok_b1, qrok_bI, Option.some.injEq, Value.int.injEq, J_bI0, J_bI1, Classical.not_not, Int.zero_add, Int.add_zero, Int.sub_zero, false_and, and_false, and_true, true_and, e_0, v_0, e_1, v_1, e_2, v_2, e_14, v_14, e_40, e_44, e_45, qspl_z, qspl_s, evC_s, evD_none, evD_v, evD_s, c_1, smE_169, sw_M_in, (smE_no (k := 265) rfl), r_M_found_0, r_M_found_1, r_M_found_2, r_M_found_4, r_M_found_7, r_M_found_10, r_M_found_11, r_M_found_12, r_M_found_13, r_M_found_14, r_M_found_17, r_M_found_18, (shS_o hs), (shS_r_now hs), (shS_k_now hs), nA_mk, lpI_mk, mnI_I, mxI_I, I_val, I_add, I_sub, I_mul, ShM_mk, hs, ndB_I, hM_jr, inB, smv hm, smn hm, bI_z, Bool.or_eq_true, Bool.or_false, Bool.false_or, beq_iff_eq, or_false, false_or, set_jA, uA_uA, uA_same, uA_ne, u1_ne, u1_same, nd_u1, nd_u1s, lpS_u1]
    repeat' (first | with_reducible apply And.intro | intro _)
    all_goals first | assumption | contradiction | trivial | (exact kK _ _ _ _ g) | (exact g) | (clear kK; omega)
  · have g : ∃ r', mkH s (jn c r) = mkH s (jn c r') ∧ r' 2199 = rfd (lwR r) (r 2199) w ∧ Rz r r' := ⟨r, rfl, by unfold rfd; rw [if_neg q], Rz_rf r⟩
    simp (disch := omega) only [ev_s, evN_ap, List.getElem?_cons_zero, List.getElem?_cons_succ, List.set_cons_zero, List.set_cons_succ, Bool.false_eq_true, ↓reduceIte, qrest_n, qrest_1, qrest_2, qrest_3, qrest_4, qrest_5, qrest_6, qtr_i, qtr_r, true_and, and_true, List.length_cons, List.length_nil, Int.cast_ofNat_Int, Int32.toInt_zero, false_implies, true_implies, not_false_eq_true, not_true_eq_false, Option.toList_some, Option.toList_none, List.cons_append, List.nil_append, Nat.reduceBEq, Nat.reduceEqDiff, Bool.or_self, or_self, Nat.reduceAdd, Nat.reduceLT, Nat.zero_add, Int.reduceAdd, Int.reduceLE, Int.reduceLT, Int.reduceEq, and_self, Int.reduceNeg, qrok_i, qrok_b0, qrok_b1, qrok_bI, Option.some.injEq, Value.int.injEq, J_bI0, J_bI1, Classical.not_not, Int.zero_add, Int.add_zero, Int.sub_zero, false_and, and_false, and_true, true_and, e_0, v_0, e_1, v_1, e_2, v_2, e_14, v_14, e_40, e_44, e_45, qspl_z, qspl_s, evC_s, evD_none, evD_v, evD_s, c_1, smE_169, sw_M_in, (smE_no (k := 265) rfl), r_M_found_0, r_M_found_1, r_M_found_2, r_M_found_4, r_M_found_7, r_M_found_10, r_M_found_11, r_M_found_12, r_M_found_13, r_M_found_14, r_M_found_17, r_M_found_18, (shS_o hs), (shS_r_now hs), (shS_k_now hs), nA_mk, lpI_mk, mnI_I, mxI_I, I_val, I_add, I_sub, I_mul, ShM_mk, hs, ndB_I, hM_jr, inB, smv hm, smn hm, bI_z, Bool.or_eq_true, Bool.or_false, Bool.false_or, beq_iff_eq, or_false, false_or, set_jA, uA_uA, uA_same, uA_ne, u1_ne, u1_same, nd_u1, nd_u1s, lpS_u1]
    repeat' (first | with_reducible apply And.intro | intro _)
    all_goals first | assumption | contradiction | trivial | (exact q (by constructor <;> assumption)) | (exact kK _ _ _ _ g) | (exact g) | (clear kK; omega)
set_option maxHeartbeats 2000000 in
set_option maxRecDepth 100000 in
theorem T_M_crash (hd : 6 ≤ d) (hs : ShMs s) {n : Int} (hb : -2147483648 ≤ n ∧ n ≤ 2147483647) (ho : RSt (r 2199)) (hL : LOK r) : TZ l V d mi_M_crash [.ref 2198, .int (Int32.ofInt n)] s c r (some (.int (bI ((0 ≤ n ∧ n ≤ 6) ∧ nd (r 2199) n 0 = 1)))) (rcr (r 2199) n) := by
  refine T_ev qm_M_crash [.ref 2198, .int (Int32.ofInt n)] rfl rfl (Nat.le_of_ble_eq_true rfl) ok_M_crash (smE_ok (d := d - 1) (by omega)) (fun pc => pc == 10) 200 (by omega) (fun K kK => ?_)
  have hm := OK_sm ho.1
  by_cases q : (0 ≤ n ∧ n ≤ 6) ∧ nd (r 2199) n 0 = 1
  · have e0 : rcr (r 2199) n = u1 (foS (r 2199) n (-1)) (244 * n + 0) 0 := by unfold rcr; rw [if_pos q]
    have hn := q.1
    have g : G l V mi_M_crash (rm d) 0 0 (fun v' h' => v' = some (.int (bI ((0 ≤ n ∧ n ≤ 6) ∧ nd (r 2199) n 0 = 1))) ∧ ∃ r', h' = mkH s (jn c r') ∧ r' 2199 = rcr (r 2199) n ∧ Rz r r') 0 0 10 [.ref 2198, .int (Int32.ofInt n)] [] (mkH s (jn c r)) := by
      clear kK K
      refine G_ev ok_M_crash (smE_ok (d := d - 1) (by omega)) (fun _ => false) 200 (by omega) (fun K kK => ?_)
      simp (disch := omega) only [ev_s, evN_ap, List.getElem?_cons_zero, List.getElem?_cons_succ, List.set_cons_zero, List.set_cons_succ, Bool.false_eq_true, ↓reduceIte, qrest_n, qrest_1, qrest_2, qrest_3, qrest_4, qrest_5, qrest_6, qtr_i, qtr_r, true_and, and_true, List.length_cons, List.length_nil, Int.cast_ofNat_Int, Int32.toInt_zero, false_implies, true_implies, not_false_eq_true, not_true_eq_false, Option.toList_some, Option.toList_none, List.cons_append, List.nil_append, Nat.reduceBEq, Nat.reduceEqDiff, Bool.or_self, or_self, Nat.reduceAdd, Nat.reduceLT, Nat.zero_add, Int.reduceAdd, Int.reduceLE, Int.reduceLT, Int.reduceEq, and_self, Int.reduceNeg, qrok_i, qrok_b0, qrok_b1, qrok_bI, Option.some.injEq, Value.int.injEq, J_bI0, J_bI1, Classical.not_not, Int.zero_add, Int.add_zero, Int.sub_zero, false_and, and_false, and_true, true_and, e_0, v_0, e_1, v_1, e_2, v_2, e_14, v_14, e_40, e_44, qspl_z, qspl_s, evC_s, evD_none, evD_v, evD_s, c_1, smE_177, sw_M_sets, smE_178, sw_M_isUp, (smE_no (k := 233) rfl), r_M_crash_0, r_M_crash_1, r_M_crash_2, r_M_crash_5, r_M_crash_8, r_M_crash_9, r_M_crash_10, r_M_crash_11, r_M_crash_12, r_M_crash_13, r_M_crash_16, r_M_crash_17, r_M_crash_18, r_M_crash_19, r_M_crash_20, r_M_crash_23, r_M_crash_24, (shS_o hs), (shS_r_now hs), (shS_k_now hs), nA_mk, lpI_mk, mnI_I, mxI_I, I_val, I_add, I_sub, I_mul, ShM_mk, hs, ndB_I, hM_jr, inB, smv hm, smn hm, bI_z, Bool.or_eq_true, Bool.or_false, Bool.false_or, beq_iff_eq, or_false, false_or, set_jA, uA_uA, uA_same, uA_ne, u1_ne, u1_same, nd_u1, nd_u1s, lpS_u1]
      refine kK _ _ _ _ (GCR ok_M_crash r_M_crash_13 ⟨by decide, by decide⟩ qm_M_follows (T_follows (d := d - 1) (by omega) hs hn ho.1) rfl rfl (fun _ => rcM hs) rfl (Nat.le_of_ble_eq_true rfl) (by omega) (fun r1 e1 x1 => ?_))
      refine G_ev ok_M_crash (smE_ok (d := d - 1) (by omega)) (fun pc => pc == 10) 200 (by omega) (fun K kK => ?_)
      have hm := OK_sm (OK_fo ho.1 hn (w := -1) (by omega))
      rw [← e1] at hm
      simp (disch := omega) only [ev_s, evN_ap, List.getElem?_cons_zero, List.getElem?_cons_succ, List.set_cons_zero, List.set_cons_succ, Bool.false_eq_true, ↓reduceIte, qrest_n, qrest_1, qrest_2, qrest_3, qrest_4, qrest_5, qrest_6, qtr_i, qtr_r, true_and, and_true, List.length_cons, List.length_nil, Int.cast_ofNat_Int, Int32.toInt_zero, false_implies, true_implies, not_false_eq_true, not_true_eq_false, Option.toList_some, Option.toList_none, List.cons_append, List.nil_append, Nat.reduceBEq, Nat.reduceEqDiff, Bool.or_self, or_self, Nat.reduceAdd, Nat.reduceLT, Nat.zero_add, Int.reduceAdd, Int.reduceLE, Int.reduceLT, Int.reduceEq, and_self, Int.reduceNeg, qrok_i, qrok_b0, qrok_b1, qrok_bI, Option.some.injEq, Value.int.injEq, J_bI0, J_bI1, Classical.not_not, Int.zero_add, Int.add_zero, Int.sub_zero, false_and, and_false, and_true, true_and, e_0, v_0, e_1, v_1, e_2, v_2, e_14, v_14, e_40, e_44, qspl_z, qspl_s, evC_s, evD_none, evD_v, evD_s, c_1, smE_177, sw_M_sets, smE_178, sw_M_isUp, (smE_no (k := 233) rfl), r_M_crash_0, r_M_crash_1, r_M_crash_2, r_M_crash_5, r_M_crash_8, r_M_crash_9, r_M_crash_10, r_M_crash_11, r_M_crash_12, r_M_crash_13, r_M_crash_16, r_M_crash_17, r_M_crash_18, r_M_crash_19, r_M_crash_20, r_M_crash_23, r_M_crash_24, (shS_o hs), (shS_r_now hs), (shS_k_now hs), nA_mk, lpI_mk, mnI_I, mxI_I, I_val, I_add, I_sub, I_mul, ShM_mk, hs, ndB_I, hM_jr, inB, smv hm, smn hm, bI_z, Bool.or_eq_true, Bool.or_false, Bool.false_or, beq_iff_eq, or_false, false_or, set_jA, uA_uA, uA_same, uA_ne, u1_ne, u1_same, nd_u1, nd_u1s, lpS_u1]
      refine ⟨by omega, q, _, rfl, ?_, Rz_tr (Rz_x x1) Rz_n⟩
      rw [uA_same, e1, e0, Int.add_zero]
    by_cases hn : 0 ≤ n ∧ n ≤ 6
    · have A := (OK_n ho.1 hn).1.1
      simp (disch := omega) only [ev_s, evN_ap, List.getElem?_cons_zero, List.getElem?_cons_succ, List.set_cons_zero, List.set_cons_succ, Bool.false_eq_true, ↓reduceIte, qrest_n, qrest_1, qrest_2, qrest_3, qrest_4, qrest_5, qrest_6, qtr_i, qtr_r, true_and, and_true, List.length_cons, List.length_nil, Int.cast_ofNat_Int, Int32.toInt_zero, false_implies, true_implies, not_false_eq_true, not_true_eq_false, Option.toList_some, Option.toList_none, List.cons_append, List.nil_append, Nat.reduceBEq, Nat.reduceEqDiff, Bool.or_self, or_self, Nat.reduceAdd, Nat.reduceLT, Nat.zero_add, Int.reduceAdd, Int.reduceLE, Int.reduceLT, Int.reduceEq, and_self, Int.reduceNeg, qrok_i, qrok_b0, qrok_b1, qrok_bI, Option.some.injEq, Value.int.injEq, J_bI0, J_bI1, Classical.not_not, Int.zero_add, Int.add_zero, Int.sub_zero, false_and, and_false, and_true, true_and, e_0, v_0, e_1, v_1, e_2, v_2, e_14, v_14, e_40, e_44, qspl_z, qspl_s, evC_s, evD_none, evD_v, evD_s, c_1, smE_177, sw_M_sets, smE_178, sw_M_isUp, (smE_no (k := 233) rfl), r_M_crash_0, r_M_crash_1, r_M_crash_2, r_M_crash_5, r_M_crash_8, r_M_crash_9, r_M_crash_10, r_M_crash_11, r_M_crash_12, r_M_crash_13, r_M_crash_16, r_M_crash_17, r_M_crash_18, r_M_crash_19, r_M_crash_20, r_M_crash_23, r_M_crash_24, (shS_o hs), (shS_r_now hs), (shS_k_now hs), nA_mk, lpI_mk, mnI_I, mxI_I, I_val, I_add, I_sub, I_mul, ShM_mk, hs, ndB_I, hM_jr, inB, smv hm, smn hm, bI_z, Bool.or_eq_true, Bool.or_false, Bool.false_or, beq_iff_eq, or_false, false_or, set_jA, uA_uA, uA_same, uA_ne, u1_ne, u1_same, nd_u1, nd_u1s, lpS_u1]
      repeat' (first | with_reducible apply And.intro | intro _)
      all_goals first | assumption | contradiction | trivial | (exact kK _ _ _ _ g) | (exact g) | (clear kK; omega)
    · exact absurd q.1 hn
  · have g : ∃ r', mkH s (jn c r) = mkH s (jn c r') ∧ r' 2199 = rcr (r 2199) n ∧ Rz r r' := ⟨r, rfl, by unfold rcr; rw [if_neg q], Rz_rf r⟩
    by_cases hn : 0 ≤ n ∧ n ≤ 6
    · have A := (OK_n ho.1 hn).1.1
      simp (disch := omega) only [ev_s, evN_ap, List.getElem?_cons_zero, List.getElem?_cons_succ, List.set_cons_zero, List.set_cons_succ, Bool.false_eq_true, ↓reduceIte, qrest_n, qrest_1, qrest_2, qrest_3, qrest_4, qrest_5, qrest_6, qtr_i, qtr_r, true_and, and_true, List.length_cons, List.length_nil, Int.cast_ofNat_Int, Int32.toInt_zero, false_implies, true_implies, not_false_eq_true, not_true_eq_false, Option.toList_some, Option.toList_none, List.cons_append, List.nil_append, Nat.reduceBEq, Nat.reduceEqDiff, Bool.or_self, or_self, Nat.reduceAdd, Nat.reduceLT, Nat.zero_add, Int.reduceAdd, Int.reduceLE, Int.reduceLT, Int.reduceEq, and_self, Int.reduceNeg, qrok_i, qrok_b0, qrok_b1, qrok_bI, Option.some.injEq, Value.int.injEq, J_bI0, J_bI1, Classical.not_not, Int.zero_add, Int.add_zero, Int.sub_zero, false_and, and_false, and_true, true_and, e_0, v_0, e_1, v_1, e_2, v_2, e_14, v_14, e_40, e_44, qspl_z, qspl_s, evC_s, evD_none, evD_v, evD_s, c_1, smE_177, sw_M_sets, smE_178, sw_M_isUp, (smE_no (k := 233) rfl), r_M_crash_0, r_M_crash_1, r_M_crash_2, r_M_crash_5, r_M_crash_8, r_M_crash_9, r_M_crash_10, r_M_crash_11, r_M_crash_12, r_M_crash_13, r_M_crash_16, r_M_crash_17, r_M_crash_18, r_M_crash_19, r_M_crash_20, r_M_crash_23, r_M_crash_24, (shS_o hs), (shS_r_now hs), (shS_k_now hs), nA_mk, lpI_mk, mnI_I, mxI_I, I_val, I_add, I_sub, I_mul, ShM_mk, hs, ndB_I, hM_jr, inB, smv hm, smn hm, bI_z, Bool.or_eq_true, Bool.or_false, Bool.false_or, beq_iff_eq, or_false, false_or, set_jA, uA_uA, uA_same, uA_ne, u1_ne, u1_same, nd_u1, nd_u1s, lpS_u1]
      repeat' (first | with_reducible apply And.intro | intro _)
      all_goals first | assumption | contradiction | trivial | (exact kK _ _ _ _ g) | (exact g) | (clear kK; omega)
    · simp (disch := omega) only [ev_s, evN_ap, List.getElem?_cons_zero, List.getElem?_cons_succ, List.set_cons_zero, List.set_cons_succ, Bool.false_eq_true, ↓reduceIte, qrest_n, qrest_1, qrest_2, qrest_3, qrest_4, qrest_5, qrest_6, qtr_i, qtr_r, true_and, and_true, List.length_cons, List.length_nil, Int.cast_ofNat_Int, Int32.toInt_zero, false_implies, true_implies, not_false_eq_true, not_true_eq_false, Option.toList_some, Option.toList_none, List.cons_append, List.nil_append, Nat.reduceBEq, Nat.reduceEqDiff, Bool.or_self, or_self, Nat.reduceAdd, Nat.reduceLT, Nat.zero_add, Int.reduceAdd, Int.reduceLE, Int.reduceLT, Int.reduceEq, and_self, Int.reduceNeg, qrok_i, qrok_b0, qrok_b1, qrok_bI, Option.some.injEq, Value.int.injEq, J_bI0, J_bI1, Classical.not_not, Int.zero_add, Int.add_zero, Int.sub_zero, false_and, and_false, and_true, true_and, e_0, v_0, e_1, v_1, e_2, v_2, e_14, v_14, e_40, e_44, qspl_z, qspl_s, evC_s, evD_none, evD_v, evD_s, c_1, smE_177, sw_M_sets, smE_178, sw_M_isUp, (smE_no (k := 233) rfl), r_M_crash_0, r_M_crash_1, r_M_crash_2, r_M_crash_5, r_M_crash_8, r_M_crash_9, r_M_crash_10, r_M_crash_11, r_M_crash_12, r_M_crash_13, r_M_crash_16, r_M_crash_17, r_M_crash_18, r_M_crash_19, r_M_crash_20, r_M_crash_23, r_M_crash_24, (shS_o hs), (shS_r_now hs), (shS_k_now hs), nA_mk, lpI_mk, mnI_I, mxI_I, I_val, I_add, I_sub, I_mul, ShM_mk, hs, ndB_I, hM_jr, inB, smv hm, smn hm, bI_z, Bool.or_eq_true, Bool.or_false, Bool.false_or, beq_iff_eq, or_false, false_or, set_jA, uA_uA, uA_same, uA_ne, u1_ne, u1_same, nd_u1, nd_u1s, lpS_u1, hn]
      repeat' (first | with_reducible apply And.intro | intro _)
      all_goals first | assumption | contradiction | trivial | (exact kK _ _ _ _ g) | (exact g) | (clear kK; omega)
end MS
