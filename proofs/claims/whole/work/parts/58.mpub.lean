/-! ticks; what founds, crashes, comes up -/
noncomputable def otS (L : qL) (S : qN) : qN := if S 11131 < 9999 then tkS L S else S
noncomputable def tsS (L : qL) : Nat → qN → qN
  | 0, S => S
  | j + 1, S => tsS L j (otS L S)
/-- the row at rest -/
def RSt (S : qN) : Prop := OK (7 * S 11131 + S 11135 + 1) S ∧ TKs S
section OKs
variable {R : Int} {S : qN} {n : Int} {L : qL}
theorem fr_ng (h : OK R S) (hn : 0 ≤ n ∧ n ≤ 6) (hl : LwOK L) (hR : R + 1 ≤ 90000) (ht : 1 ≤ nd S n 10 ∧ nd S n 14 ≤ 2) : ngS L S n 11131 = S 11131 ∧ ngS L S n 11135 = S 11135 := by
  have c := (OK_n h hn).2.2.1
  have c10 := c.1
  have c14 := c.2.2.2.2
  have hu : OK R (u1 S (244 * n + 14) (nd S n 14 + 1)) := OK_cell h hn (by omega) (by unfold cOKv; omega)
  have hv : OK R (u1 S (244 * n + 10) (nd S n 10 - 1)) := OK_cell h hn (by omega) (by unfold cOKv; omega)
  unfold ngS; split
  · split
    · exact ⟨u1_ne (by omega), u1_ne (by omega)⟩
    · have a := Ap_sa (OK_ask0 hu hn hR) hn hl
      unfold askS
      exact ⟨by rw [a.1, u1_ne (by omega), u1_ne (by omega), u1_ne (by omega)], by rw [a.2.2.2.2, u1_ne (by omega), u1_ne (by omega), u1_ne (by omega)]⟩
  · split
    · have a := Ap_st hv hn hl
      exact ⟨by rw [a.1, u1_ne (by omega)], by rw [a.2.2.2.2, u1_ne (by omega)]⟩
    · exact ⟨u1_ne (by omega), u1_ne (by omega)⟩
theorem fr_nl (hl : LwOK L) : ∀ (j : Nat) (n : Int) (R : Int) (S : qN), n + j = 7 → 0 ≤ n → R + j ≤ 90000 → OK R S → TKs S → nlF L j n S 11131 = S 11131 ∧ nlF L j n S 11135 = S 11135
  | 0, n, R, S, _, _, _, h, ht => ⟨rfl, rfl⟩
  | j + 1, n, R, S, hj, h0, hR, h, ht => by
    rw [nlF]
    split
    · have a := fr_nl hl j (n + 1) (R + 1) _ (by omega) (by omega) (by omega) (OK_ng h (by omega) hl (by omega) (ht n (by omega) (by omega))) (TK_ng h (by omega) hl (by omega) ht).1
      have b := fr_ng h (n := n) (by omega) hl (by omega) (ht n (by omega) (by omega))
      exact ⟨a.1.trans b.1, a.2.trans b.2⟩
    · exact fr_nl hl j (n + 1) (R + 1) _ (by omega) (by omega) (by omega) (OK_mono h (by omega) (by omega)) ht
theorem fr_hl (hl : LwOK L) : ∀ (j : Nat) (S : qN), OK R S → hlS L j S 11131 = S 11131 ∧ hlS L j S 11135 = S 11135
  | 0, _, h => ⟨rfl, rfl⟩
  | j + 1, S, h => by
    rw [hlS]; split
    · exact ⟨rfl, rfl⟩
    · rename_i q
      have hr := tdI_rng h q
      have a := Ap_hd (OK_rmM h hr) (nrm_ok (OK_m h hr.1 hr.2)) hl
      have b := fr_hl hl j _ (hstep h q hl)
      exact ⟨by rw [b.1, a.1]; exact rm_off (OK_g h) hr (by omega) (by omega), by rw [b.2, a.2.2.2.2]; exact rm_off (OK_g h) hr (by omega) (by omega)⟩
theorem fr_tk (h : OK R S) (hl : LwOK L) (ht : TKs S) (hR : R + 7 ≤ 90000) (h9 : S 11131 < 9999) : tkS L S 11131 = S 11131 + 1 ∧ tkS L S 11135 = S 11135 := by
  have h0 := OK_tick0 h h9
  have t0 : TKs (u1 S 11131 (S 11131 + 1)) := TKs_tk ht (Tk_lo (fun j hj => u1_ne (by omega)))
  have a := fr_hl hl (S 11133).toNat _ h0
  have b := fr_nl hl 7 0 R _ (by omega) (by omega) (by omega) (OK_hl hl (S 11133).toNat _ h0) (TKs_tk t0 (Tk_hl hl (S 11133).toNat _ h0))
  unfold tkS
  exact ⟨by rw [b.1, a.1, u1_same], by rw [b.2, a.2, u1_ne (by omega)]⟩
theorem RSt_tk (h : RSt S) (hl : LwOK L) (h9 : S 11131 < 9999) : RSt (tkS L S) := by
  have g := OK_g h.1
  have g1 := g.1
  have g5 := g.2.2.2.2.1
  have a := OK_tk h.1 hl h.2 (by omega) h9
  have b := fr_tk h.1 hl h.2 (by omega) h9
  refine ⟨?_, a.2⟩
  rw [b.1, b.2]
  rw [show 7 * (S 11131 + 1) + S 11135 + 1 = 7 * S 11131 + S 11135 + 1 + 7 by omega]
  exact a.1
theorem RSt_ot (h : RSt S) (hl : LwOK L) : RSt (otS L S) := by
  unfold otS; split
  · exact RSt_tk h hl (by assumption)
  · exact h
theorem RSt_R (h : RSt S) : 7 * S 11131 + S 11135 + 1 + 7 ≤ 90000 := by
  have g1 := (OK_g h.1).1
  have g5 := (OK_g h.1).2.2.2.2.1
  omega
end OKs
section MS
variable {l : Launch} {V : qV} {d : Nat} {s : qS} {c r r0 : qI} {R n : Int} {Q : Option Value → qH → Prop}
set_option maxHeartbeats 2000000 in
set_option maxRecDepth 100000 in
theorem T_M_oneTick (hd : 21 ≤ d) (hs : ShMs s) (ho : RSt (r 2199)) (hL : LOK r) : TY l V d mi_M_oneTick [.ref 2198] s c r (some (.int (bI (r 2199 11131 < 9999)))) (otS (lwR r) (r 2199)) := by
  refine T_ev qm_M_oneTick [.ref 2198] rfl rfl (Nat.le_of_ble_eq_true rfl) ok_M_oneTick (smE_ok (d := d - 1) (by omega)) (fun pc => pc == 16) 200 (by omega) (fun K kK => ?_)
  have hm := OK_sm ho.1
  have g1 := (OK_g ho.1).1
  have hR := RSt_R ho
  by_cases q : r 2199 11131 < 9999
  · have e0 : otS (lwR r) (r 2199) = tkS (lwR r) (r 2199) := by unfold otS; rw [if_pos q]
    simp (disch := omega) only [ev_s, evN_ap, List.getElem?_cons_zero, List.getElem?_cons_succ, List.set_cons_zero, List.set_cons_succ, Bool.false_eq_true, ↓reduceIte, qrest_n, qrest_1, qrest_2, qrest_3, qrest_4, qrest_5, qrest_6, qtr_i, qtr_r, true_and, and_true, List.length_cons, List.length_nil, Int.cast_ofNat_Int, Int32.toInt_zero, false_implies, true_implies, not_false_eq_true, not_true_eq_false, Option.toList_some, Option.toList_none, List.cons_append, List.nil_append, Nat.reduceBEq, Nat.reduceEqDiff, Bool.or_self, or_self, Nat.reduceAdd, Nat.reduceLT, Nat.zero_add, Int.reduceAdd, Int.reduceLE, Int.reduceLT, Int.reduceEq, and_self, Int.reduceNeg, qrok_i, qrok_b0, qrok_b1, qrok_bI, Option.some.injEq, Value.int.injEq, J_bI0, J_bI1, Classical.not_not, Int.zero_add, Int.add_zero, Int.sub_zero, false_and, and_false, and_true, true_and, e_0, v_0, e_2, v_2, e_15, v_15, e_20, v_20, e_24, v_24, e_40, e_44, qspl_z, qspl_s, evC_s, evD_none, evD_v, evD_s, c_2, (smE_no (k := 259) rfl), r_M_oneTick_0, r_M_oneTick_1, r_M_oneTick_4, r_M_oneTick_7, r_M_oneTick_8, r_M_oneTick_11, r_M_oneTick_14, r_M_oneTick_15, r_M_oneTick_16, r_M_oneTick_17, r_M_oneTick_20, r_M_oneTick_21, (shS_o hs), (shS_r_now hs), (shS_k_now hs), nA_mk, lpI_mk, mnI_I, mxI_I, I_val, I_add, I_sub, I_mul, ShM_mk, hs, ndB_I, hM_jr, inB, smv hm, smn hm, bI_z, Bool.or_eq_true, Bool.or_false, Bool.false_or, beq_iff_eq, or_false, false_or, set_jA, uA_uA, uA_same, uA_ne, u1_ne, u1_same, nd_u1, nd_u1s, lpS_u1]
    refine ⟨fun _ => kK _ _ _ _ ?_, fun z => absurd q z⟩
    clear kK K
    refine G_ev ok_M_oneTick (smE_ok (d := d - 1) (by omega)) (fun _ => false) 200 (by omega) (fun K kK => ?_)
    simp (disch := omega) only [ev_s, evN_ap, List.getElem?_cons_zero, List.getElem?_cons_succ, List.set_cons_zero, List.set_cons_succ, Bool.false_eq_true, ↓reduceIte, qrest_n, qrest_1, qrest_2, qrest_3, qrest_4, qrest_5, qrest_6, qtr_i, qtr_r, true_and, and_true, List.length_cons, List.length_nil, Int.cast_ofNat_Int, Int32.toInt_zero, false_implies, true_implies, not_false_eq_true, not_true_eq_false, Option.toList_some, Option.toList_none, List.cons_append, List.nil_append, Nat.reduceBEq, Nat.reduceEqDiff, Bool.or_self, or_self, Nat.reduceAdd, Nat.reduceLT, Nat.zero_add, Int.reduceAdd, Int.reduceLE, Int.reduceLT, Int.reduceEq, and_self, Int.reduceNeg, qrok_i, qrok_b0, qrok_b1, qrok_bI, Option.some.injEq, Value.int.injEq, J_bI0, J_bI1, Classical.not_not, Int.zero_add, Int.add_zero, Int.sub_zero, false_and, and_false, and_true, true_and, e_0, v_0, e_2, v_2, e_15, v_15, e_20, v_20, e_24, v_24, e_40, e_44, qspl_z, qspl_s, evC_s, evD_none, evD_v, evD_s, c_2, (smE_no (k := 259) rfl), r_M_oneTick_0, r_M_oneTick_1, r_M_oneTick_4, r_M_oneTick_7, r_M_oneTick_8, r_M_oneTick_11, r_M_oneTick_14, r_M_oneTick_15, r_M_oneTick_16, r_M_oneTick_17, r_M_oneTick_20, r_M_oneTick_21, (shS_o hs), (shS_r_now hs), (shS_k_now hs), nA_mk, lpI_mk, mnI_I, mxI_I, I_val, I_add, I_sub, I_mul, ShM_mk, hs, ndB_I, hM_jr, inB, smv hm, smn hm, bI_z, Bool.or_eq_true, Bool.or_false, Bool.false_or, beq_iff_eq, or_false, false_or, set_jA, uA_uA, uA_same, uA_ne, u1_ne, u1_same, nd_u1, nd_u1s, lpS_u1]
    refine kK _ _ _ _ (GCY ok_M_oneTick r_M_oneTick_17 ⟨by decide, by decide⟩ qm_M_tickGoes (T_M_tickGoes (d := d - 1) (by omega) hs ho.1 ho.2 hR q hL) rfl rfl (fun _ => rcM hs) rfl (Nat.le_of_ble_eq_true rfl) (by omega) (fun r1 e1 x1 => ?_))
    rw [← e0] at e1
    refine G_ev ok_M_oneTick (smE_ok (d := d - 1) (by omega)) (fun _ => false) 200 (by omega) (fun K kK => ?_)
    simp (disch := omega) only [ev_s, evN_ap, List.getElem?_cons_zero, List.getElem?_cons_succ, List.set_cons_zero, List.set_cons_succ, Bool.false_eq_true, ↓reduceIte, qrest_n, qrest_1, qrest_2, qrest_3, qrest_4, qrest_5, qrest_6, qtr_i, qtr_r, true_and, and_true, List.length_cons, List.length_nil, Int.cast_ofNat_Int, Int32.toInt_zero, false_implies, true_implies, not_false_eq_true, not_true_eq_false, Option.toList_some, Option.toList_none, List.cons_append, List.nil_append, Nat.reduceBEq, Nat.reduceEqDiff, Bool.or_self, or_self, Nat.reduceAdd, Nat.reduceLT, Nat.zero_add, Int.reduceAdd, Int.reduceLE, Int.reduceLT, Int.reduceEq, and_self, Int.reduceNeg, qrok_i, qrok_b0, qrok_b1, qrok_bI, Option.some.injEq, Value.int.injEq, J_bI0, J_bI1, Classical.not_not, Int.zero_add, Int.add_zero, Int.sub_zero, false_and, and_false, and_true, true_and, e_0, v_0, e_2, v_2, e_15, v_15, e_20, v_20, e_24, v_24, e_40, e_44, qspl_z, qspl_s, evC_s, evD_none, evD_v, evD_s, c_2, (smE_no (k := 259) rfl), r_M_oneTick_0, r_M_oneTick_1, r_M_oneTick_4, r_M_oneTick_7, r_M_oneTick_8, r_M_oneTick_11, r_M_oneTick_14, r_M_oneTick_15, r_M_oneTick_16, r_M_oneTick_17, r_M_oneTick_20, r_M_oneTick_21, (shS_o hs), (shS_r_now hs), (shS_k_now hs), nA_mk, lpI_mk, mnI_I, mxI_I, I_val, I_add, I_sub, I_mul, ShM_mk, hs, ndB_I, hM_jr, inB, smv hm, smn hm, bI_z, Bool.or_eq_true, Bool.or_false, Bool.false_or, beq_iff_eq, or_false, false_or, set_jA, uA_uA, uA_same, uA_ne, u1_ne, u1_same, nd_u1, nd_u1s, lpS_u1]
    exact ⟨q, r1, rfl, e1, x1⟩
  · have g : ∃ r', mkH s (jn c r) = mkH s (jn c r') ∧ r' 2199 = otS (lwR r) (r 2199) ∧ Ry r r' := ⟨r, rfl, by unfold otS; rw [if_neg q], Ry_rf r⟩
    simp (disch := omega) only [ev_s, evN_ap, List.getElem?_cons_zero, List.getElem?_cons_succ, List.set_cons_zero, List.set_cons_succ, Bool.false_eq_true, ↓reduceIte, qrest_n, qrest_1, qrest_2, qrest_3, qrest_4, qrest_5, qrest_6, qtr_i, qtr_r, true_and, and_true, List.length_cons, List.length_nil, Int.cast_ofNat_Int, Int32.toInt_zero, false_implies, true_implies, not_false_eq_true, not_true_eq_false, Option.toList_some, Option.toList_none, List.cons_append, List.nil_append, Nat.reduceBEq, Nat.reduceEqDiff, Bool.or_self, or_self, Nat.reduceAdd, Nat.reduceLT, Nat.zero_add, Int.reduceAdd, Int.reduceLE, Int.reduceLT, Int.reduceEq, and_self, Int.reduceNeg, qrok_i, qrok_b0, qrok_b1, qrok_bI, Option.some.injEq, Value.int.injEq, J_bI0, J_bI1, Classical.not_not, Int.zero_add, Int.add_zero, Int.sub_zero, false_and, and_false, and_true, true_and, e_0, v_0, e_2, v_2, e_15, v_15, e_20, v_20, e_24, v_24, e_40, e_44, qspl_z, qspl_s, evC_s, evD_none, evD_v, evD_s, c_2, (smE_no (k := 259) rfl), r_M_oneTick_0, r_M_oneTick_1, r_M_oneTick_4, r_M_oneTick_7, r_M_oneTick_8, r_M_oneTick_11, r_M_oneTick_14, r_M_oneTick_15, r_M_oneTick_16, r_M_oneTick_17, r_M_oneTick_20, r_M_oneTick_21, (shS_o hs), (shS_r_now hs), (shS_k_now hs), nA_mk, lpI_mk, mnI_I, mxI_I, I_val, I_add, I_sub, I_mul, ShM_mk, hs, ndB_I, hM_jr, inB, smv hm, smn hm, bI_z, Bool.or_eq_true, Bool.or_false, Bool.false_or, beq_iff_eq, or_false, false_or, set_jA, uA_uA, uA_same, uA_ne, u1_ne, u1_same, nd_u1, nd_u1s, lpS_u1]
    repeat' (first | with_reducible apply And.intro | intro _)
    all_goals first | assumption | contradiction | trivial | (exact q (by assumption)) | (exact kK _ _ _ _ g) | (exact g) | (clear kK; omega)
theorem Ry_29 {r : qI} {v : Int} : (∀ a, a ≠ 2198 → uA r 2198 (u1 (r 2198) 29 v) a = r a) ∧ (∀ k, k ≠ 29 → uA r 2198 (u1 (r 2198) 29 v) 2198 k = r 2198 k) := ⟨fun a ha => uA_ne ha, fun k hk => by rw [uA_same, u1_ne hk]⟩
theorem L_ticksGo (hd : 22 ≤ d) (hs : ShMs s) (hL : LOK r0) {n : Int} (hn : 0 ≤ n ∧ n ≤ 200) : ∀ (j : Nat) (k : Int) (r : qI), k + j = n → 0 ≤ k → Ry r0 r → RSt (r 2199) → (∀ r', r' 2199 = tsS (lwR r0) j (r 2199) → Ry r0 r' → Q none (mkH s (jn c r'))) →
    G l V mi_M_ticksGo (rm d) 0 0 Q 0 0 7 [.ref 2198, .int (Int32.ofInt n), .int (Int32.ofInt k)] [] (mkH s (jn c r)) := by
  intro j
  induction j with
  | zero =>
    intro k r hk k0 hx ho hQ
    have hm := OK_sm ho.1
    have := hQ r rfl hx
    refine G_ev ok_M_ticksGo (smE_ok (d := d - 1) (by omega)) (fun pc => pc == 7) 200 (by omega) (fun K kK => ?_)
    simp (disch := omega) only [ev_s, evN_ap, List.getElem?_cons_zero, List.getElem?_cons_succ, List.set_cons_zero, List.set_cons_succ, Bool.false_eq_true, ↓reduceIte, qrest_n, qrest_1, qrest_2, qrest_3, qrest_4, qrest_5, qrest_6, qtr_i, qtr_r, true_and, and_true, List.length_cons, List.length_nil, Int.cast_ofNat_Int, Int32.toInt_zero, false_implies, true_implies, not_false_eq_true, not_true_eq_false, Option.toList_some, Option.toList_none, List.cons_append, List.nil_append, Nat.reduceBEq, Nat.reduceEqDiff, Bool.or_self, or_self, Nat.reduceAdd, Nat.reduceLT, Nat.zero_add, Int.reduceAdd, Int.reduceLE, Int.reduceLT, Int.reduceEq, and_self, Int.reduceNeg, qrok_i, qrok_b0, qrok_b1, qrok_bI, Option.some.injEq, Value.int.injEq, J_bI0, J_bI1, Classical.not_not, Int.zero_add, Int.add_zero, Int.sub_zero, false_and, and_false, and_true, true_and, e_0, v_0, e_1, v_1, e_2, v_2, e_3, v_3, e_5, v_5, e_11, v_11, e_13, v_13, e_15, v_15, e_21, v_21, e_41, e_44, qspl_z, qspl_s, evC_s, evD_none, evD_v, evD_s, c_3, (smE_no (k := 262) rfl), r_M_ticksGo_0, r_M_ticksGo_1, r_M_ticksGo_2, r_M_ticksGo_5, r_M_ticksGo_6, r_M_ticksGo_7, r_M_ticksGo_8, r_M_ticksGo_9, r_M_ticksGo_12, r_M_ticksGo_13, r_M_ticksGo_16, r_M_ticksGo_17, r_M_ticksGo_20, r_M_ticksGo_23, (shS_o hs), (shS_r_now hs), (shS_k_now hs), nA_mk, lpI_mk, mnI_I, mxI_I, I_val, I_add, I_sub, I_mul, ShM_mk, hs, ndB_I, hM_jr, inB, smv hm, smn hm, bI_z, Bool.or_eq_true, Bool.or_false, Bool.false_or, beq_iff_eq, or_false, false_or, set_jA, uA_uA, uA_same, uA_ne, u1_ne, u1_same, nd_u1, nd_u1s, lpS_u1]
    repeat' (first | with_reducible apply And.intro | intro _)
    all_goals first | assumption | contradiction | trivial | (exact kK _ _ _ _ this) | (exact this) | (clear kK; omega)
  | succ j ih =>
    intro k r hk k0 hx ho hQ
    have hm := OK_sm ho.1
    refine G_ev ok_M_ticksGo (smE_ok (d := d - 1) (by omega)) (fun pc => pc == 7) 200 (by omega) (fun K kK => ?_)
    simp (disch := omega) only [ev_s, evN_ap, List.getElem?_cons_zero, List.getElem?_cons_succ, List.set_cons_zero, List.set_cons_succ, Bool.false_eq_true, ↓reduceIte, qrest_n, qrest_1, qrest_2, qrest_3, qrest_4, qrest_5, qrest_6, qtr_i, qtr_r, true_and, and_true, List.length_cons, List.length_nil, Int.cast_ofNat_Int, Int32.toInt_zero, false_implies, true_implies, not_false_eq_true, not_true_eq_false, Option.toList_some, Option.toList_none, List.cons_append, List.nil_append, Nat.reduceBEq, Nat.reduceEqDiff, Bool.or_self, or_self, Nat.reduceAdd, Nat.reduceLT, Nat.zero_add, Int.reduceAdd, Int.reduceLE, Int.reduceLT, Int.reduceEq, and_self, Int.reduceNeg, qrok_i, qrok_b0, qrok_b1, qrok_bI, Option.some.injEq, Value.int.injEq, J_bI0, J_bI1, Classical.not_not, Int.zero_add, Int.add_zero, Int.sub_zero, false_and, and_false, and_true, true_and, e_0, v_0, e_1, v_1, e_2, v_2, e_3, v_3, e_5, v_5, e_11, v_11, e_13, v_13, e_15, v_15, e_21, v_21, e_41, e_44, qspl_z, qspl_s, evC_s, evD_none, evD_v, evD_s, c_3, (smE_no (k := 262) rfl), r_M_ticksGo_0, r_M_ticksGo_1, r_M_ticksGo_2, r_M_ticksGo_5, r_M_ticksGo_6, r_M_ticksGo_7, r_M_ticksGo_8, r_M_ticksGo_9, r_M_ticksGo_12, r_M_ticksGo_13, r_M_ticksGo_16, r_M_ticksGo_17, r_M_ticksGo_20, r_M_ticksGo_23, (shS_o hs), (shS_r_now hs), (shS_k_now hs), nA_mk, lpI_mk, mnI_I, mxI_I, I_val, I_add, I_sub, I_mul, ShM_mk, hs, ndB_I, hM_jr, inB, smv hm, smn hm, bI_z, Bool.or_eq_true, Bool.or_false, Bool.false_or, beq_iff_eq, or_false, false_or, set_jA, uA_uA, uA_same, uA_ne, u1_ne, u1_same, nd_u1, nd_u1s, lpS_u1]
    refine ⟨fun z => absurd z (by omega), fun _ => ?_⟩
    refine kK _ _ _ _ (GCY ok_M_ticksGo r_M_ticksGo_13 ⟨by decide, by decide⟩ qm_M_oneTick (T_M_oneTick (d := d - 1) (by omega) hs ho (Ry_LOK hx hL)) rfl rfl (fun _ => rcM hs) rfl (Nat.le_of_ble_eq_true rfl) (by omega) (fun r1 e1 x1 => ?_))
    rw [Ry_lw hx hL] at e1
    have g := ih (k + 1) r1 (by omega) (by omega) (Ry_tr hx x1) (by rw [e1]; exact RSt_ot ho lwR_ok) (by rw [e1]; exact hQ)
    refine G_ev ok_M_ticksGo (smE_ok (d := d - 1) (by omega)) (fun pc => pc == 7) 200 (by omega) (fun K kK => ?_)
    simp (disch := omega) only [ev_s, evN_ap, List.getElem?_cons_zero, List.getElem?_cons_succ, List.set_cons_zero, List.set_cons_succ, Bool.false_eq_true, ↓reduceIte, qrest_n, qrest_1, qrest_2, qrest_3, qrest_4, qrest_5, qrest_6, qtr_i, qtr_r, true_and, and_true, List.length_cons, List.length_nil, Int.cast_ofNat_Int, Int32.toInt_zero, false_implies, true_implies, not_false_eq_true, not_true_eq_false, Option.toList_some, Option.toList_none, List.cons_append, List.nil_append, Nat.reduceBEq, Nat.reduceEqDiff, Bool.or_self, or_self, Nat.reduceAdd, Nat.reduceLT, Nat.zero_add, Int.reduceAdd, Int.reduceLE, Int.reduceLT, Int.reduceEq, and_self, Int.reduceNeg, qrok_i, qrok_b0, qrok_b1, qrok_bI, Option.some.injEq, Value.int.injEq, J_bI0, J_bI1, Classical.not_not, Int.zero_add, Int.add_zero, Int.sub_zero, false_and, and_false, and_true, true_and, e_0, v_0, e_1, v_1, e_2, v_2, e_3, v_3, e_5, v_5, e_11, v_11, e_13, v_13, e_15, v_15, e_21, v_21, e_41, e_44, qspl_z, qspl_s, evC_s, evD_none, evD_v, evD_s, c_3, (smE_no (k := 262) rfl), r_M_ticksGo_0, r_M_ticksGo_1, r_M_ticksGo_2, r_M_ticksGo_5, r_M_ticksGo_6, r_M_ticksGo_7, r_M_ticksGo_8, r_M_ticksGo_9, r_M_ticksGo_12, r_M_ticksGo_13, r_M_ticksGo_16, r_M_ticksGo_17, r_M_ticksGo_20, r_M_ticksGo_23, (shS_o hs), (shS_r_now hs), (shS_k_now hs), nA_mk, lpI_mk, mnI_I, mxI_I, I_val, I_add, I_sub, I_mul, ShM_mk, hs, ndB_I, hM_jr, inB, smv hm, smn hm, bI_z, Bool.or_eq_true, Bool.or_false, Bool.false_or, beq_iff_eq, or_false, false_or, set_jA, uA_uA, uA_same, uA_ne, u1_ne, u1_same, nd_u1, nd_u1s, lpS_u1]
    repeat' (first | with_reducible apply And.intro | intro _)
    all_goals first | assumption | contradiction | trivial | (exact kK _ _ _ _ g) | (exact g) | (clear kK; omega)
/-- the answer of ticks: how many were held in them -/
theorem hv_id {r : qI} {v : Int} : uA (uA r 2198 (u1 (r 2198) 29 v)) 2198 (r 2198) = r := by
  rw [uA_uA, uA_self]
set_option maxHeartbeats 2000000 in
set_option maxRecDepth 100000 in
theorem T_M_ticksGo (hd : 22 ≤ d) (hs : ShMs s) {n : Int} (hn : 0 ≤ n ∧ n ≤ 200) (ho : RSt (r 2199)) (hL : LOK r) : T l V mi_M_ticksGo (rm d) 0 0 [.ref 2198, .int (Int32.ofInt n)] (mkH s (jn c r)) (fun v h' => v = none ∧ ∃ r', h' = mkH s (jn c r') ∧ r' 2199 = tsS (lwR r) n.toNat (r 2199) ∧ (∀ a, a ≠ 2199 → a ≠ 2202 → a ≠ 2203 → a ≠ 2216 → a ≠ 2217 → a ≠ 2198 → r' a = r a) ∧ (∀ k, k ≠ 29 → r' 2198 k = r 2198 k) ∧ r' 2198 29 = hcnt (r' 2199) - hcnt (r 2199)) := by
  refine T_ev qm_M_ticksGo [.ref 2198, .int (Int32.ofInt n), .retAddr 0] rfl rfl (Nat.le_of_ble_eq_true rfl) ok_M_ticksGo (smE_ok (d := d - 1) (by omega)) (fun pc => pc == 7) 200 (by omega) (fun K kK => ?_)
  have hm := OK_sm ho.1
  have hl : ∀ f, (∀ k, k ≠ 29 → f k = r 2198 k) → LOK (uA r 2198 f) ∧ lwR (uA r 2198 f) = lwR r := by
    intro f hf
    constructor
    · unfold LOK LOKq
      rw [uA_same, hf 15 (by omega), uA_ne (by omega), uA_ne (by omega), uA_ne (by omega), uA_ne (by omega), uA_ne (by omega)]
      exact hL
    · funext F
      exact lwR_c (fun a a1 a2 => uA_ne (by omega)) (by rw [uA_same, hf 15 (by omega)]) hL (fun _ _ _ => rfl)
  have hf : ∀ k, k ≠ 29 → u1 (r 2198) 29 0 k = r 2198 k := fun k hk => u1_ne hk
  simp (disch := omega) only [ev_s, evN_ap, List.getElem?_cons_zero, List.getElem?_cons_succ, List.set_cons_zero, List.set_cons_succ, Bool.false_eq_true, ↓reduceIte, qrest_n, qrest_1, qrest_2, qrest_3, qrest_4, qrest_5, qrest_6, qtr_i, qtr_r, true_and, and_true, List.length_cons, List.length_nil, Int.cast_ofNat_Int, Int32.toInt_zero, false_implies, true_implies, not_false_eq_true, not_true_eq_false, Option.toList_some, Option.toList_none, List.cons_append, List.nil_append, Nat.reduceBEq, Nat.reduceEqDiff, Bool.or_self, or_self, Nat.reduceAdd, Nat.reduceLT, Nat.zero_add, Int.reduceAdd, Int.reduceLE, Int.reduceLT, Int.reduceEq, and_self, Int.reduceNeg, qrok_i, qrok_b0, qrok_b1, qrok_bI, Option.some.injEq, Value.int.injEq, J_bI0, J_bI1, Classical.not_not, Int.zero_add, Int.add_zero, Int.sub_zero, false_and, and_false, and_true, true_and, e_0, v_0, e_1, v_1, e_2, v_2, e_3, v_3, e_5, v_5, e_11, v_11, e_13, v_13, e_15, v_15, e_21, v_21, e_41, e_44, qspl_z, qspl_s, evC_s, evD_none, evD_v, evD_s, c_3, (smE_no (k := 262) rfl), r_M_ticksGo_0, r_M_ticksGo_1, r_M_ticksGo_2, r_M_ticksGo_5, r_M_ticksGo_6, r_M_ticksGo_7, r_M_ticksGo_8, r_M_ticksGo_9, r_M_ticksGo_12, r_M_ticksGo_13, r_M_ticksGo_16, r_M_ticksGo_17, r_M_ticksGo_20, r_M_ticksGo_23, (shS_o hs), (shS_r_now hs), (shS_k_now hs), nA_mk, lpI_mk, mnI_I, mxI_I, I_val, I_add, I_sub, I_mul, ShM_mk, hs, ndB_I, hM_jr, inB, smv hm, smn hm, bI_z, Bool.or_eq_true, Bool.or_false, Bool.false_or, beq_iff_eq, or_false, false_or, set_jA, uA_uA, uA_same, uA_ne, u1_ne, u1_same, nd_u1, nd_u1s, lpS_u1]
  refine kK _ _ _ _ (L_ticksGo (by omega) hs (hl _ hf).1 hn n.toNat 0 _ (by omega) (by omega) (Ry_rf _) (by rw [uA_ne (by omega)]; exact ho) (fun r' e1 x1 => ⟨rfl, r', rfl, ?_, fun a a1 a2 a3 a4 a5 a6 => ?_, fun k hk => ?_, ?_⟩))
  · rw [e1, (hl _ hf).2, uA_ne (by omega)]
  · rw [x1.1 a a1 a2 a3 a4 a5 a6, uA_ne a6]
  · rw [x1.2.1 k hk, uA_same, hf k hk]
  · have := x1.2.2
    rw [uA_same, u1_same, uA_ne (by omega)] at this
    omega
end MS
