/-! entries come: the first of a term; laid as told -/
noncomputable def ftF (S : qN) (n i : Int) : Nat → Int → Int
  | 0, f => f
  | j + 1, f => if nd S n 4 < f - 1 ∧ tAS S n (f - 1) = tAS S n i then ftF S n i j (f - 1) else f
noncomputable def ftS (S : qN) (n i : Int) : Int := if i = nd S n 4 then max 1 i else ftF S n i (i - nd S n 4).toNat i
def trS (S : qN) (n i : Int) : qN := if i ≤ nd S n 9 then u1 (u1 (u1 S (244 * n + 8) (i - nd S n 4 - 1)) 11136 (S 11136 + 1)) (244 * n + 9) (i - 1) else u1 S (244 * n + 8) (i - nd S n 4 - 1)
noncomputable def laS (S M : qN) (n i p : Int) : qN :=
  if i ≤ nd S n 4 then S else if i ≤ lastS S n then (if tAS S n i = M p then S else lyS (trS S n i) n (M p) (M (p + 1)) (M (p + 2)) (M (p + 3))) else lyS S n (M p) (M (p + 1)) (M (p + 2)) (M (p + 3))
noncomputable def laR (S M : qN) (n i p : Int) : Prop :=
  if i ≤ nd S n 4 then True else if i ≤ lastS S n then (if tAS S n i = M p then True else hasRoom (trS S n i) n) else hasRoom S n
section OKs
variable {R : Int} {S M : qN} {n : Int} {L : qL}
theorem ftF_rng {i : Int} (hb : 0 ≤ nd S n 4) : ∀ (j : Nat) (f : Int), nd S n 4 < f → f ≤ i → nd S n 4 < ftF S n i j f ∧ ftF S n i j f ≤ i
  | 0, f, h1, h2 => ⟨h1, h2⟩
  | j + 1, f, h1, h2 => by
    rw [ftF]; split
    · rename_i q; exact ftF_rng hb j (f - 1) q.1 (by omega)
    · exact ⟨h1, h2⟩
theorem ftS_rng {i : Int} (hb : 0 ≤ nd S n 4) (h1 : nd S n 4 ≤ i) (h2 : i ≤ 999) : 1 ≤ ftS S n i ∧ ftS S n i ≤ 999 := by
  unfold ftS; split
  · omega
  · have := ftF_rng (S := S) (n := n) (i := i) hb (i - nd S n 4).toNat i (by omega) (by omega)
    omega
theorem tr_nd {i m e : Int} (hn : 0 ≤ n ∧ n ≤ 6) (hm : 0 ≤ m ∧ m ≤ 6) (he : 0 ≤ e ∧ e < 244) (h : m ≠ n ∨ e ≠ 8 ∧ e ≠ 9) : nd (trS S n i) m e = nd S m e := by
  unfold trS; split
  · rw [nd_u1 (by omega), nd_u1 (by omega), nd_u1 (by omega)]
  · rw [nd_u1 (by omega)]
theorem tr_8 {i : Int} (hn : 0 ≤ n ∧ n ≤ 6) : nd (trS S n i) n 8 = i - nd S n 4 - 1 := by
  unfold trS; split
  · rw [nd_u1 (by omega), nd_u1 (by omega), nd_u1s]
  · rw [nd_u1s]
theorem tr_9 {i : Int} (hn : 0 ≤ n ∧ n ≤ 6) : nd (trS S n i) n 9 = if i ≤ nd S n 9 then i - 1 else nd S n 9 := by
  unfold trS; split
  · rw [nd_u1s]
  · rw [nd_u1 (by omega)]
theorem tr_ne {i j : Int} (hj : j < 244 * n ∨ 244 * n + 244 ≤ j) (h : j ≠ 11136) : trS S n i j = S j := by
  unfold trS; split
  · rw [u1_ne (by omega), u1_ne (by omega), u1_ne (by omega)]
  · rw [u1_ne (by omega)]
theorem tr_last {i : Int} (hn : 0 ≤ n ∧ n ≤ 6) : lastS (trS S n i) n = i - 1 := by
  unfold lastS; rw [tr_8 hn, tr_nd hn hn (by omega) (by omega)]; omega
theorem OK_tr (h : OK R S) (hn : 0 ≤ n ∧ n ≤ 6) {i : Int} (h1 : nd S n 4 < i) (h2 : i ≤ nd S n 4 + nd S n 8) : OK R (trS S n i) := by
  have hb := (OK_n h hn).2.1.1
  have hm := OK_sm h
  have sm : smS (trS S n i) := by
    unfold trS; split
    · exact smS_u1 (OK_smBr (smS_u1 hm (by omega) (by omega))) (by omega) (by omega)
    · exact smS_u1 hm (by omega) (by omega)
  have h3 : OK R (u1 S 11136 (trS S n i 11136)) := OK_br h
  have hoff : offN (u1 S 11136 (trS S n i 11136)) (trS S n i) n := by
    intro j hj
    by_cases q : j = 11136
    · subst q; rw [u1_same]
    · rw [tr_ne hj q, u1_ne q]
  obtain ⟨A, ⟨B1, B2, B3, B4, B5⟩, C, ⟨d1, d2, d3, d4⟩, e1, e2⟩ := OK_n h hn
  refine OK_off h3 hn hoff ?_ sm
  have w8 := tr_8 (S := S) (i := i) hn
  have w9 := tr_9 (S := S) (i := i) hn
  have sc : ∀ e, 0 ≤ e → e < 244 → e ≠ 8 → e ≠ 9 → nd (trS S n i) n e = nd S n e := fun e x y z z2 => tr_nd hn hn ⟨x, y⟩ (Or.inr ⟨z, z2⟩)
  refine ⟨?_, ⟨?_, ?_, ?_, ?_, ?_⟩, ?_, ⟨fun k k1 k2 => ?_, fun k k1 k2 => ?_, fun k k1 k2 => ?_, fun k k1 k2 => ?_⟩, fun k k1 k2 => ?_, ?_⟩
  · unfold NOKa; rw [sc 0 (by omega) (by omega) (by omega) (by omega), sc 1 (by omega) (by omega) (by omega) (by omega), sc 2 (by omega) (by omega) (by omega) (by omega), sc 3 (by omega) (by omega) (by omega) (by omega)]; exact A
  · rw [sc 4 (by omega) (by omega) (by omega) (by omega), w8]; omega
  · rw [sc 5 (by omega) (by omega) (by omega) (by omega)]; exact B2
  · rw [sc 6 (by omega) (by omega) (by omega) (by omega)]; exact B3
  · rw [sc 7 (by omega) (by omega) (by omega) (by omega)]; exact B4
  · rw [sc 4 (by omega) (by omega) (by omega) (by omega), w8, w9]; split <;> omega
  · unfold NOKc; rw [sc 10 (by omega) (by omega) (by omega) (by omega), sc 11 (by omega) (by omega) (by omega) (by omega), sc 12 (by omega) (by omega) (by omega) (by omega), sc 13 (by omega) (by omega) (by omega) (by omega), sc 14 (by omega) (by omega) (by omega) (by omega)]; exact C
  · rw [sc k (by omega) (by omega) (by omega) (by omega)]; exact d1 k k1 k2
  · rw [sc k (by omega) (by omega) (by omega) (by omega)]; exact d2 k k1 k2
  · rw [sc k (by omega) (by omega) (by omega) (by omega)]; exact d3 k k1 k2
  · rw [sc k (by omega) (by omega) (by omega) (by omega)]; exact d4 k k1 k2
  · rw [w8] at k2
    exact (EOK_c (fun q q1 q2 => sc _ (by omega) (by omega) (by omega) (by omega))).mpr (e1 k k1 (by omega))
  · unfold NOKf; rw [sc 3 (by omega) (by omega) (by omega) (by omega), sc 1 (by omega) (by omega) (by omega) (by omega)]; exact ⟨fun q k k1 k2 => by rw [sc k (by omega) (by omega) (by omega) (by omega)]; exact e2.1 q k k1 k2, e2.2⟩
theorem OK_la (h : OK R S) (hn : 0 ≤ n ∧ n ≤ 6) {i p : Int} (he : EOK M p) : OK R (laS S M n i p) := by
  unfold laS; split
  · exact h
  · split
    · split
      · exact h
      · rename_i q1 q2 q3
        unfold lastS at q2
        exact OK_ly (OK_tr h hn (by omega) q2) hn he
    · exact OK_ly h hn he
theorem ly_last {t k a b : Int} (h : OK R S) (hn : 0 ≤ n ∧ n ≤ 6) : (hasRoom S n → lastS (lyS S n t k a b) n = lastS S n + 1) ∧ (¬ hasRoom S n → lastS (lyS S n t k a b) n = lastS S n) := by
  have hb := (OK_n (OK_rm h hn) hn).2.1.1
  have hl := rm_last h hn
  constructor
  · intro q
    rw [lyS, if_pos q]
    unfold lastS at hl ⊢
    rw [ly1_nd (by omega) (by omega) (by omega), ly1_8 (by omega)]; omega
  · intro q
    rw [lyS, if_neg q]; exact hl
theorem la_last (h : OK R S) (hn : 0 ≤ n ∧ n ≤ 6) {i p : Int} (hi : i ≤ lastS S n + 1) : (laR S M n i p → i ≤ lastS (laS S M n i p) n) ∧ i - 1 ≤ lastS (laS S M n i p) n := by
  have hb := (OK_n h hn).2.1.1
  unfold laR laS
  by_cases q1 : i ≤ nd S n 4
  · rw [if_pos q1, if_pos q1]
    unfold lastS; omega
  · rw [if_neg q1, if_neg q1]
    by_cases q2 : i ≤ lastS S n
    · rw [if_pos q2, if_pos q2]
      by_cases q3 : tAS S n i = M p
      · rw [if_pos q3, if_pos q3]; omega
      · rw [if_neg q3, if_neg q3]
        unfold lastS at q2
        have h2 := OK_tr h hn (by omega) q2
        have := ly_last (t := M p) (k := M (p + 1)) (a := M (p + 2)) (b := M (p + 3)) h2 hn
        have h3 := tr_last (S := S) (i := i) hn
        by_cases z : hasRoom (trS S n i) n
        · have := this.1 z; omega
        · have := this.2 z
          exact ⟨fun q => absurd q z, by omega⟩
    · rw [if_neg q2, if_neg q2]
      have := ly_last (t := M p) (k := M (p + 1)) (a := M (p + 2)) (b := M (p + 3)) h hn
      by_cases z : hasRoom S n
      · have := this.1 z; omega
      · have := this.2 z
        exact ⟨fun q => absurd q z, by omega⟩
end OKs
section MS
variable {l : Launch} {V : qV} {d : Nat} {s : qS} {c r r0 : qI} {R n : Int} {Q : Option Value → qH → Prop}
theorem tAI2 {i : Int} (ho : OK R (r 2199)) (hn : 0 ≤ n ∧ n ≤ 6) (h5 : nd (r 2199) n 4 ≤ i) (h6 : i ≤ nd (r 2199) n 4 + nd (r 2199) n 8) : tAI (mkH s (jn c r)) (Int32.ofInt n) (Int32.ofInt i) = Int32.ofInt (tAS (r 2199) n i) := by
  have hb := (OK_n ho hn).2.1.1
  exact tAI_mk (by omega) (by omega) (by omega) (by omega) (OK_sm ho) (OK_nOk ho hn) h5 h6
theorem lpB2 {i : Int} (ho : OK R (r 2199)) (hn : 0 ≤ n ∧ n ≤ 6) (h5 : nd (r 2199) n 4 ≤ i) (h6 : i ≤ nd (r 2199) n 4 + nd (r 2199) n 8) (q : ¬ i = nd (r 2199) n 4) : 0 ≤ (Int32.ofInt (lpS (r 2199) n i)).toInt ∧ (Int32.ofInt (lpS (r 2199) n i)).toInt < 11138 := by
  have := lpB (OK_nOk ho hn) h5 h6 q
  exact this
theorem L_firstOfTerm (hd : 5 ≤ d) (hs : ShMs s) (hn : 0 ≤ n ∧ n ≤ 6) (ho : OK R (r 2199)) {i : Int} (hi : nd (r 2199) n 4 < i ∧ i ≤ nd (r 2199) n 4 + nd (r 2199) n 8) : ∀ (j : Nat) (f : Int), f - nd (r 2199) n 4 ≤ j → nd (r 2199) n 4 < f → f ≤ i → Q (some (.int (Int32.ofInt (ftF (r 2199) n i j f)))) (mkH s (jn c r)) →
    G l V mi_M_firstOfTerm (rm d) 0 0 Q 0 0 18 [.ref 2198, .int (Int32.ofInt n), .int (Int32.ofInt i), .int (Int32.ofInt f)] [] (mkH s (jn c r)) := by
  have hm := OK_sm ho
  have nk := OK_nOk ho hn
  have hb := (OK_n ho hn).2.1.1
  intro j
  induction j with
  | zero => intro f h1 h2 h3 hQ; omega
  | succ j ih =>
    intro f h1 h2 h3 hQ
    have ih := ih (f - 1) (by omega)
    have t1 := tA_rng ho hn (i := f - 1) (by omega) (by omega)
    have t2 := tA_rng ho hn (i := i) (by omega) (by omega)
    have hT1 := tAI2 (s := s) (c := c) ho hn (i := f - 1) (by omega) (by omega)
    have hT2 := tAI2 (s := s) (c := c) ho hn (i := i) (by omega) (by omega)
    have hl1 := fun z => lpB2 ho hn (i := f - 1) (by omega) (by omega) z
    have hl2 := fun z => lpB2 ho hn (i := i) (by omega) (by omega) z
    rw [ftF] at hQ
    by_cases q1 : nd (r 2199) n 4 < f - 1
    · by_cases q2 : tAS (r 2199) n (f - 1) = tAS (r 2199) n i
      · rw [if_pos ⟨q1, q2⟩] at hQ
        have g := ih q1 (by omega) hQ
        refine G_ev ok_M_firstOfTerm (smE_ok (d := d - 1) (by omega)) (fun pc => pc == 18) 200 (by omega) (fun K kK => ?_)
        simp (disch := omega) only [ev_s, evN_ap, List.getElem?_cons_zero, List.getElem?_cons_succ, List.set_cons_zero, List.set_cons_succ, Bool.false_eq_true, ↓reduceIte, qrest_n, qrest_1, qrest_2, qrest_3, qrest_4, qrest_5, qrest_6, qtr_i, qtr_r, true_and, and_true, List.length_cons, List.length_nil, Int.cast_ofNat_Int, Int32.toInt_zero, false_implies, true_implies, not_false_eq_true, not_true_eq_false, Option.toList_some, Option.toList_none, List.cons_append, List.nil_append, Nat.reduceBEq, Nat.reduceEqDiff, Bool.or_self, or_self, Nat.reduceAdd, Nat.reduceLT, Nat.zero_add, Int.reduceAdd, Int.reduceLE, Int.reduceLT, Int.reduceEq, and_self, Int.reduceNeg, qrok_i, qrok_b0, qrok_b1, qrok_bI, Option.some.injEq, Value.int.injEq, J_bI0, J_bI1, Classical.not_not, Int.zero_add, Int.add_zero, Int.sub_zero, false_and, and_false, and_true, true_and, e_0, v_0, e_1, v_1, e_2, v_2, e_3, v_3, e_6, v_6, e_13, v_13, e_15, v_15, e_40, e_44, e_45, qspl_z, qspl_s, evC_s, evD_none, evD_v, evD_s, c_1, c_5, b_1, smE_171, sw_M_max, smE_176, sw_M_the, smE_183, sw_M_termAt, r_M_firstOfTerm_0, r_M_firstOfTerm_1, r_M_firstOfTerm_2, r_M_firstOfTerm_3, r_M_firstOfTerm_4, r_M_firstOfTerm_7, r_M_firstOfTerm_10, r_M_firstOfTerm_11, r_M_firstOfTerm_12, r_M_firstOfTerm_15, r_M_firstOfTerm_16, r_M_firstOfTerm_17, r_M_firstOfTerm_18, r_M_firstOfTerm_19, r_M_firstOfTerm_20, r_M_firstOfTerm_21, r_M_firstOfTerm_22, r_M_firstOfTerm_23, r_M_firstOfTerm_24, r_M_firstOfTerm_27, r_M_firstOfTerm_30, r_M_firstOfTerm_31, r_M_firstOfTerm_32, r_M_firstOfTerm_33, r_M_firstOfTerm_34, r_M_firstOfTerm_35, r_M_firstOfTerm_38, r_M_firstOfTerm_39, r_M_firstOfTerm_40, r_M_firstOfTerm_41, r_M_firstOfTerm_44, r_M_firstOfTerm_47, r_M_firstOfTerm_48, r_M_firstOfTerm_49, r_M_firstOfTerm_50, r_M_firstOfTerm_51, r_M_firstOfTerm_54, r_M_firstOfTerm_55, (shS_o hs), (shS_r_now hs), (shS_k_now hs), nA_mk, lpI_mk, mnI_I, mxI_I, I_val, I_add, I_sub, I_mul, ShM_mk, hs, ndB_I, hM_jr, inB, smv hm, smn hm, bI_z, Bool.or_eq_true, Bool.or_false, Bool.false_or, beq_iff_eq, or_false, false_or, set_jA, uA_uA, uA_same, uA_ne, u1_ne, u1_same, nd_u1, nd_u1s, lpS_u1, hT1, hT2]
        clear hT1 hT2
        repeat' (first | with_reducible apply And.intro | intro _)
        all_goals first | assumption | contradiction | trivial | (exact (hl1 (by assumption)).1) | (exact (hl1 (by assumption)).2) | (exact (hl2 (by assumption)).1) | (exact (hl2 (by assumption)).2) | (exact kK _ _ _ _ g) | (exact g) | (clear kK; omega)
      · rw [if_neg (fun z => q2 z.2)] at hQ
        refine G_ev ok_M_firstOfTerm (smE_ok (d := d - 1) (by omega)) (fun pc => pc == 18) 200 (by omega) (fun K kK => ?_)
        simp (disch := omega) only [ev_s, evN_ap, List.getElem?_cons_zero, List.getElem?_cons_succ, List.set_cons_zero, List.set_cons_succ, Bool.false_eq_true, ↓reduceIte, qrest_n, qrest_1, qrest_2, qrest_3, qrest_4, qrest_5, qrest_6, qtr_i, qtr_r, true_and, and_true, List.length_cons, List.length_nil, Int.cast_ofNat_Int, Int32.toInt_zero, false_implies, true_implies, not_false_eq_true, not_true_eq_false, Option.toList_some, Option.toList_none, List.cons_append, List.nil_append, Nat.reduceBEq, Nat.reduceEqDiff, Bool.or_self, or_self, Nat.reduceAdd, Nat.reduceLT, Nat.zero_add, Int.reduceAdd, Int.reduceLE, Int.reduceLT, Int.reduceEq, and_self, Int.reduceNeg, qrok_i, qrok_b0, qrok_b1, qrok_bI, Option.some.injEq, Value.int.injEq, J_bI0, J_bI1, Classical.not_not, Int.zero_add, Int.add_zero, Int.sub_zero, false_and, and_false, and_true, true_and, e_0, v_0, e_1, v_1, e_2, v_2, e_3, v_3, e_6, v_6, e_13, v_13, e_15, v_15, e_40, e_44, e_45, qspl_z, qspl_s, evC_s, evD_none, evD_v, evD_s, c_1, c_5, b_1, smE_171, sw_M_max, smE_176, sw_M_the, smE_183, sw_M_termAt, r_M_firstOfTerm_0, r_M_firstOfTerm_1, r_M_firstOfTerm_2, r_M_firstOfTerm_3, r_M_firstOfTerm_4, r_M_firstOfTerm_7, r_M_firstOfTerm_10, r_M_firstOfTerm_11, r_M_firstOfTerm_12, r_M_firstOfTerm_15, r_M_firstOfTerm_16, r_M_firstOfTerm_17, r_M_firstOfTerm_18, r_M_firstOfTerm_19, r_M_firstOfTerm_20, r_M_firstOfTerm_21, r_M_firstOfTerm_22, r_M_firstOfTerm_23, r_M_firstOfTerm_24, r_M_firstOfTerm_27, r_M_firstOfTerm_30, r_M_firstOfTerm_31, r_M_firstOfTerm_32, r_M_firstOfTerm_33, r_M_firstOfTerm_34, r_M_firstOfTerm_35, r_M_firstOfTerm_38, r_M_firstOfTerm_39, r_M_firstOfTerm_40, r_M_firstOfTerm_41, r_M_firstOfTerm_44, r_M_firstOfTerm_47, r_M_firstOfTerm_48, r_M_firstOfTerm_49, r_M_firstOfTerm_50, r_M_firstOfTerm_51, r_M_firstOfTerm_54, r_M_firstOfTerm_55, (shS_o hs), (shS_r_now hs), (shS_k_now hs), nA_mk, lpI_mk, mnI_I, mxI_I, I_val, I_add, I_sub, I_mul, ShM_mk, hs, ndB_I, hM_jr, inB, smv hm, smn hm, bI_z, Bool.or_eq_true, Bool.or_false, Bool.false_or, beq_iff_eq, or_false, false_or, set_jA, uA_uA, uA_same, uA_ne, u1_ne, u1_same, nd_u1, nd_u1s, lpS_u1, hT1, hT2]
        clear hT1 hT2
        repeat' (first | with_reducible apply And.intro | intro _)
        all_goals first | assumption | contradiction | trivial | (exact (hl1 (by assumption)).1) | (exact (hl1 (by assumption)).2) | (exact (hl2 (by assumption)).1) | (exact (hl2 (by assumption)).2) | (exact kK _ _ _ _ hQ) | (exact hQ) | (clear kK; omega)
    · rw [if_neg (fun z => q1 z.1)] at hQ
      refine G_ev ok_M_firstOfTerm (smE_ok (d := d - 1) (by omega)) (fun pc => pc == 18) 200 (by omega) (fun K kK => ?_)
      simp (disch := omega) only [ev_s, evN_ap, List.getElem?_cons_zero, List.getElem?_cons_succ, List.set_cons_zero, List.set_cons_succ, Bool.false_eq_true, ↓reduceIte, qrest_n, qrest_1, qrest_2, qrest_3, qrest_4, qrest_5, qrest_6, qtr_i, qtr_r, true_and, and_true, List.length_cons, List.length_nil, Int.cast_ofNat_Int, Int32.toInt_zero, false_implies, true_implies, not_false_eq_true, not_true_eq_false, Option.toList_some, Option.toList_none, List.cons_append, List.nil_append, Nat.reduceBEq, Nat.reduceEqDiff, Bool.or_self, or_self, Nat.reduceAdd, Nat.reduceLT, Nat.zero_add, Int.reduceAdd, Int.reduceLE, Int.reduceLT, Int.reduceEq, and_self, Int.reduceNeg, qrok_i, qrok_b0, qrok_b1, qrok_bI, Option.some.injEq, Value.int.injEq, J_bI0, J_bI1, Classical.not_not, Int.zero_add, Int.add_zero, Int.sub_zero, false_and, and_false, and_true, true_and, e_0, v_0, e_1, v_1, e_2, v_2, e_3, v_3, e_6, v_6, e_13, v_13, e_15, v_15, e_40, e_44, e_45, qspl_z, qspl_s, evC_s, evD_none, evD_v, evD_s, c_1, c_5, b_1, smE_171, sw_M_max, smE_176, sw_M_the, smE_183, sw_M_termAt, r_M_firstOfTerm_0, r_M_firstOfTerm_1, r_M_firstOfTerm_2, r_M_firstOfTerm_3, r_M_firstOfTerm_4, r_M_firstOfTerm_7, r_M_firstOfTerm_10, r_M_firstOfTerm_11, r_M_firstOfTerm_12, r_M_firstOfTerm_15, r_M_firstOfTerm_16, r_M_firstOfTerm_17, r_M_firstOfTerm_18, r_M_firstOfTerm_19, r_M_firstOfTerm_20, r_M_firstOfTerm_21, r_M_firstOfTerm_22, r_M_firstOfTerm_23, r_M_firstOfTerm_24, r_M_firstOfTerm_27, r_M_firstOfTerm_30, r_M_firstOfTerm_31, r_M_firstOfTerm_32, r_M_firstOfTerm_33, r_M_firstOfTerm_34, r_M_firstOfTerm_35, r_M_firstOfTerm_38, r_M_firstOfTerm_39, r_M_firstOfTerm_40, r_M_firstOfTerm_41, r_M_firstOfTerm_44, r_M_firstOfTerm_47, r_M_firstOfTerm_48, r_M_firstOfTerm_49, r_M_firstOfTerm_50, r_M_firstOfTerm_51, r_M_firstOfTerm_54, r_M_firstOfTerm_55, (shS_o hs), (shS_r_now hs), (shS_k_now hs), nA_mk, lpI_mk, mnI_I, mxI_I, I_val, I_add, I_sub, I_mul, ShM_mk, hs, ndB_I, hM_jr, inB, smv hm, smn hm, bI_z, Bool.or_eq_true, Bool.or_false, Bool.false_or, beq_iff_eq, or_false, false_or, set_jA, uA_uA, uA_same, uA_ne, u1_ne, u1_same, nd_u1, nd_u1s, lpS_u1, hT1, hT2]
      clear hT1 hT2
      repeat' (first | with_reducible apply And.intro | intro _)
      all_goals first | assumption | contradiction | trivial | (exact (hl2 (by assumption)).1) | (exact (hl2 (by assumption)).2) | (exact kK _ _ _ _ hQ) | (exact hQ) | (clear kK; omega)
set_option maxHeartbeats 2000000 in
set_option maxRecDepth 100000 in
theorem T_M_firstOfTerm (hd : 6 ≤ d) (hs : ShMs s) {n i : Int} (hn : 0 ≤ n ∧ n ≤ 6) (ho : OK R (r 2199)) (hi : nd (r 2199) n 4 ≤ i ∧ i ≤ nd (r 2199) n 4 + nd (r 2199) n 8) : T l V mi_M_firstOfTerm (rm d) 0 0 [.ref 2198, .int (Int32.ofInt n), .int (Int32.ofInt i)] (mkH s (jn c r)) (fun v h' => v = some (.int (Int32.ofInt (ftS (r 2199) n i))) ∧ h' = mkH s (jn c r)) := by
  refine T_ev qm_M_firstOfTerm [.ref 2198, .int (Int32.ofInt n), .int (Int32.ofInt i), .retAddr 0] rfl rfl (Nat.le_of_ble_eq_true rfl) ok_M_firstOfTerm (smE_ok (d := d - 1) (by omega)) (fun pc => pc == 18) 200 (by omega) (fun K kK => ?_)
  have hm := OK_sm ho
  have hb := (OK_n ho hn).2.1.1
  by_cases q : i = nd (r 2199) n 4
  · have g : ftS (r 2199) n i = max 1 i := by unfold ftS; rw [if_pos q]
    simp (disch := omega) only [ev_s, evN_ap, List.getElem?_cons_zero, List.getElem?_cons_succ, List.set_cons_zero, List.set_cons_succ, Bool.false_eq_true, ↓reduceIte, qrest_n, qrest_1, qrest_2, qrest_3, qrest_4, qrest_5, qrest_6, qtr_i, qtr_r, true_and, and_true, List.length_cons, List.length_nil, Int.cast_ofNat_Int, Int32.toInt_zero, false_implies, true_implies, not_false_eq_true, not_true_eq_false, Option.toList_some, Option.toList_none, List.cons_append, List.nil_append, Nat.reduceBEq, Nat.reduceEqDiff, Bool.or_self, or_self, Nat.reduceAdd, Nat.reduceLT, Nat.zero_add, Int.reduceAdd, Int.reduceLE, Int.reduceLT, Int.reduceEq, and_self, Int.reduceNeg, qrok_i, qrok_b0, qrok_b1, qrok_bI, Option.some.injEq, Value.int.injEq, J_bI0, J_bI1, Classical.not_not, Int.zero_add, Int.add_zero, Int.sub_zero, false_and, and_false, and_true, true_and, e_0, v_0, e_1, v_1, e_2, v_2, e_3, v_3, e_6, v_6, e_13, v_13, e_15, v_15, e_40, e_44, e_45, qspl_z, qspl_s, evC_s, evD_none, evD_v, evD_s, c_1, c_5, b_1, smE_171, sw_M_max, smE_176, sw_M_the, smE_183, sw_M_termAt, r_M_firstOfTerm_0, r_M_firstOfTerm_1, r_M_firstOfTerm_2, r_M_firstOfTerm_3, r_M_firstOfTerm_4, r_M_firstOfTerm_7, r_M_firstOfTerm_10, r_M_firstOfTerm_11, r_M_firstOfTerm_12, r_M_firstOfTerm_15, r_M_firstOfTerm_16, r_M_firstOfTerm_17, r_M_firstOfTerm_18, r_M_firstOfTerm_19, r_M_firstOfTerm_20, r_M_firstOfTerm_21, r_M_firstOfTerm_22, r_M_firstOfTerm_23, r_M_firstOfTerm_24, r_M_firstOfTerm_27, r_M_firstOfTerm_30, r_M_firstOfTerm_31, r_M_firstOfTerm_32, r_M_firstOfTerm_33, r_M_firstOfTerm_34, r_M_firstOfTerm_35, r_M_firstOfTerm_38, r_M_firstOfTerm_39, r_M_firstOfTerm_40, r_M_firstOfTerm_41, r_M_firstOfTerm_44, r_M_firstOfTerm_47, r_M_firstOfTerm_48, r_M_firstOfTerm_49, r_M_firstOfTerm_50, r_M_firstOfTerm_51, r_M_firstOfTerm_54, r_M_firstOfTerm_55, (shS_o hs), (shS_r_now hs), (shS_k_now hs), nA_mk, lpI_mk, mnI_I, mxI_I, I_val, I_add, I_sub, I_mul, ShM_mk, hs, ndB_I, hM_jr, inB, smv hm, smn hm, bI_z, Bool.or_eq_true, Bool.or_false, Bool.false_or, beq_iff_eq, or_false, false_or, set_jA, uA_uA, uA_same, uA_ne, u1_ne, u1_same, nd_u1, nd_u1s, lpS_u1, g]
    repeat' (first | with_reducible apply And.intro | intro _)
    all_goals first | assumption | contradiction | trivial | (clear kK; omega)
  · have g := L_firstOfTerm (l := l) (V := V) (d := d) (s := s) (c := c) (r := r) (Q := fun v h' => v = some (.int (Int32.ofInt (ftS (r 2199) n i))) ∧ h' = mkH s (jn c r)) (by omega) hs hn ho (i := i) (by omega) (i - nd (r 2199) n 4).toNat i (by omega) (by omega) (by omega) ⟨by unfold ftS; rw [if_neg q], rfl⟩
    simp (disch := omega) only [ev_s, evN_ap, List.getElem?_cons_zero, List.getElem?_cons_succ, List.set_cons_zero, List.set_cons_succ, Bool.false_eq_true, ↓reduceIte, qrest_n, qrest_1, qrest_2, qrest_3, qrest_4, qrest_5, qrest_6, qtr_i, qtr_r, true_and, and_true, List.length_cons, List.length_nil, Int.cast_ofNat_Int, Int32.toInt_zero, false_implies, true_implies, not_false_eq_true, not_true_eq_false, Option.toList_some, Option.toList_none, List.cons_append, List.nil_append, Nat.reduceBEq, Nat.reduceEqDiff, Bool.or_self, or_self, Nat.reduceAdd, Nat.reduceLT, Nat.zero_add, Int.reduceAdd, Int.reduceLE, Int.reduceLT, Int.reduceEq, and_self, Int.reduceNeg, qrok_i, qrok_b0, qrok_b1, qrok_bI, Option.some.injEq, Value.int.injEq, J_bI0, J_bI1, Classical.not_not, Int.zero_add, Int.add_zero, Int.sub_zero, false_and, and_false, and_true, true_and, e_0, v_0, e_1, v_1, e_2, v_2, e_3, v_3, e_6, v_6, e_13, v_13, e_15, v_15, e_40, e_44, e_45, qspl_z, qspl_s, evC_s, evD_none, evD_v, evD_s, c_1, c_5, b_1, smE_171, sw_M_max, smE_176, sw_M_the, smE_183, sw_M_termAt, r_M_firstOfTerm_0, r_M_firstOfTerm_1, r_M_firstOfTerm_2, r_M_firstOfTerm_3, r_M_firstOfTerm_4, r_M_firstOfTerm_7, r_M_firstOfTerm_10, r_M_firstOfTerm_11, r_M_firstOfTerm_12, r_M_firstOfTerm_15, r_M_firstOfTerm_16, r_M_firstOfTerm_17, r_M_firstOfTerm_18, r_M_firstOfTerm_19, r_M_firstOfTerm_20, r_M_firstOfTerm_21, r_M_firstOfTerm_22, r_M_firstOfTerm_23, r_M_firstOfTerm_24, r_M_firstOfTerm_27, r_M_firstOfTerm_30, r_M_firstOfTerm_31, r_M_firstOfTerm_32, r_M_firstOfTerm_33, r_M_firstOfTerm_34, r_M_firstOfTerm_35, r_M_firstOfTerm_38, r_M_firstOfTerm_39, r_M_firstOfTerm_40, r_M_firstOfTerm_41, r_M_firstOfTerm_44, r_M_firstOfTerm_47, r_M_firstOfTerm_48, r_M_firstOfTerm_49, r_M_firstOfTerm_50, r_M_firstOfTerm_51, r_M_firstOfTerm_54, r_M_firstOfTerm_55, (shS_o hs), (shS_r_now hs), (shS_k_now hs), nA_mk, lpI_mk, mnI_I, mxI_I, I_val, I_add, I_sub, I_mul, ShM_mk, hs, ndB_I, hM_jr, inB, smv hm, smn hm, bI_z, Bool.or_eq_true, Bool.or_false, Bool.false_or, beq_iff_eq, or_false, false_or, set_jA, uA_uA, uA_same, uA_ne, u1_ne, u1_same, nd_u1, nd_u1s, lpS_u1]
    repeat' (first | with_reducible apply And.intro | intro _)
    all_goals first | assumption | contradiction | trivial | (exact kK _ _ _ _ g) | (exact g) | (clear kK; omega)
theorem L_laysAs (hd : 8 ≤ d) (hs : ShMs s) (hn : 0 ≤ n ∧ n ≤ 6) {i p : Int} {M : qN} {X : qN} {Y : Prop} (hM : r 2203 = M) (hx : Rx r0 r) (ho : OK R (r 2199)) (hp : 0 ≤ p ∧ p ≤ 23) (e1 : X = lyS (r 2199) n (M p) (M (p + 1)) (M (p + 2)) (M (p + 3))) (e2 : Y ↔ hasRoom (r 2199) n) :
    G l V mi_M_laysAs (rm d) 0 0 (fun v' h' => v' = some (.int (bI Y)) ∧ ∃ r', h' = mkH s (jn c r') ∧ r' 2199 = X ∧ Rx r0 r') 0 0 80 [.ref 2198, .int (Int32.ofInt n), .int (Int32.ofInt i), .int (Int32.ofInt p)] [] (mkH s (jn c r)) := by
  have hm := OK_sm ho
  subst hM
  rw [e1, propext e2]
  refine G_ev ok_M_laysAs (smE_ok (d := d - 1) (by omega)) (fun _ => false) 200 (by omega) (fun K kK => ?_)
  simp (disch := omega) only [ev_s, evN_ap, List.getElem?_cons_zero, List.getElem?_cons_succ, List.set_cons_zero, List.set_cons_succ, Bool.false_eq_true, ↓reduceIte, qrest_n, qrest_1, qrest_2, qrest_3, qrest_4, qrest_5, qrest_6, qtr_i, qtr_r, true_and, and_true, List.length_cons, List.length_nil, Int.cast_ofNat_Int, Int32.toInt_zero, false_implies, true_implies, not_false_eq_true, not_true_eq_false, Option.toList_some, Option.toList_none, List.cons_append, List.nil_append, Nat.reduceBEq, Nat.reduceEqDiff, Bool.or_self, or_self, Nat.reduceAdd, Nat.reduceLT, Nat.zero_add, Int.reduceAdd, Int.reduceLE, Int.reduceLT, Int.reduceEq, and_self, Int.reduceNeg, qrok_i, qrok_b0, qrok_b1, qrok_bI, Option.some.injEq, Value.int.injEq, J_bI0, J_bI1, Classical.not_not, Int.zero_add, Int.add_zero, Int.sub_zero, false_and, and_false, and_true, true_and, e_0, v_0, e_1, v_1, e_2, v_2, e_6, v_6, e_15, v_15, e_20, v_20, e_24, v_24, e_40, e_44, qspl_z, qspl_s, evC_s, evD_none, evD_v, evD_s, c_1, c_4, b_0, b_1, smE_176, sw_M_the, smE_177, sw_M_sets, smE_180, sw_M_lastOf, smE_183, sw_M_termAt, (smE_no (k := 192) rfl), smE_237, sw_M_breaks, r_M_laysAs_0, r_M_laysAs_1, r_M_laysAs_2, r_M_laysAs_3, r_M_laysAs_4, r_M_laysAs_7, r_M_laysAs_10, r_M_laysAs_11, r_M_laysAs_12, r_M_laysAs_13, r_M_laysAs_14, r_M_laysAs_15, r_M_laysAs_18, r_M_laysAs_21, r_M_laysAs_22, r_M_laysAs_23, r_M_laysAs_24, r_M_laysAs_27, r_M_laysAs_28, r_M_laysAs_31, r_M_laysAs_32, r_M_laysAs_33, r_M_laysAs_36, r_M_laysAs_37, r_M_laysAs_38, r_M_laysAs_39, r_M_laysAs_40, r_M_laysAs_42, r_M_laysAs_43, r_M_laysAs_44, r_M_laysAs_45, r_M_laysAs_46, r_M_laysAs_49, r_M_laysAs_50, r_M_laysAs_51, r_M_laysAs_52, r_M_laysAs_55, r_M_laysAs_56, r_M_laysAs_57, r_M_laysAs_58, r_M_laysAs_60, r_M_laysAs_63, r_M_laysAs_66, r_M_laysAs_67, r_M_laysAs_70, r_M_laysAs_71, r_M_laysAs_72, r_M_laysAs_74, r_M_laysAs_75, r_M_laysAs_76, r_M_laysAs_77, r_M_laysAs_80, r_M_laysAs_81, r_M_laysAs_82, r_M_laysAs_83, r_M_laysAs_86, r_M_laysAs_87, r_M_laysAs_88, r_M_laysAs_89, r_M_laysAs_92, r_M_laysAs_93, r_M_laysAs_94, r_M_laysAs_95, r_M_laysAs_96, r_M_laysAs_97, r_M_laysAs_100, r_M_laysAs_101, r_M_laysAs_102, r_M_laysAs_103, r_M_laysAs_104, r_M_laysAs_105, r_M_laysAs_108, r_M_laysAs_109, r_M_laysAs_110, r_M_laysAs_111, r_M_laysAs_112, r_M_laysAs_115, (shS_o hs), (shS_r_now hs), (shS_k_now hs), nA_mk, lpI_mk, mnI_I, mxI_I, I_val, I_add, I_sub, I_mul, ShM_mk, hs, ndB_I, hM_jr, inB, smv hm, smn hm, bI_z, Bool.or_eq_true, Bool.or_false, Bool.false_or, beq_iff_eq, or_false, false_or, set_jA, uA_uA, uA_same, uA_ne, u1_ne, u1_same, nd_u1, nd_u1s, lpS_u1, (shS_o hs), (shS_r_mailIn hs), (shS_k_mailIn hs)]
  repeat (refine And.intro ?_ ?_; (· first | omega | (refine ⟨?_, ?_⟩ <;> omega)))
  refine kK _ _ _ _ (GCR ok_M_laysAs r_M_laysAs_112 ⟨by decide, by decide⟩ qm_M_lays (T_lays (d := d - 1) (R := R) (by omega) hs hn ho) rfl rfl (fun _ => rcM hs) rfl (Nat.le_of_ble_eq_true rfl) (by omega) (fun r1 f1 x1 => ?_))
  refine G_ev ok_M_laysAs (smE_ok (d := d - 1) (by omega)) (fun _ => false) 200 (by omega) (fun K kK => ?_)
  simp (disch := omega) only [ev_s, evN_ap, List.getElem?_cons_zero, List.getElem?_cons_succ, List.set_cons_zero, List.set_cons_succ, Bool.false_eq_true, ↓reduceIte, qrest_n, qrest_1, qrest_2, qrest_3, qrest_4, qrest_5, qrest_6, qtr_i, qtr_r, true_and, and_true, List.length_cons, List.length_nil, Int.cast_ofNat_Int, Int32.toInt_zero, false_implies, true_implies, not_false_eq_true, not_true_eq_false, Option.toList_some, Option.toList_none, List.cons_append, List.nil_append, Nat.reduceBEq, Nat.reduceEqDiff, Bool.or_self, or_self, Nat.reduceAdd, Nat.reduceLT, Nat.zero_add, Int.reduceAdd, Int.reduceLE, Int.reduceLT, Int.reduceEq, and_self, Int.reduceNeg, qrok_i, qrok_b0, qrok_b1, qrok_bI, Option.some.injEq, Value.int.injEq, J_bI0, J_bI1, Classical.not_not, Int.zero_add, Int.add_zero, Int.sub_zero, false_and, and_false, and_true, true_and, e_0, v_0, e_1, v_1, e_2, v_2, e_6, v_6, e_15, v_15, e_20, v_20, e_24, v_24, e_40, e_44, qspl_z, qspl_s, evC_s, evD_none, evD_v, evD_s, c_1, c_4, b_0, b_1, smE_176, sw_M_the, smE_177, sw_M_sets, smE_180, sw_M_lastOf, smE_183, sw_M_termAt, (smE_no (k := 192) rfl), smE_237, sw_M_breaks, r_M_laysAs_0, r_M_laysAs_1, r_M_laysAs_2, r_M_laysAs_3, r_M_laysAs_4, r_M_laysAs_7, r_M_laysAs_10, r_M_laysAs_11, r_M_laysAs_12, r_M_laysAs_13, r_M_laysAs_14, r_M_laysAs_15, r_M_laysAs_18, r_M_laysAs_21, r_M_laysAs_22, r_M_laysAs_23, r_M_laysAs_24, r_M_laysAs_27, r_M_laysAs_28, r_M_laysAs_31, r_M_laysAs_32, r_M_laysAs_33, r_M_laysAs_36, r_M_laysAs_37, r_M_laysAs_38, r_M_laysAs_39, r_M_laysAs_40, r_M_laysAs_42, r_M_laysAs_43, r_M_laysAs_44, r_M_laysAs_45, r_M_laysAs_46, r_M_laysAs_49, r_M_laysAs_50, r_M_laysAs_51, r_M_laysAs_52, r_M_laysAs_55, r_M_laysAs_56, r_M_laysAs_57, r_M_laysAs_58, r_M_laysAs_60, r_M_laysAs_63, r_M_laysAs_66, r_M_laysAs_67, r_M_laysAs_70, r_M_laysAs_71, r_M_laysAs_72, r_M_laysAs_74, r_M_laysAs_75, r_M_laysAs_76, r_M_laysAs_77, r_M_laysAs_80, r_M_laysAs_81, r_M_laysAs_82, r_M_laysAs_83, r_M_laysAs_86, r_M_laysAs_87, r_M_laysAs_88, r_M_laysAs_89, r_M_laysAs_92, r_M_laysAs_93, r_M_laysAs_94, r_M_laysAs_95, r_M_laysAs_96, r_M_laysAs_97, r_M_laysAs_100, r_M_laysAs_101, r_M_laysAs_102, r_M_laysAs_103, r_M_laysAs_104, r_M_laysAs_105, r_M_laysAs_108, r_M_laysAs_109, r_M_laysAs_110, r_M_laysAs_111, r_M_laysAs_112, r_M_laysAs_115, (shS_o hs), (shS_r_now hs), (shS_k_now hs), nA_mk, lpI_mk, mnI_I, mxI_I, I_val, I_add, I_sub, I_mul, ShM_mk, hs, ndB_I, hM_jr, inB, smv hm, smn hm, bI_z, Bool.or_eq_true, Bool.or_false, Bool.false_or, beq_iff_eq, or_false, false_or, set_jA, uA_uA, uA_same, uA_ne, u1_ne, u1_same, nd_u1, nd_u1s, lpS_u1]
  exact ⟨r1, rfl, f1, Rx_tr hx x1⟩
set_option maxHeartbeats 2000000 in
set_option maxRecDepth 100000 in
theorem T_M_laysAs (hd : 9 ≤ d) (hs : ShMs s) {n i p : Int} (hn : 0 ≤ n ∧ n ≤ 6) (ho : OK R (r 2199)) (hi : 1 ≤ i ∧ i ≤ 1000) (hp : 0 ≤ p ∧ p ≤ 23) (he : EOK (r 2203) p) : TR l V d mi_M_laysAs [.ref 2198, .int (Int32.ofInt n), .int (Int32.ofInt i), .int (Int32.ofInt p)] s c r (some (.int (bI (laR (r 2199) (r 2203) n i p)))) (laS (r 2199) (r 2203) n i p) := by
  refine T_ev qm_M_laysAs [.ref 2198, .int (Int32.ofInt n), .int (Int32.ofInt i), .int (Int32.ofInt p)] rfl rfl (Nat.le_of_ble_eq_true rfl) ok_M_laysAs (smE_ok (d := d - 1) (by omega)) (fun pc => pc == 80) 200 (by omega) (fun K kK => ?_)
  have hm := OK_sm ho
  have hb := (OK_n ho hn).2.1.1
  have he1 := he.1
  have h9 := (OK_n ho hn).2.1.2.2.2.2
  by_cases q1 : i ≤ nd (r 2199) n 4
  · have e1 : laS (r 2199) (r 2203) n i p = r 2199 := by unfold laS; rw [if_pos q1]
    have e2 : laR (r 2199) (r 2203) n i p := by unfold laR; rw [if_pos q1]; trivial
    have g : ∃ r', mkH s (jn c r) = mkH s (jn c r') ∧ r' 2199 = laS (r 2199) (r 2203) n i p ∧ Rx r r' := ⟨r, rfl, e1.symm, Rx_rf r⟩
    simp (disch := omega) only [ev_s, evN_ap, List.getElem?_cons_zero, List.getElem?_cons_succ, List.set_cons_zero, List.set_cons_succ, Bool.false_eq_true, ↓reduceIte, qrest_n, qrest_1, qrest_2, qrest_3, qrest_4, qrest_5, qrest_6, qtr_i, qtr_r, true_and, and_true, List.length_cons, List.length_nil, Int.cast_ofNat_Int, Int32.toInt_zero, false_implies, true_implies, not_false_eq_true, not_true_eq_false, Option.toList_some, Option.toList_none, List.cons_append, List.nil_append, Nat.reduceBEq, Nat.reduceEqDiff, Bool.or_self, or_self, Nat.reduceAdd, Nat.reduceLT, Nat.zero_add, Int.reduceAdd, Int.reduceLE, Int.reduceLT, Int.reduceEq, and_self, Int.reduceNeg, qrok_i, qrok_b0, qrok_b1, qrok_bI, Option.some.injEq, Value.int.injEq, J_bI0, J_bI1, Classical.not_not, Int.zero_add, Int.add_zero, Int.sub_zero, false_and, and_false, and_true, true_and, e_0, v_0, e_1, v_1, e_2, v_2, e_6, v_6, e_15, v_15, e_20, v_20, e_24, v_24, e_40, e_44, qspl_z, qspl_s, evC_s, evD_none, evD_v, evD_s, c_1, c_4, b_0, b_1, smE_176, sw_M_the, smE_177, sw_M_sets, smE_180, sw_M_lastOf, smE_183, sw_M_termAt, (smE_no (k := 192) rfl), smE_237, sw_M_breaks, r_M_laysAs_0, r_M_laysAs_1, r_M_laysAs_2, r_M_laysAs_3, r_M_laysAs_4, r_M_laysAs_7, r_M_laysAs_10, r_M_laysAs_11, r_M_laysAs_12, r_M_laysAs_13, r_M_laysAs_14, r_M_laysAs_15, r_M_laysAs_18, r_M_laysAs_21, r_M_laysAs_22, r_M_laysAs_23, r_M_laysAs_24, r_M_laysAs_27, r_M_laysAs_28, r_M_laysAs_31, r_M_laysAs_32, r_M_laysAs_33, r_M_laysAs_36, r_M_laysAs_37, r_M_laysAs_38, r_M_laysAs_39, r_M_laysAs_40, r_M_laysAs_42, r_M_laysAs_43, r_M_laysAs_44, r_M_laysAs_45, r_M_laysAs_46, r_M_laysAs_49, r_M_laysAs_50, r_M_laysAs_51, r_M_laysAs_52, r_M_laysAs_55, r_M_laysAs_56, r_M_laysAs_57, r_M_laysAs_58, r_M_laysAs_60, r_M_laysAs_63, r_M_laysAs_66, r_M_laysAs_67, r_M_laysAs_70, r_M_laysAs_71, r_M_laysAs_72, r_M_laysAs_74, r_M_laysAs_75, r_M_laysAs_76, r_M_laysAs_77, r_M_laysAs_80, r_M_laysAs_81, r_M_laysAs_82, r_M_laysAs_83, r_M_laysAs_86, r_M_laysAs_87, r_M_laysAs_88, r_M_laysAs_89, r_M_laysAs_92, r_M_laysAs_93, r_M_laysAs_94, r_M_laysAs_95, r_M_laysAs_96, r_M_laysAs_97, r_M_laysAs_100, r_M_laysAs_101, r_M_laysAs_102, r_M_laysAs_103, r_M_laysAs_104, r_M_laysAs_105, r_M_laysAs_108, r_M_laysAs_109, r_M_laysAs_110, r_M_laysAs_111, r_M_laysAs_112, r_M_laysAs_115, (shS_o hs), (shS_r_now hs), (shS_k_now hs), nA_mk, lpI_mk, mnI_I, mxI_I, I_val, I_add, I_sub, I_mul, ShM_mk, hs, ndB_I, hM_jr, inB, smv hm, smn hm, bI_z, Bool.or_eq_true, Bool.or_false, Bool.false_or, beq_iff_eq, or_false, false_or, set_jA, uA_uA, uA_same, uA_ne, u1_ne, u1_same, nd_u1, nd_u1s, lpS_u1]
    repeat' (first | with_reducible apply And.intro | intro _)
    all_goals first | assumption | contradiction | trivial | (exact kK _ _ _ _ g) | (exact kK _ _ _ _ e2) | (exact g) | (exact e2) | (clear kK; omega)
  · by_cases q2 : i ≤ lastS (r 2199) n
    · have q2' := q2
      unfold lastS at q2'
      have t2 := tA_rng ho hn (i := i) (by omega) (by omega)
      have hT2 := tAI2 (s := s) (c := c) ho hn (i := i) (by omega) (by omega)
      have hl2 := fun z => lpB2 ho hn (i := i) (by omega) (by omega) z
      by_cases q3 : tAS (r 2199) n i = r 2203 p
      · have e1 : laS (r 2199) (r 2203) n i p = r 2199 := by unfold laS; rw [if_neg q1, if_pos q2, if_pos q3]
        have e2 : laR (r 2199) (r 2203) n i p := by unfold laR; rw [if_neg q1, if_pos q2, if_pos q3]; trivial
        have g : ∃ r', mkH s (jn c r) = mkH s (jn c r') ∧ r' 2199 = laS (r 2199) (r 2203) n i p ∧ Rx r r' := ⟨r, rfl, e1.symm, Rx_rf r⟩
        simp (disch := omega) only [ev_s, evN_ap, List.getElem?_cons_zero, List.getElem?_cons_succ, List.set_cons_zero, List.set_cons_succ, Bool.false_eq_true, ↓reduceIte, qrest_n, qrest_1, qrest_2, qrest_3, qrest_4, qrest_5, qrest_6, qtr_i, qtr_r, true_and, and_true, List.length_cons, List.length_nil, Int.cast_ofNat_Int, Int32.toInt_zero, false_implies, true_implies, not_false_eq_true, not_true_eq_false, Option.toList_some, Option.toList_none, List.cons_append, List.nil_append, Nat.reduceBEq, Nat.reduceEqDiff, Bool.or_self, or_self, Nat.reduceAdd, Nat.reduceLT, Nat.zero_add, Int.reduceAdd, Int.reduceLE, Int.reduceLT, Int.reduceEq, and_self, Int.reduceNeg, qrok_i, qrok_b0, qrok_b1, qrok_bI, Option.some.injEq, Value.int.injEq, J_bI0, J_bI1, Classical.not_not, Int.zero_add, Int.add_zero, Int.sub_zero, false_and, and_false, and_true, true_and, e_0, v_0, e_1, v_1, e_2, v_2, e_6, v_6, e_15, v_15, e_20, v_20, e_24, v_24, e_40, e_44, qspl_z, qspl_s, evC_s, evD_none, evD_v, evD_s, c_1, c_4, b_0, b_1, smE_176, sw_M_the, smE_177, sw_M_sets, smE_180, sw_M_lastOf, smE_183, sw_M_termAt, (smE_no (k := 192) rfl), smE_237, sw_M_breaks, r_M_laysAs_0, r_M_laysAs_1, r_M_laysAs_2, r_M_laysAs_3, r_M_laysAs_4, r_M_laysAs_7, r_M_laysAs_10, r_M_laysAs_11, r_M_laysAs_12, r_M_laysAs_13, r_M_laysAs_14, r_M_laysAs_15, r_M_laysAs_18, r_M_laysAs_21, r_M_laysAs_22, r_M_laysAs_23, r_M_laysAs_24, r_M_laysAs_27, r_M_laysAs_28, r_M_laysAs_31, r_M_laysAs_32, r_M_laysAs_33, r_M_laysAs_36, r_M_laysAs_37, r_M_laysAs_38, r_M_laysAs_39, r_M_laysAs_40, r_M_laysAs_42, r_M_laysAs_43, r_M_laysAs_44, r_M_laysAs_45, r_M_laysAs_46, r_M_laysAs_49, r_M_laysAs_50, r_M_laysAs_51, r_M_laysAs_52, r_M_laysAs_55, r_M_laysAs_56, r_M_laysAs_57, r_M_laysAs_58, r_M_laysAs_60, r_M_laysAs_63, r_M_laysAs_66, r_M_laysAs_67, r_M_laysAs_70, r_M_laysAs_71, r_M_laysAs_72, r_M_laysAs_74, r_M_laysAs_75, r_M_laysAs_76, r_M_laysAs_77, r_M_laysAs_80, r_M_laysAs_81, r_M_laysAs_82, r_M_laysAs_83, r_M_laysAs_86, r_M_laysAs_87, r_M_laysAs_88, r_M_laysAs_89, r_M_laysAs_92, r_M_laysAs_93, r_M_laysAs_94, r_M_laysAs_95, r_M_laysAs_96, r_M_laysAs_97, r_M_laysAs_100, r_M_laysAs_101, r_M_laysAs_102, r_M_laysAs_103, r_M_laysAs_104, r_M_laysAs_105, r_M_laysAs_108, r_M_laysAs_109, r_M_laysAs_110, r_M_laysAs_111, r_M_laysAs_112, r_M_laysAs_115, (shS_o hs), (shS_r_now hs), (shS_k_now hs), nA_mk, lpI_mk, mnI_I, mxI_I, I_val, I_add, I_sub, I_mul, ShM_mk, hs, ndB_I, hM_jr, inB, smv hm, smn hm, bI_z, Bool.or_eq_true, Bool.or_false, Bool.false_or, beq_iff_eq, or_false, false_or, set_jA, uA_uA, uA_same, uA_ne, u1_ne, u1_same, nd_u1, nd_u1s, lpS_u1, (shS_o hs), (shS_r_mailIn hs), (shS_k_mailIn hs), hT2]
        clear hT2
        repeat' (first | with_reducible apply And.intro | intro _)
        all_goals first | assumption | contradiction | trivial | (exact (hl2 (by assumption)).1) | (exact (hl2 (by assumption)).2) | (exact kK _ _ _ _ g) | (exact kK _ _ _ _ e2) | (exact g) | (exact e2) | (clear kK; omega)
      · have e1 : laS (r 2199) (r 2203) n i p = lyS (trS (r 2199) n i) n (r 2203 p) (r 2203 (p + 1)) (r 2203 (p + 2)) (r 2203 (p + 3)) := by unfold laS; rw [if_neg q1, if_pos q2, if_neg q3]
        have e2 : laR (r 2199) (r 2203) n i p = hasRoom (trS (r 2199) n i) n := by unfold laR; rw [if_neg q1, if_pos q2, if_neg q3]
        have hx : Rx r (uA r 2199 (trS (r 2199) n i)) := Rx_2199 (fun j j1 j2 => tr_ne (by omega) (by omega))
        have ht := OK_tr ho hn (i := i) (by omega) (by omega)
        have g := L_laysAs (l := l) (V := V) (d := d) (s := s) (c := c) (n := n) (i := i) (p := p) (R := R) (X := laS (r 2199) (r 2203) n i p) (Y := laR (r 2199) (r 2203) n i p) (by omega) hs hn (M := r 2203) (uA_ne (by omega)) hx (by rw [uA_same]; exact ht) hp (by rw [uA_same]; exact e1) (by rw [uA_same, e2])
        by_cases q4 : i ≤ nd (r 2199) n 9
        · rw [show trS (r 2199) n i = _ by unfold trS; rw [if_pos q4]] at g
          simp (disch := omega) only [ev_s, evN_ap, List.getElem?_cons_zero, List.getElem?_cons_succ, List.set_cons_zero, List.set_cons_succ, Bool.false_eq_true, ↓reduceIte, qrest_n, qrest_1, qrest_2, qrest_3, qrest_4, qrest_5, qrest_6, qtr_i, qtr_r, true_and, and_true, List.length_cons, List.length_nil, Int.cast_ofNat_Int, Int32.toInt_zero, false_implies, true_implies, not_false_eq_true, not_true_eq_false, Option.toList_some, Option.toList_none, List.cons_append, List.nil_append, Nat.reduceBEq, Nat.reduceEqDiff, Bool.or_self, or_self, Nat.reduceAdd, Nat.reduceLT, Nat.zero_add, Int.reduceAdd, Int.reduceLE, Int.reduceLT, Int.reduceEq, and_self, Int.reduceNeg, qrok_i, qrok_b0, qrok_b1, qrok_bI, Option.some.injEq, Value.int.injEq, J_bI0, J_bI1, Classical.not_not, Int.zero_add, Int.add_zero, Int.sub_zero, false_and, and_false, and_true, true_and, e_0, v_0, e_1, v_1, e_2, v_2, e_6, v_6, e_15, v_15, e_20, v_20, e_24, v_24, e_40, e_44, qspl_z, qspl_s, evC_s, evD_none, evD_v, evD_s, c_1, c_4, b_0, b_1, smE_176, sw_M_the, smE_177, sw_M_sets, smE_180, sw_M_lastOf, smE_183, sw_M_termAt, (smE_no (k := 192) rfl), smE_237, sw_M_breaks, r_M_laysAs_0, r_M_laysAs_1, r_M_laysAs_2, r_M_laysAs_3, r_M_laysAs_4, r_M_laysAs_7, r_M_laysAs_10, r_M_laysAs_11, r_M_laysAs_12, r_M_laysAs_13, r_M_laysAs_14, r_M_laysAs_15, r_M_laysAs_18, r_M_laysAs_21, r_M_laysAs_22, r_M_laysAs_23, r_M_laysAs_24, r_M_laysAs_27, r_M_laysAs_28, r_M_laysAs_31, r_M_laysAs_32, r_M_laysAs_33, r_M_laysAs_36, r_M_laysAs_37, r_M_laysAs_38, r_M_laysAs_39, r_M_laysAs_40, r_M_laysAs_42, r_M_laysAs_43, r_M_laysAs_44, r_M_laysAs_45, r_M_laysAs_46, r_M_laysAs_49, r_M_laysAs_50, r_M_laysAs_51, r_M_laysAs_52, r_M_laysAs_55, r_M_laysAs_56, r_M_laysAs_57, r_M_laysAs_58, r_M_laysAs_60, r_M_laysAs_63, r_M_laysAs_66, r_M_laysAs_67, r_M_laysAs_70, r_M_laysAs_71, r_M_laysAs_72, r_M_laysAs_74, r_M_laysAs_75, r_M_laysAs_76, r_M_laysAs_77, r_M_laysAs_80, r_M_laysAs_81, r_M_laysAs_82, r_M_laysAs_83, r_M_laysAs_86, r_M_laysAs_87, r_M_laysAs_88, r_M_laysAs_89, r_M_laysAs_92, r_M_laysAs_93, r_M_laysAs_94, r_M_laysAs_95, r_M_laysAs_96, r_M_laysAs_97, r_M_laysAs_100, r_M_laysAs_101, r_M_laysAs_102, r_M_laysAs_103, r_M_laysAs_104, r_M_laysAs_105, r_M_laysAs_108, r_M_laysAs_109, r_M_laysAs_110, r_M_laysAs_111, r_M_laysAs_112, r_M_laysAs_115, (shS_o hs), (shS_r_now hs), (shS_k_now hs), nA_mk, lpI_mk, mnI_I, mxI_I, I_val, I_add, I_sub, I_mul, ShM_mk, hs, ndB_I, hM_jr, inB, smv hm, smn hm, bI_z, Bool.or_eq_true, Bool.or_false, Bool.false_or, beq_iff_eq, or_false, false_or, set_jA, uA_uA, uA_same, uA_ne, u1_ne, u1_same, nd_u1, nd_u1s, lpS_u1, (shS_o hs), (shS_r_mailIn hs), (shS_k_mailIn hs), hT2]
          clear hT2
          repeat' (first | with_reducible apply And.intro | intro _)
          all_goals first | assumption | contradiction | trivial | (exact (hl2 (by assumption)).1) | (exact (hl2 (by assumption)).2) | (exact kK _ _ _ _ g) | (exact g) | (clear kK; omega)
        · rw [show trS (r 2199) n i = _ by unfold trS; rw [if_neg q4]] at g
          simp (disch := omega) only [ev_s, evN_ap, List.getElem?_cons_zero, List.getElem?_cons_succ, List.set_cons_zero, List.set_cons_succ, Bool.false_eq_true, ↓reduceIte, qrest_n, qrest_1, qrest_2, qrest_3, qrest_4, qrest_5, qrest_6, qtr_i, qtr_r, true_and, and_true, List.length_cons, List.length_nil, Int.cast_ofNat_Int, Int32.toInt_zero, false_implies, true_implies, not_false_eq_true, not_true_eq_false, Option.toList_some, Option.toList_none, List.cons_append, List.nil_append, Nat.reduceBEq, Nat.reduceEqDiff, Bool.or_self, or_self, Nat.reduceAdd, Nat.reduceLT, Nat.zero_add, Int.reduceAdd, Int.reduceLE, Int.reduceLT, Int.reduceEq, and_self, Int.reduceNeg, qrok_i, qrok_b0, qrok_b1, qrok_bI, Option.some.injEq, Value.int.injEq, J_bI0, J_bI1, Classical.not_not, Int.zero_add, Int.add_zero, Int.sub_zero, false_and, and_false, and_true, true_and, e_0, v_0, e_1, v_1, e_2, v_2, e_6, v_6, e_15, v_15, e_20, v_20, e_24, v_24, e_40, e_44, qspl_z, qspl_s, evC_s, evD_none, evD_v, evD_s, c_1, c_4, b_0, b_1, smE_176, sw_M_the, smE_177, sw_M_sets, smE_180, sw_M_lastOf, smE_183, sw_M_termAt, (smE_no (k := 192) rfl), smE_237, sw_M_breaks, r_M_laysAs_0, r_M_laysAs_1, r_M_laysAs_2, r_M_laysAs_3, r_M_laysAs_4, r_M_laysAs_7, r_M_laysAs_10, r_M_laysAs_11, r_M_laysAs_12, r_M_laysAs_13, r_M_laysAs_14, r_M_laysAs_15, r_M_laysAs_18, r_M_laysAs_21, r_M_laysAs_22, r_M_laysAs_23, r_M_laysAs_24, r_M_laysAs_27, r_M_laysAs_28, r_M_laysAs_31, r_M_laysAs_32, r_M_laysAs_33, r_M_laysAs_36, r_M_laysAs_37, r_M_laysAs_38, r_M_laysAs_39, r_M_laysAs_40, r_M_laysAs_42, r_M_laysAs_43, r_M_laysAs_44, r_M_laysAs_45, r_M_laysAs_46, r_M_laysAs_49, r_M_laysAs_50, r_M_laysAs_51, r_M_laysAs_52, r_M_laysAs_55, r_M_laysAs_56, r_M_laysAs_57, r_M_laysAs_58, r_M_laysAs_60, r_M_laysAs_63, r_M_laysAs_66, r_M_laysAs_67, r_M_laysAs_70, r_M_laysAs_71, r_M_laysAs_72, r_M_laysAs_74, r_M_laysAs_75, r_M_laysAs_76, r_M_laysAs_77, r_M_laysAs_80, r_M_laysAs_81, r_M_laysAs_82, r_M_laysAs_83, r_M_laysAs_86, r_M_laysAs_87, r_M_laysAs_88, r_M_laysAs_89, r_M_laysAs_92, r_M_laysAs_93, r_M_laysAs_94, r_M_laysAs_95, r_M_laysAs_96, r_M_laysAs_97, r_M_laysAs_100, r_M_laysAs_101, r_M_laysAs_102, r_M_laysAs_103, r_M_laysAs_104, r_M_laysAs_105, r_M_laysAs_108, r_M_laysAs_109, r_M_laysAs_110, r_M_laysAs_111, r_M_laysAs_112, r_M_laysAs_115, (shS_o hs), (shS_r_now hs), (shS_k_now hs), nA_mk, lpI_mk, mnI_I, mxI_I, I_val, I_add, I_sub, I_mul, ShM_mk, hs, ndB_I, hM_jr, inB, smv hm, smn hm, bI_z, Bool.or_eq_true, Bool.or_false, Bool.false_or, beq_iff_eq, or_false, false_or, set_jA, uA_uA, uA_same, uA_ne, u1_ne, u1_same, nd_u1, nd_u1s, lpS_u1, (shS_o hs), (shS_r_mailIn hs), (shS_k_mailIn hs), hT2]
          clear hT2
          repeat' (first | with_reducible apply And.intro | intro _)
          all_goals first | assumption | contradiction | trivial | (exact (hl2 (by assumption)).1) | (exact (hl2 (by assumption)).2) | (exact kK _ _ _ _ g) | (exact g) | (clear kK; omega)
    · have q2' := q2
      unfold lastS at q2'
      have e1 : laS (r 2199) (r 2203) n i p = lyS (r 2199) n (r 2203 p) (r 2203 (p + 1)) (r 2203 (p + 2)) (r 2203 (p + 3)) := by unfold laS; rw [if_neg q1, if_neg q2]
      have e2 : laR (r 2199) (r 2203) n i p = hasRoom (r 2199) n := by unfold laR; rw [if_neg q1, if_neg q2]
      have g := L_laysAs (l := l) (V := V) (d := d) (s := s) (c := c) (n := n) (i := i) (p := p) (R := R) (r := r) (X := laS (r 2199) (r 2203) n i p) (Y := laR (r 2199) (r 2203) n i p) (by omega) hs hn (M := r 2203) rfl (Rx_rf r) ho hp e1 (by rw [e2])
      simp (disch := omega) only [ev_s, evN_ap, List.getElem?_cons_zero, List.getElem?_cons_succ, List.set_cons_zero, List.set_cons_succ, Bool.false_eq_true, ↓reduceIte, qrest_n, qrest_1, qrest_2, qrest_3, qrest_4, qrest_5, qrest_6, qtr_i, qtr_r, true_and, and_true, List.length_cons, List.length_nil, Int.cast_ofNat_Int, Int32.toInt_zero, false_implies, true_implies, not_false_eq_true, not_true_eq_false, Option.toList_some, Option.toList_none, List.cons_append, List.nil_append, Nat.reduceBEq, Nat.reduceEqDiff, Bool.or_self, or_self, Nat.reduceAdd, Nat.reduceLT, Nat.zero_add, Int.reduceAdd, Int.reduceLE, Int.reduceLT, Int.reduceEq, and_self, Int.reduceNeg, qrok_i, qrok_b0, qrok_b1, qrok_bI, Option.some.injEq, Value.int.injEq, J_bI0, J_bI1, Classical.not_not, Int.zero_add, Int.add_zero, Int.sub_zero, false_and, and_false, and_true, true_and, e_0, v_0, e_1, v_1, e_2, v_2, e_6, v_6, e_15, v_15, e_20, v_20, e_24, v_24, e_40, e_44, qspl_z, qspl_s, evC_s, evD_none, evD_v, evD_s, c_1, c_4, b_0, b_1, smE_176, sw_M_the, smE_177, sw_M_sets, smE_180, sw_M_lastOf, smE_183, sw_M_termAt, (smE_no (k := 192) rfl), smE_237, sw_M_breaks, r_M_laysAs_0, r_M_laysAs_1, r_M_laysAs_2, r_M_laysAs_3, r_M_laysAs_4, r_M_laysAs_7, r_M_laysAs_10, r_M_laysAs_11, r_M_laysAs_12, r_M_laysAs_13, r_M_laysAs_14, r_M_laysAs_15, r_M_laysAs_18, r_M_laysAs_21, r_M_laysAs_22, r_M_laysAs_23, r_M_laysAs_24, r_M_laysAs_27, r_M_laysAs_28, r_M_laysAs_31, r_M_laysAs_32, r_M_laysAs_33, r_M_laysAs_36, r_M_laysAs_37, r_M_laysAs_38, r_M_laysAs_39, r_M_laysAs_40, r_M_laysAs_42, r_M_laysAs_43, r_M_laysAs_44, r_M_laysAs_45, r_M_laysAs_46, r_M_laysAs_49, r_M_laysAs_50, r_M_laysAs_51, r_M_laysAs_52, r_M_laysAs_55, r_M_laysAs_56, r_M_laysAs_57, r_M_laysAs_58, r_M_laysAs_60, r_M_laysAs_63, r_M_laysAs_66, r_M_laysAs_67, r_M_laysAs_70, r_M_laysAs_71, r_M_laysAs_72, r_M_laysAs_74, r_M_laysAs_75, r_M_laysAs_76, r_M_laysAs_77, r_M_laysAs_80, r_M_laysAs_81, r_M_laysAs_82, r_M_laysAs_83, r_M_laysAs_86, r_M_laysAs_87, r_M_laysAs_88, r_M_laysAs_89, r_M_laysAs_92, r_M_laysAs_93, r_M_laysAs_94, r_M_laysAs_95, r_M_laysAs_96, r_M_laysAs_97, r_M_laysAs_100, r_M_laysAs_101, r_M_laysAs_102, r_M_laysAs_103, r_M_laysAs_104, r_M_laysAs_105, r_M_laysAs_108, r_M_laysAs_109, r_M_laysAs_110, r_M_laysAs_111, r_M_laysAs_112, r_M_laysAs_115, (shS_o hs), (shS_r_now hs), (shS_k_now hs), nA_mk, lpI_mk, mnI_I, mxI_I, I_val, I_add, I_sub, I_mul, ShM_mk, hs, ndB_I, hM_jr, inB, smv hm, smn hm, bI_z, Bool.or_eq_true, Bool.or_false, Bool.false_or, beq_iff_eq, or_false, false_or, set_jA, uA_uA, uA_same, uA_ne, u1_ne, u1_same, nd_u1, nd_u1s, lpS_u1, (shS_o hs), (shS_r_mailIn hs), (shS_k_mailIn hs)]
      repeat' (first | with_reducible apply And.intro | intro _)
      all_goals first | assumption | contradiction | trivial | (exact kK _ _ _ _ g) | (exact g) | (clear kK; omega)
end MS
