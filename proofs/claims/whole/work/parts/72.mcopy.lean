/-! rows copied; kept and undone -/
def rsS (X S : qN) : qN := cpN X S 0 0 11138
theorem rsS_in {X S : qN} {j : Int} (h : 0 ≤ j ∧ j < 11138) : rsS X S j = S j := by
  unfold rsS cpN; rw [if_pos (by omega)]; congr 1; omega
theorem rsS_sm {X S : qN} (hx : smS X) (hs : smS S) : smS (rsS X S) := by
  intro j hj
  unfold rsS cpN; split
  · have e : (0 : Int) + (j - 0) = j := by omega
    rw [e]; exact hs j hj
  · exact hx j hj
theorem OK_cg {R : Int} {S S' : qN} (h : OK R S) (hs : smS S') (e : ∀ j, 0 ≤ j → j < 11138 → S' j = S j) : OK R S' := by
  have g := OK_g h
  obtain ⟨⟨a1, a2⟩, b, c, d, -, f1, f2, f3⟩ := h
  refine ⟨⟨hs, a2⟩, fun m m1 m2 => NOK_c (fun e' e1 e2 => e _ (by omega) (by omega)) (b m m1 m2), fun m m1 m2 => ?_, fun m m1 m2 => ?_, ?_, fun m m1 m2 => ?_, fun m m1 m2 => ?_, fun m m1 m2 => ?_⟩
  · have := g.2.2.1
    rw [e _ (by omega) (by omega)] at m2
    exact MOK_c (fun e' e1 e2 _ => e _ (by omega) (by omega)) (c m m1 m2)
  · have := g.2.2.2.2.1
    rw [e _ (by omega) (by omega)] at m2
    exact ROK_c (fun e' e1 e2 => e _ (by omega) (by omega)) (d m m1 m2)
  · unfold GOK; rw [e 11131 (by omega) (by omega), e 11132 (by omega) (by omega), e 11133 (by omega) (by omega), e 11134 (by omega) (by omega), e 11135 (by omega) (by omega), e 11137 (by omega) (by omega)]; exact g
  · rw [e _ (by omega) (by omega)]; exact f1 m m1 m2
  · rw [e _ (by omega) (by omega)]
    exact (f2 m m1 m2).imp id (fun q => (EOK_c (fun i i1 i2 => e _ (by omega) (by omega))).mpr q)
  · rw [e _ (by omega) (by omega)]; exact f3 m m1 m2
theorem RSt_cg {S S' : qN} (h : RSt S) (hs : smS S') (e : ∀ j, 0 ≤ j → j < 11138 → S' j = S j) : RSt S' := by
  unfold RSt
  rw [e 11131 (by omega) (by omega), e 11135 (by omega) (by omega)]
  refine ⟨OK_cg h.1 hs e, fun m m1 m2 => ?_⟩
  have := h.2 m m1 m2
  unfold nd at *
  rw [e _ (by omega) (by omega), e _ (by omega) (by omega)]; exact this
theorem RSt_rs {X S : qN} (h : RSt S) (hx : smS X) : RSt (rsS X S) := RSt_cg h (rsS_sm hx (OK_sm h.1)) (fun j j0 j1 => rsS_in ⟨j0, j1⟩)
section MS
variable {l : Launch} {V : qV} {d : Nat} {s : qS} {c r r0 : qI} {R n : Int} {Q : Option Value → qH → Prop}
theorem L_copies (hd : 5 ≤ d) {x y : Nat} (hx : 2198 ≤ x) (hy : 2198 ≤ y) (hne : x ≠ y) (kx : ∀ m, hK (mkH s m) x = (100, 11138)) (ky : ∀ m, hK (mkH s m) y = (100, 11138)) (hQ : Q none (mkH s (jn c (uA r y (rsS (r y) (r x)))))) : ∀ (j : Nat) (k : Int), k + j = 11138 → 0 ≤ k →
    G l V mi_M_copies (rm d) 0 0 Q 0 0 2 [.ref x, .ref y, .int (Int32.ofInt k)] [] (mkH s (jn c (uA r y (cpN (r y) (r x) 0 0 k)))) := by
  have ex : ∀ f, uA r y f x = r x := fun f => uA_ne hne
  intro j
  induction j with
  | zero =>
    intro k hk k0
    have e : k = 11138 := by omega
    subst e
    refine G_ev ok_M_copies (smE_ok (d := d - 1) (by omega)) (fun pc => pc == 2) 200 (by omega) (fun K kK => ?_)
    simp (disch := omega) only [ev_s, evN_ap, List.getElem?_cons_zero, List.getElem?_cons_succ, List.set_cons_zero, List.set_cons_succ, Bool.false_eq_true, ↓reduceIte, qrest_n, qrest_1, qrest_2, qrest_3, qrest_4, qrest_5, qrest_6, qtr_i, qtr_r, true_and, and_true, List.length_cons, List.length_nil, Int.cast_ofNat_Int, Int32.toInt_zero, false_implies, true_implies, not_false_eq_true, not_true_eq_false, Option.toList_some, Option.toList_none, List.cons_append, List.nil_append, Nat.reduceBEq, Nat.reduceEqDiff, Bool.or_self, or_self, Nat.reduceAdd, Nat.reduceLT, Nat.zero_add, Int.reduceAdd, Int.reduceLE, Int.reduceLT, Int.reduceEq, and_self, Int.reduceNeg, qrok_i, qrok_b0, qrok_b1, qrok_bI, Option.some.injEq, Value.int.injEq, J_bI0, J_bI1, Classical.not_not, Int.zero_add, Int.add_zero, Int.sub_zero, false_and, and_false, and_true, true_and, e_0, v_0, e_1, v_1, e_2, v_2, e_3, v_3, e_5, v_5, e_13, v_13, e_15, v_15, e_24, v_24, e_25, v_25, e_41, c_3, r_M_copies_0, r_M_copies_1, r_M_copies_2, r_M_copies_3, r_M_copies_6, r_M_copies_9, r_M_copies_10, r_M_copies_11, r_M_copies_12, r_M_copies_13, r_M_copies_14, r_M_copies_15, r_M_copies_18, r_M_copies_21, I_val, I_add, hM_jr, inB, kx, ky, set_jA, uA_uA, uA_same, ex]
    repeat' (first | with_reducible apply And.intro | intro _)
    all_goals first | assumption | contradiction | trivial | (exact kK _ _ _ _ hQ) | (exact hQ) | (clear kK; omega)
  | succ j ih =>
    intro k hk k0
    have ih := ih (k + 1) (by omega) (by omega)
    rw [← cpN_s k0, Int.zero_add] at ih
    refine G_ev ok_M_copies (smE_ok (d := d - 1) (by omega)) (fun pc => pc == 2) 200 (by omega) (fun K kK => ?_)
    simp (disch := omega) only [ev_s, evN_ap, List.getElem?_cons_zero, List.getElem?_cons_succ, List.set_cons_zero, List.set_cons_succ, Bool.false_eq_true, ↓reduceIte, qrest_n, qrest_1, qrest_2, qrest_3, qrest_4, qrest_5, qrest_6, qtr_i, qtr_r, true_and, and_true, List.length_cons, List.length_nil, Int.cast_ofNat_Int, Int32.toInt_zero, false_implies, true_implies, not_false_eq_true, not_true_eq_false, Option.toList_some, Option.toList_none, List.cons_append, List.nil_append, Nat.reduceBEq, Nat.reduceEqDiff, Bool.or_self, or_self, Nat.reduceAdd, Nat.reduceLT, Nat.zero_add, Int.reduceAdd, Int.reduceLE, Int.reduceLT, Int.reduceEq, and_self, Int.reduceNeg, qrok_i, qrok_b0, qrok_b1, qrok_bI, Option.some.injEq, Value.int.injEq, J_bI0, J_bI1, Classical.not_not, Int.zero_add, Int.add_zero, Int.sub_zero, false_and, and_false, and_true, true_and, e_0, v_0, e_1, v_1, e_2, v_2, e_3, v_3, e_5, v_5, e_13, v_13, e_15, v_15, e_24, v_24, e_25, v_25, e_41, c_3, r_M_copies_0, r_M_copies_1, r_M_copies_2, r_M_copies_3, r_M_copies_6, r_M_copies_9, r_M_copies_10, r_M_copies_11, r_M_copies_12, r_M_copies_13, r_M_copies_14, r_M_copies_15, r_M_copies_18, r_M_copies_21, I_val, I_add, hM_jr, inB, kx, ky, set_jA, uA_uA, uA_same, ex]
    repeat' (first | with_reducible apply And.intro | intro _)
    all_goals first | assumption | contradiction | trivial | (exact kK _ _ _ _ ih) | (exact ih) | (clear kK; omega)
theorem T_copies (hd : 6 ≤ d) {x y : Nat} (hx : 2198 ≤ x) (hy : 2198 ≤ y) (hne : x ≠ y) (kx : ∀ m, hK (mkH s m) x = (100, 11138)) (ky : ∀ m, hK (mkH s m) y = (100, 11138)) : T l V mi_M_copies (rm d) 0 0 [.ref x, .ref y] (mkH s (jn c r)) (fun v h' => v = none ∧ h' = mkH s (jn c (uA r y (rsS (r y) (r x))))) := by
  refine T_ev qm_M_copies [.ref x, .ref y, .retAddr 0] rfl rfl (Nat.le_of_ble_eq_true rfl) ok_M_copies (smE_ok (d := d - 1) (by omega)) (fun pc => pc == 2) 200 (by omega) (fun K kK => ?_)
  have g := L_copies (l := l) (V := V) (d := d) (s := s) (c := c) (r := r) (Q := fun v h' => v = none ∧ h' = mkH s (jn c (uA r y (rsS (r y) (r x))))) (by omega) hx hy hne kx ky ⟨rfl, rfl⟩ 11138 0 (by omega) (by omega)
  rw [cpN_0, uA_self] at g
  simp (disch := omega) only [ev_s, evN_ap, List.getElem?_cons_zero, List.getElem?_cons_succ, List.set_cons_zero, List.set_cons_succ, Bool.false_eq_true, ↓reduceIte, qrest_n, qrest_1, qrest_2, qrest_3, qrest_4, qrest_5, qrest_6, qtr_i, qtr_r, true_and, and_true, List.length_cons, List.length_nil, Int.cast_ofNat_Int, Int32.toInt_zero, false_implies, true_implies, not_false_eq_true, not_true_eq_false, Option.toList_some, Option.toList_none, List.cons_append, List.nil_append, Nat.reduceBEq, Nat.reduceEqDiff, Bool.or_self, or_self, Nat.reduceAdd, Nat.reduceLT, Nat.zero_add, Int.reduceAdd, Int.reduceLE, Int.reduceLT, Int.reduceEq, and_self, Int.reduceNeg, qrok_i, qrok_b0, qrok_b1, qrok_bI, Option.some.injEq, Value.int.injEq, J_bI0, J_bI1, Classical.not_not, Int.zero_add, Int.add_zero, Int.sub_zero, false_and, and_false, and_true, true_and, e_0, v_0, e_1, v_1, e_2, v_2, e_3, v_3, e_5, v_5, e_13, v_13, e_15, v_15, e_24, v_24, e_25, v_25, e_41, c_3, r_M_copies_0, r_M_copies_1, r_M_copies_2, r_M_copies_3, r_M_copies_6, r_M_copies_9, r_M_copies_10, r_M_copies_11, r_M_copies_12, r_M_copies_13, r_M_copies_14, r_M_copies_15, r_M_copies_18, r_M_copies_21, I_val, I_add, hM_jr, inB, kx, ky]
  exact kK _ _ _ _ g
end MS
