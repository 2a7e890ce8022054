/-! mail is begun -/
def z0 (F : qN) (k : Int) : qN := fun j => if 0 ≤ j ∧ j < k then 0 else F j
theorem z0_0 {F : qN} : z0 F 0 = F := by funext j; unfold z0; rw [if_neg (by omega)]
theorem z0_s {F : qN} {k : Int} (hk : 0 ≤ k) : u1 (z0 F k) k 0 = z0 F (k + 1) := by
  funext j; unfold u1 z0
  by_cases h : j = k
  · rw [if_pos h, if_pos (by omega)]
  · rw [if_neg h]
    by_cases h2 : 0 ≤ j ∧ j < k
    · rw [if_pos h2, if_pos (by omega)]
    · rw [if_neg h2, if_neg (by omega)]
def mailB (r : qI) (x y z : Int) : qI := uA r 2202 (u1 (u1 (u1 (u1 (z0 (r 2202) 27) 0 x) 1 y) 2 z) 3 (nd (r 2199) x 1))
section MS
variable {l : Launch} {V : qV} {d : Nat} {s : qS} {c r : qI}
theorem L_beginsMail (hd : 4 ≤ d) (hs : ShMs s) {x y z : Int} {Q : Option Value → qH → Prop} (hn : 0 ≤ x ∧ x ≤ 6) (hm : smS (r 2199)) (hQ : Q none (mkH s (jn c (mailB r x y z)))) : ∀ (j : Nat) (k : Int), k + j = 27 → 0 ≤ k →
    G l V mi_M_beginsMail (rm d) 0 0 Q 0 0 3 [.ref 2198, .int (Int32.ofInt x), .int (Int32.ofInt y), .int (Int32.ofInt z), .int (Int32.ofInt k)] [] (mkH s (jn c (uA r 2202 (z0 (r 2202) k)))) := by
  obtain ⟨n1, n2⟩ := hn
  intro j
  induction j with
  | zero =>
    intro k hk k0
    refine G_ev ok_M_beginsMail (smC_ok (d := d - 1) (by omega)) (fun pc => pc == 3) 60 (by omega) (fun K kK => ?_)
    have e : k = 27 := by omega
    subst e
    have c1 : -100000 ≤ nd (r 2199) x 1 ∧ nd (r 2199) x 1 ≤ 100000 := hm _ (by omega)
    simp (disch := omega) only [ev_s, evN_ap, List.getElem?_cons_zero, List.getElem?_cons_succ, List.set_cons_zero, List.set_cons_succ, Bool.false_eq_true, ↓reduceIte, qrest_n, qrest_1, qrest_2, qrest_3, qrest_4, qrest_5, qrest_6, qtr_i, qtr_r, true_and, and_true, List.length_cons, List.length_nil, Int.cast_ofNat_Int, Int32.toInt_zero, false_implies, true_implies, not_false_eq_true, not_true_eq_false, Option.toList_some, Option.toList_none, List.cons_append, List.nil_append, Nat.reduceBEq, Nat.reduceEqDiff, Bool.or_self, or_self, Nat.reduceAdd, Nat.reduceLT, Nat.zero_add, Int.reduceAdd, Int.reduceLE, Int.reduceLT, Int.reduceEq, and_self, Int.reduceNeg, qrok_i, qrok_b0, qrok_b1, qrok_bI, Option.some.injEq, Value.int.injEq, J_bI0, J_bI1, e_0, v_0, e_1, v_1, e_2, v_2, e_3, v_3, e_5, v_5, e_13, v_13, e_15, v_15, e_20, v_20, e_25, v_25, e_41, e_44, qspl_z, qspl_s, evC_s, evD_none, evD_v, evD_s, c_3, smC_176, sw_M_the, r_M_beginsMail_0, r_M_beginsMail_1, r_M_beginsMail_3, r_M_beginsMail_5, r_M_beginsMail_7, r_M_beginsMail_10, r_M_beginsMail_11, r_M_beginsMail_14, r_M_beginsMail_16, r_M_beginsMail_17, r_M_beginsMail_18, r_M_beginsMail_21, r_M_beginsMail_24, r_M_beginsMail_25, r_M_beginsMail_28, r_M_beginsMail_29, r_M_beginsMail_30, r_M_beginsMail_31, r_M_beginsMail_32, r_M_beginsMail_35, r_M_beginsMail_36, r_M_beginsMail_37, r_M_beginsMail_38, r_M_beginsMail_39, r_M_beginsMail_42, r_M_beginsMail_43, r_M_beginsMail_44, r_M_beginsMail_45, r_M_beginsMail_46, r_M_beginsMail_49, r_M_beginsMail_50, r_M_beginsMail_51, r_M_beginsMail_52, r_M_beginsMail_53, r_M_beginsMail_56, r_M_beginsMail_57, (shS_o hs), (shS_r_now hs), (shS_k_now hs), nA_mk, lpI_mk, mnI_I, mxI_I, I_val, I_add, I_sub, I_mul, ShM_mk, hs, ndB_I, hM_jr, inB, smv hm, smn hm, bI_z, Bool.or_eq_true, Bool.or_false, Bool.false_or, beq_iff_eq, or_false, false_or, set_jA, uA_uA, uA_same, uA_ne, u1_ne, u1_same, nd_u1, nd_u1s, lpS_u1, (shS_o hs), (shS_r_mailNow hs), (shS_k_mailNow hs), n1, n2]
    exact hQ
  | succ j ih =>
    intro k hk k0
    have ih := ih (k + 1) (by omega) (by omega)
    rw [← z0_s k0] at ih
    refine G_ev ok_M_beginsMail (smC_ok (d := d - 1) (by omega)) (fun pc => pc == 3) 60 (by omega) (fun K kK => ?_)
    simp (disch := omega) only [ev_s, evN_ap, List.getElem?_cons_zero, List.getElem?_cons_succ, List.set_cons_zero, List.set_cons_succ, Bool.false_eq_true, ↓reduceIte, qrest_n, qrest_1, qrest_2, qrest_3, qrest_4, qrest_5, qrest_6, qtr_i, qtr_r, true_and, and_true, List.length_cons, List.length_nil, Int.cast_ofNat_Int, Int32.toInt_zero, false_implies, true_implies, not_false_eq_true, not_true_eq_false, Option.toList_some, Option.toList_none, List.cons_append, List.nil_append, Nat.reduceBEq, Nat.reduceEqDiff, Bool.or_self, or_self, Nat.reduceAdd, Nat.reduceLT, Nat.zero_add, Int.reduceAdd, Int.reduceLE, Int.reduceLT, Int.reduceEq, and_self, Int.reduceNeg, qrok_i, qrok_b0, qrok_b1, qrok_bI, Option.some.injEq, Value.int.injEq, J_bI0, J_bI1, e_0, v_0, e_1, v_1, e_2, v_2, e_3, v_3, e_5, v_5, e_13, v_13, e_15, v_15, e_20, v_20, e_25, v_25, e_41, e_44, qspl_z, qspl_s, evC_s, evD_none, evD_v, evD_s, c_3, smC_176, sw_M_the, r_M_beginsMail_0, r_M_beginsMail_1, r_M_beginsMail_3, r_M_beginsMail_5, r_M_beginsMail_7, r_M_beginsMail_10, r_M_beginsMail_11, r_M_beginsMail_14, r_M_beginsMail_16, r_M_beginsMail_17, r_M_beginsMail_18, r_M_beginsMail_21, r_M_beginsMail_24, r_M_beginsMail_25, r_M_beginsMail_28, r_M_beginsMail_29, r_M_beginsMail_30, r_M_beginsMail_31, r_M_beginsMail_32, r_M_beginsMail_35, r_M_beginsMail_36, r_M_beginsMail_37, r_M_beginsMail_38, r_M_beginsMail_39, r_M_beginsMail_42, r_M_beginsMail_43, r_M_beginsMail_44, r_M_beginsMail_45, r_M_beginsMail_46, r_M_beginsMail_49, r_M_beginsMail_50, r_M_beginsMail_51, r_M_beginsMail_52, r_M_beginsMail_53, r_M_beginsMail_56, r_M_beginsMail_57, (shS_o hs), (shS_r_now hs), (shS_k_now hs), nA_mk, lpI_mk, mnI_I, mxI_I, I_val, I_add, I_sub, I_mul, ShM_mk, hs, ndB_I, hM_jr, inB, smv hm, smn hm, bI_z, Bool.or_eq_true, Bool.or_false, Bool.false_or, beq_iff_eq, or_false, false_or, set_jA, uA_uA, uA_same, uA_ne, u1_ne, u1_same, nd_u1, nd_u1s, lpS_u1, (shS_o hs), (shS_r_mailNow hs), (shS_k_mailNow hs), n1, n2]
    have kI := kK _ _ _ _ ih
    clear kK
    exact ⟨fun q => absurd q (by omega), fun _ => ⟨by omega, kI⟩⟩
set_option maxHeartbeats 2000000 in
set_option maxRecDepth 100000 in
theorem T_M_beginsMail (hd : 5 ≤ d) (hs : ShMs s) {x y z : Int} (hn : 0 ≤ x ∧ x ≤ 6) (hm : smS (r 2199)) : T l V mi_M_beginsMail (rm d) 0 0 [.ref 2198, .int (Int32.ofInt x), .int (Int32.ofInt y), .int (Int32.ofInt z)] (mkH s (jn c r)) (fun v h' => v = none ∧ h' = mkH s (jn c (mailB r x y z))) := by
  refine T_ev qm_M_beginsMail [.ref 2198, .int (Int32.ofInt x), .int (Int32.ofInt y), .int (Int32.ofInt z), .retAddr 0] rfl rfl (Nat.le_of_ble_eq_true rfl) ok_M_beginsMail (smC_ok (d := d - 1) (by omega)) (fun pc => pc == 3) 200 (by omega) (fun K kK => ?_)
  simp (disch := omega) only [ev_s, evN_ap, List.getElem?_cons_zero, List.getElem?_cons_succ, List.set_cons_zero, List.set_cons_succ, Bool.false_eq_true, ↓reduceIte, qrest_n, qrest_1, qrest_2, qrest_3, qrest_4, qrest_5, qrest_6, qtr_i, qtr_r, true_and, and_true, List.length_cons, List.length_nil, Int.cast_ofNat_Int, Int32.toInt_zero, false_implies, true_implies, not_false_eq_true, not_true_eq_false, Option.toList_some, Option.toList_none, List.cons_append, List.nil_append, Nat.reduceBEq, Nat.reduceEqDiff, Bool.or_self, or_self, Nat.reduceAdd, Nat.reduceLT, Nat.zero_add, Int.reduceAdd, Int.reduceLE, Int.reduceLT, Int.reduceEq, and_self, Int.reduceNeg, qrok_i, qrok_b0, qrok_b1, qrok_bI, Option.some.injEq, Value.int.injEq, J_bI0, J_bI1, e_0, v_0, e_1, v_1, e_2, v_2, e_3, v_3, e_5, v_5, e_13, v_13, e_15, v_15, e_20, v_20, e_25, v_25, e_41, e_44, qspl_z, qspl_s, evC_s, evD_none, evD_v, evD_s, c_3, smC_176, sw_M_the, r_M_beginsMail_0, r_M_beginsMail_1, r_M_beginsMail_3, r_M_beginsMail_5, r_M_beginsMail_7, r_M_beginsMail_10, r_M_beginsMail_11, r_M_beginsMail_14, r_M_beginsMail_16, r_M_beginsMail_17, r_M_beginsMail_18, r_M_beginsMail_21, r_M_beginsMail_24, r_M_beginsMail_25, r_M_beginsMail_28, r_M_beginsMail_29, r_M_beginsMail_30, r_M_beginsMail_31, r_M_beginsMail_32, r_M_beginsMail_35, r_M_beginsMail_36, r_M_beginsMail_37, r_M_beginsMail_38, r_M_beginsMail_39, r_M_beginsMail_42, r_M_beginsMail_43, r_M_beginsMail_44, r_M_beginsMail_45, r_M_beginsMail_46, r_M_beginsMail_49, r_M_beginsMail_50, r_M_beginsMail_51, r_M_beginsMail_52, r_M_beginsMail_53, r_M_beginsMail_56, r_M_beginsMail_57, (shS_o hs), (shS_r_now hs), (shS_k_now hs), nA_mk, lpI_mk, mnI_I, mxI_I, I_val, I_add, I_sub, I_mul, ShM_mk, hs, ndB_I, hM_jr, inB, smv hm, smn hm, bI_z, Bool.or_eq_true, Bool.or_false, Bool.false_or, beq_iff_eq, or_false, false_or, set_jA, uA_uA, uA_same, uA_ne, u1_ne, u1_same, nd_u1, nd_u1s, lpS_u1]
  have := L_beginsMail (l := l) (V := V) (d := d) (c := c) (r := r) (y := y) (z := z) (by omega) hs hn hm (Q := fun v h' => v = none ∧ h' = mkH s (jn c (mailB r x y z))) ⟨rfl, rfl⟩ 27 0 (by omega) (by omega)
  rw [z0_0, uA_self] at this
  exact kK _ _ _ _ this
end MS
