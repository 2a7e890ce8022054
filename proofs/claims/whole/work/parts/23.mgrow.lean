/-! COMMIT grows -/
abbrev hasE (S : qN) (n i : Int) : Prop := nd S n 4 < i ∧ i ≤ nd S n 4 + nd S n 8
def gOk (S : qN) (n : Int) : Prop := nOk S n ∧ smS S ∧ ∀ i, hasE S n i → eOk S (lpS S n i)
noncomputable def gcR (n : Int) : Nat → Int → qI → qI
  | 0, _, r => r
  | j + 1, i, r => gcR n j (i + 1) (if hasE (r 2199) n i then seR r n i else r)
noncomputable def groR (r : qI) (n w : Int) : qI :=
  let R := gcR n (w - nd (r 2199) n 9).toNat (nd (r 2199) n 9 + 1) r
  uA R 2199 (u1 (R 2199) (244 * n + 9) (max (nd (R 2199) n 9) w))
theorem seS_ne {S : qN} {n i j : Int} (he : eOk S (lpS S n i)) (hi : 1 ≤ i) (hj : j < 244 * n + 15 ∨ 244 * n + 23 ≤ j) (h6 : j < 6028) : seS S n i j = S j := by
  unfold seS
  split
  · rw [u1_ne (by omega), u1_ne (by omega), u1_ne (by omega), u1_ne (by omega), u1_ne (by omega), seK_ne he hj]
  · split
    · exact seK_ne he hj
    · rw [u1_ne (by omega), seK_ne he hj]
theorem seR_now {r : qI} {n i : Int} : seR r n i 2199 = seS (r 2199) n i := by
  funext j; unfold seR uA; simp
theorem smS_seS {S : qN} {n i : Int} (hm : smS S) (hi : 1 ≤ i ∧ i ≤ 999) (hp : 0 ≤ lpS S n i ∧ lpS S n i ≤ 1704) : smS (seS S n i) := by
  have hK := smS_seK (n := n) hm hp
  have a0 := hm (lpS S n i) (by omega)
  have a1 := hm (lpS S n i + 1) (by omega)
  have a2 := hm (lpS S n i + 2) (by omega)
  have a3 := hm (lpS S n i + 3) (by omega)
  have a4 := hm 11134 (by omega)
  unfold seS
  split
  · exact smS_u1 (smS_u1 (smS_u1 (smS_u1 (smS_u1 hK a0.1 a0.2) a1.1 a1.2) a2.1 a2.2) a3.1 a3.2) (by omega) (by omega)
  · split
    · exact hK
    · intro j hj
      rw [u1_ne hj]; exact hK j hj
theorem gOk_se {S : qN} {n i : Int} (h : gOk S n) (hi : 1 ≤ i ∧ i ≤ 999) (he : hasE S n i) : gOk (seS S n i) n := by
  obtain ⟨⟨⟨n1, n2⟩, n3, n4, n5, n6⟩, hm, ha⟩ := h
  have e := ha i he
  have p4 : nd (seS S n i) n 4 = nd S n 4 := seS_ne e hi.1 (by omega) (by omega)
  have p8 : nd (seS S n i) n 8 = nd S n 8 := seS_ne e hi.1 (by omega) (by omega)
  refine ⟨⟨⟨n1, n2⟩, ?_⟩, smS_seS hm hi ?_, fun k hk => ?_⟩
  · rw [p4, p8]; exact ⟨n3, n4, n5, n6⟩
  · unfold hasE at he; unfold lpS; omega
  · unfold hasE at hk
    rw [p4, p8] at hk
    have e2 := ha k hk
    have el : lpS (seS S n i) n k = lpS S n k := by unfold lpS; rw [p4]
    have b1 : 244 * n + 52 ≤ lpS S n k ∧ lpS S n k ≤ 244 * n + 240 := by unfold lpS; omega
    unfold eOk
    rw [el, seS_ne e hi.1 (by omega) (by omega), seS_ne e hi.1 (by omega) (by omega)]
    exact e2
section MS
variable {l : Launch} {V : qV} {d : Nat} {s : qS} {c r : qI}
theorem L_grows (hd : 8 ≤ d) (hs : ShMs s) {n w : Int} {Q : Option Value → qH → Prop} (hw : 0 ≤ w ∧ w ≤ 999) : ∀ (j : Nat) (k : Int) (r : qI), (k + j = w + 1 ∨ (j = 0 ∧ w < k ∧ k ≤ 100001)) → 1 ≤ k → gOk (r 2199) n →
    Q none (mkH s (jn c (uA (gcR n j k r) 2199 (u1 (gcR n j k r 2199) (244 * n + 9) (max (nd (gcR n j k r 2199) n 9) w))))) →
    G l V mi_M_growsCommit (rm d) 0 0 Q 0 0 10 [.ref 2198, .int (Int32.ofInt n), .int (Int32.ofInt w), .int (Int32.ofInt k)] [] (mkH s (jn c r)) := by
  intro j
  induction j with
  | zero =>
    intro k r hk k0 hg hQ
    obtain ⟨⟨⟨n1, n2⟩, n3, n4, n5, n6⟩, hm, ha⟩ := hg
    have c9 : -100000 ≤ nd (r 2199) n 9 ∧ nd (r 2199) n 9 ≤ 100000 := hm _ (by omega)
    refine G_ev ok_M_growsCommit (smC_ok (d := d - 1) (by omega)) (fun pc => pc == 10) 60 (by omega) (fun K kK => ?_)
    simp (disch := omega) only [ev_s, evN_ap, List.getElem?_cons_zero, List.getElem?_cons_succ, List.set_cons_zero, List.set_cons_succ, Bool.false_eq_true, ↓reduceIte, qrest_n, qrest_1, qrest_2, qrest_3, qrest_4, qrest_5, qrest_6, qtr_i, qtr_r, true_and, and_true, List.length_cons, List.length_nil, Int.cast_ofNat_Int, Int32.toInt_zero, false_implies, true_implies, not_false_eq_true, not_true_eq_false, Option.toList_some, Option.toList_none, List.cons_append, List.nil_append, Nat.reduceBEq, Nat.reduceEqDiff, Bool.or_self, or_self, Nat.reduceAdd, Nat.reduceLT, Nat.zero_add, Int.reduceAdd, Int.reduceLE, Int.reduceLT, Int.reduceEq, and_self, Int.reduceNeg, qrok_i, qrok_b0, qrok_b1, qrok_bI, Option.some.injEq, Value.int.injEq, J_bI0, J_bI1, e_0, v_0, e_1, v_1, e_2, v_2, e_3, v_3, e_5, v_5, e_6, v_6, e_13, v_13, e_14, v_14, e_15, v_15, e_41, e_44, e_45, qspl_z, qspl_s, evC_s, evD_none, evD_v, evD_s, c_0, c_4, b_0, smC_171, sw_M_max, smC_176, sw_M_the, smC_177, sw_M_sets, smC_182, sw_M_hasEntry, (smC_no (k := 238) rfl), r_M_growsCommit_0, r_M_growsCommit_1, r_M_growsCommit_2, r_M_growsCommit_4, r_M_growsCommit_7, r_M_growsCommit_8, r_M_growsCommit_9, r_M_growsCommit_10, r_M_growsCommit_11, r_M_growsCommit_12, r_M_growsCommit_15, r_M_growsCommit_16, r_M_growsCommit_17, r_M_growsCommit_18, r_M_growsCommit_21, r_M_growsCommit_24, r_M_growsCommit_25, r_M_growsCommit_26, r_M_growsCommit_27, r_M_growsCommit_30, r_M_growsCommit_33, r_M_growsCommit_36, r_M_growsCommit_37, r_M_growsCommit_38, r_M_growsCommit_40, r_M_growsCommit_41, r_M_growsCommit_42, r_M_growsCommit_44, r_M_growsCommit_47, r_M_growsCommit_48, r_M_growsCommit_51, r_M_growsCommit_54, (shS_o hs), (shS_r_now hs), (shS_k_now hs), nA_mk, lpI_mk, mnI_I, mxI_I, I_val, I_add, I_sub, I_mul, ShM_mk, hs, ndB_I, hM_jr, inB, smv hm, smn hm, bI_z, Bool.or_eq_true, Bool.or_false, Bool.false_or, beq_iff_eq, or_false, false_or, set_jA, uA_uA, uA_same, uA_ne, u1_ne, u1_same, nd_u1, nd_u1s, lpS_u1, n1, n2]
    simp only [gcR] at hQ
    exact ⟨fun _ => hQ, fun z => absurd (show w < k by omega) z⟩
  | succ j ih =>
    intro k r hk k0 hg hQ
    have hg' := hg
    obtain ⟨⟨⟨n1, n2⟩, n3, n4, n5, n6⟩, hm, ha⟩ := hg
    simp only [gcR] at hQ
    have ih := ih (k + 1) _ (by omega) (by omega) (by split; (· rw [seR_now]; exact gOk_se hg' (by omega) (by assumption)); (· exact hg')) hQ
    refine G_ev ok_M_growsCommit (smC_ok (d := d - 1) (by omega)) (fun pc => pc == 10) 60 (by omega) (fun K kK => ?_)
    simp (disch := omega) only [ev_s, evN_ap, List.getElem?_cons_zero, List.getElem?_cons_succ, List.set_cons_zero, List.set_cons_succ, Bool.false_eq_true, ↓reduceIte, qrest_n, qrest_1, qrest_2, qrest_3, qrest_4, qrest_5, qrest_6, qtr_i, qtr_r, true_and, and_true, List.length_cons, List.length_nil, Int.cast_ofNat_Int, Int32.toInt_zero, false_implies, true_implies, not_false_eq_true, not_true_eq_false, Option.toList_some, Option.toList_none, List.cons_append, List.nil_append, Nat.reduceBEq, Nat.reduceEqDiff, Bool.or_self, or_self, Nat.reduceAdd, Nat.reduceLT, Nat.zero_add, Int.reduceAdd, Int.reduceLE, Int.reduceLT, Int.reduceEq, and_self, Int.reduceNeg, qrok_i, qrok_b0, qrok_b1, qrok_bI, Option.some.injEq, Value.int.injEq, J_bI0, J_bI1, e_0, v_0, e_1, v_1, e_2, v_2, e_3, v_3, e_5, v_5, e_6, v_6, e_13, v_13, e_14, v_14, e_15, v_15, e_41, e_44, e_45, qspl_z, qspl_s, evC_s, evD_none, evD_v, evD_s, c_0, c_4, b_0, smC_171, sw_M_max, smC_176, sw_M_the, smC_177, sw_M_sets, smC_182, sw_M_hasEntry, (smC_no (k := 238) rfl), r_M_growsCommit_0, r_M_growsCommit_1, r_M_growsCommit_2, r_M_growsCommit_4, r_M_growsCommit_7, r_M_growsCommit_8, r_M_growsCommit_9, r_M_growsCommit_10, r_M_growsCommit_11, r_M_growsCommit_12, r_M_growsCommit_15, r_M_growsCommit_16, r_M_growsCommit_17, r_M_growsCommit_18, r_M_growsCommit_21, r_M_growsCommit_24, r_M_growsCommit_25, r_M_growsCommit_26, r_M_growsCommit_27, r_M_growsCommit_30, r_M_growsCommit_33, r_M_growsCommit_36, r_M_growsCommit_37, r_M_growsCommit_38, r_M_growsCommit_40, r_M_growsCommit_41, r_M_growsCommit_42, r_M_growsCommit_44, r_M_growsCommit_47, r_M_growsCommit_48, r_M_growsCommit_51, r_M_growsCommit_54, (shS_o hs), (shS_r_now hs), (shS_k_now hs), nA_mk, lpI_mk, mnI_I, mxI_I, I_val, I_add, I_sub, I_mul, ShM_mk, hs, ndB_I, hM_jr, inB, smv hm, smn hm, bI_z, Bool.or_eq_true, Bool.or_false, Bool.false_or, beq_iff_eq, or_false, false_or, set_jA, uA_uA, uA_same, uA_ne, u1_ne, u1_same, nd_u1, nd_u1s, lpS_u1, n1, n2]
    refine ⟨fun z => absurd z (by omega), fun _ => ⟨fun z => ?_, fun z => ?_⟩⟩
    · rw [if_neg z] at ih
      exact kK _ _ _ _ ih
    · have z := Classical.not_not.mp z
      rw [if_pos z] at ih
      refine kK _ _ _ _ (GCD ok_M_growsCommit r_M_growsCommit_27 ⟨by decide, by decide⟩ qm_M_seesHeld (T_M_seesHeld (d := d - 1) (by omega) hs ⟨⟨n1, n2⟩, n3, n4, n5, n6⟩ hm ⟨z.1, z.2, by omega, by omega⟩ (ha k z)) rfl rfl (fun _ => rcM hs) rfl (Nat.le_of_ble_eq_true rfl) (by omega) ?_)
      refine G_ev ok_M_growsCommit (smC_ok (d := d - 1) (by omega)) (fun pc => pc == 10) 60 (by omega) (fun K kK => ?_)
      simp (disch := omega) only [ev_s, evN_ap, List.getElem?_cons_zero, List.getElem?_cons_succ, List.set_cons_zero, List.set_cons_succ, Bool.false_eq_true, ↓reduceIte, qrest_n, qrest_1, qrest_2, qrest_3, qrest_4, qrest_5, qrest_6, qtr_i, qtr_r, true_and, and_true, List.length_cons, List.length_nil, Int.cast_ofNat_Int, Int32.toInt_zero, false_implies, true_implies, not_false_eq_true, not_true_eq_false, Option.toList_some, Option.toList_none, List.cons_append, List.nil_append, Nat.reduceBEq, Nat.reduceEqDiff, Bool.or_self, or_self, Nat.reduceAdd, Nat.reduceLT, Nat.zero_add, Int.reduceAdd, Int.reduceLE, Int.reduceLT, Int.reduceEq, and_self, Int.reduceNeg, qrok_i, qrok_b0, qrok_b1, qrok_bI, Option.some.injEq, Value.int.injEq, J_bI0, J_bI1, e_0, v_0, e_1, v_1, e_2, v_2, e_3, v_3, e_5, v_5, e_6, v_6, e_13, v_13, e_14, v_14, e_15, v_15, e_41, e_44, e_45, qspl_z, qspl_s, evC_s, evD_none, evD_v, evD_s, c_0, c_4, b_0, smC_171, sw_M_max, smC_176, sw_M_the, smC_177, sw_M_sets, smC_182, sw_M_hasEntry, (smC_no (k := 238) rfl), r_M_growsCommit_0, r_M_growsCommit_1, r_M_growsCommit_2, r_M_growsCommit_4, r_M_growsCommit_7, r_M_growsCommit_8, r_M_growsCommit_9, r_M_growsCommit_10, r_M_growsCommit_11, r_M_growsCommit_12, r_M_growsCommit_15, r_M_growsCommit_16, r_M_growsCommit_17, r_M_growsCommit_18, r_M_growsCommit_21, r_M_growsCommit_24, r_M_growsCommit_25, r_M_growsCommit_26, r_M_growsCommit_27, r_M_growsCommit_30, r_M_growsCommit_33, r_M_growsCommit_36, r_M_growsCommit_37, r_M_growsCommit_38, r_M_growsCommit_40, r_M_growsCommit_41, r_M_growsCommit_42, r_M_growsCommit_44, r_M_growsCommit_47, r_M_growsCommit_48, r_M_growsCommit_51, r_M_growsCommit_54, (shS_o hs), (shS_r_now hs), (shS_k_now hs), nA_mk, lpI_mk, mnI_I, mxI_I, I_val, I_add, I_sub, I_mul, ShM_mk, hs, ndB_I, hM_jr, inB, smv hm, smn hm, bI_z, Bool.or_eq_true, Bool.or_false, Bool.false_or, beq_iff_eq, or_false, false_or, set_jA, uA_uA, uA_same, uA_ne, u1_ne, u1_same, nd_u1, nd_u1s, lpS_u1, n1, n2]
      exact kK _ _ _ _ ih
set_option maxHeartbeats 2000000 in
set_option maxRecDepth 100000 in
theorem T_M_growsCommit (hd : 9 ≤ d) (hs : ShMs s) {n w : Int} (hg : gOk (r 2199) n) (h9 : 0 ≤ nd (r 2199) n 9) (hw : 0 ≤ w ∧ w ≤ 999) : T l V mi_M_growsCommit (rm d) 0 0 [.ref 2198, .int (Int32.ofInt n), .int (Int32.ofInt w)] (mkH s (jn c r)) (fun v h' => v = none ∧ h' = mkH s (jn c (groR r n w))) := by
  refine T_ev qm_M_growsCommit [.ref 2198, .int (Int32.ofInt n), .int (Int32.ofInt w), .retAddr 0] rfl rfl (Nat.le_of_ble_eq_true rfl) ok_M_growsCommit (smC_ok (d := d - 1) (by omega)) (fun pc => pc == 10) 200 (by omega) (fun K kK => ?_)
  have hg' := hg
  obtain ⟨⟨⟨n1, n2⟩, n3, n4, n5, n6⟩, hm, ha⟩ := hg
  have c9 : -100000 ≤ nd (r 2199) n 9 ∧ nd (r 2199) n 9 ≤ 100000 := hm _ (by omega)
  simp (disch := omega) only [ev_s, evN_ap, List.getElem?_cons_zero, List.getElem?_cons_succ, List.set_cons_zero, List.set_cons_succ, Bool.false_eq_true, ↓reduceIte, qrest_n, qrest_1, qrest_2, qrest_3, qrest_4, qrest_5, qrest_6, qtr_i, qtr_r, true_and, and_true, List.length_cons, List.length_nil, Int.cast_ofNat_Int, Int32.toInt_zero, false_implies, true_implies, not_false_eq_true, not_true_eq_false, Option.toList_some, Option.toList_none, List.cons_append, List.nil_append, Nat.reduceBEq, Nat.reduceEqDiff, Bool.or_self, or_self, Nat.reduceAdd, Nat.reduceLT, Nat.zero_add, Int.reduceAdd, Int.reduceLE, Int.reduceLT, Int.reduceEq, and_self, Int.reduceNeg, qrok_i, qrok_b0, qrok_b1, qrok_bI, Option.some.injEq, Value.int.injEq, J_bI0, J_bI1, e_0, v_0, e_1, v_1, e_2, v_2, e_3, v_3, e_5, v_5, e_6, v_6, e_13, v_13, e_14, v_14, e_15, v_15, e_41, e_44, e_45, qspl_z, qspl_s, evC_s, evD_none, evD_v, evD_s, c_0, c_4, b_0, smC_171, sw_M_max, smC_176, sw_M_the, smC_177, sw_M_sets, smC_182, sw_M_hasEntry, (smC_no (k := 238) rfl), r_M_growsCommit_0, r_M_growsCommit_1, r_M_growsCommit_2, r_M_growsCommit_4, r_M_growsCommit_7, r_M_growsCommit_8, r_M_growsCommit_9, r_M_growsCommit_10, r_M_growsCommit_11, r_M_growsCommit_12, r_M_growsCommit_15, r_M_growsCommit_16, r_M_growsCommit_17, r_M_growsCommit_18, r_M_growsCommit_21, r_M_growsCommit_24, r_M_growsCommit_25, r_M_growsCommit_26, r_M_growsCommit_27, r_M_growsCommit_30, r_M_growsCommit_33, r_M_growsCommit_36, r_M_growsCommit_37, r_M_growsCommit_38, r_M_growsCommit_40, r_M_growsCommit_41, r_M_growsCommit_42, r_M_growsCommit_44, r_M_growsCommit_47, r_M_growsCommit_48, r_M_growsCommit_51, r_M_growsCommit_54, (shS_o hs), (shS_r_now hs), (shS_k_now hs), nA_mk, lpI_mk, mnI_I, mxI_I, I_val, I_add, I_sub, I_mul, ShM_mk, hs, ndB_I, hM_jr, inB, smv hm, smn hm, bI_z, Bool.or_eq_true, Bool.or_false, Bool.false_or, beq_iff_eq, or_false, false_or, set_jA, uA_uA, uA_same, uA_ne, u1_ne, u1_same, nd_u1, nd_u1s, lpS_u1, n1, n2]
  refine kK _ _ _ _ (L_grows (by omega) hs hw (w - nd (r 2199) n 9).toNat _ r ?_ (by omega) hg' ⟨rfl, rfl⟩)
  by_cases q : nd (r 2199) n 9 ≤ w
  · left; omega
  · exact Or.inr ⟨by omega, by omega, by omega⟩
end MS
