/-! cut, seed -/
noncomputable def xnZ (a : Int) : Int := (Int32.ofInt a ^^^ Int32.ofInt (-1)).toInt
theorem I_xn {a : Int} : Int32.ofInt a ^^^ Int32.ofInt (-1) = Int32.ofInt (xnZ a) := by unfold xnZ; rw [Int32.ofInt_toInt]
theorem axn_lt : ∀ a : Nat, a < 128 → ∀ k : Nat, k < 7 → 0 ≤ andZ (a : Int) (xnZ (shZ 1 (k : Int))) ∧ andZ (a : Int) (xnZ (shZ 1 (k : Int))) ≤ 127 := by
  unfold andZ xnZ shZ
  decide +kernel
theorem axn_rng {a k : Int} (h : set7 a) (hk : 0 ≤ k ∧ k ≤ 6) : set7 (andZ a (xnZ (shZ 1 k))) := by
  have := axn_lt a.toNat (by have := h.1; have := h.2; omega) k.toNat (by omega)
  rwa [Int.toNat_of_nonneg h.1, Int.toNat_of_nonneg hk.1] at this
def ctP (a b : Int) : Prop := (0 ≤ a ∧ a ≤ 6) ∧ (0 ≤ b ∧ b ≤ 6) ∧ a ≠ b
noncomputable def ctV (v k w : Int) : Int := if w = 0 then andZ v (xnZ (shZ 1 k)) else orZ v (shZ 1 k)
noncomputable def ct2 (S : qN) (a b w : Int) : qN := u1 (u1 S (11124 + a) (ctV (S (11124 + a)) b w)) (11124 + b) (ctV (S (11124 + b)) a w)
noncomputable def ctS (S : qN) (a b w : Int) : qN := @ite _ (ctP a b) (Classical.propDecidable _) (ct2 S a b w) S
def sdP (x : Int) : Prop := 0 ≤ x ∧ x ≤ 65535
noncomputable def seedS (S : qN) (x : Int) : qN := @ite _ (sdP x) (Classical.propDecidable _) (u1 S 11132 x) S
section OKs
variable {R : Int} {S : qN} {n : Int} {L : qL}
theorem OK_cut1 (h : OK R S) (hn : 0 ≤ n ∧ n ≤ 6) {v : Int} (hv : 0 ≤ v ∧ v ≤ 127) : OK R (u1 S (11124 + n) v) := by
  have g := OK_g h
  obtain ⟨⟨a1, a2⟩, b, c, d, -, f1, f2, f3⟩ := h
  have e : ∀ j, j ≠ 11124 + n → u1 S (11124 + n) v j = S j := fun j hj => u1_ne hj
  refine ⟨⟨smS_u1 a1 (by omega) (by omega), a2⟩, fun m m1 m2 => NOK_c (fun e' e1 e2 => e _ (by omega)) (b m m1 m2), fun m m1 m2 => ?_, fun m m1 m2 => ?_, ?_, fun m m1 m2 => ?_, fun m m1 m2 => ?_, fun m m1 m2 => ?_⟩
  · have := g.2.2.1
    rw [e _ (by omega)] at m2
    exact MOK_c (fun e' e1 e2 _ => e _ (by omega)) (c m m1 m2)
  · have := g.2.2.2.2.1
    rw [e _ (by omega)] at m2
    exact ROK_c (fun e' e1 e2 => e _ (by omega)) (d m m1 m2)
  · unfold GOK; rw [e 11131 (by omega), e 11132 (by omega), e 11133 (by omega), e 11134 (by omega), e 11135 (by omega), e 11137 (by omega)]; exact g
  · unfold u1; split
    · exact hv
    · exact f1 m m1 m2
  · rw [e _ (by omega)]
    exact (f2 m m1 m2).imp id (fun q => (EOK_c (fun i i1 i2 => e _ (by omega))).mpr q)
  · rw [e _ (by omega)]; exact f3 m m1 m2
theorem ctV_rng {v k w : Int} (h : set7 v) (hk : 0 ≤ k ∧ k ≤ 6) : 0 ≤ ctV v k w ∧ ctV v k w ≤ 127 := by
  unfold ctV; split
  · exact axn_rng h hk
  · exact or_rng h (sh_rng hk)
theorem RSt_ct (h : RSt S) {a b w : Int} : RSt (ctS S a b w) := by
  unfold ctS; split
  · rename_i q
    obtain ⟨qa, qb, qn⟩ := q
    have ha := (OK_h h.1).1 a qa.1 qa.2
    have hb := (OK_h h.1).1 b qb.1 qb.2
    unfold ct2
    exact RSt_same h (OK_cut1 (OK_cut1 h.1 qa (ctV_rng ha qb)) qb (ctV_rng hb qa)) ⟨by rw [u1_ne (by omega), u1_ne (by omega)], by rw [u1_ne (by omega), u1_ne (by omega)]⟩ (TKs_tk h.2 (Tk_lo (fun j hj => by rw [u1_ne (by omega), u1_ne (by omega)])))
  · exact h
theorem RSt_sd (h : RSt S) {x : Int} : RSt (seedS S x) := by
  unfold seedS; split
  · rename_i q
    unfold sdP at q
    have g := OK_g h.1
    refine RSt_same h (OK_out h.1 (fun j hj => u1_ne (by omega)) (smS_u1 (OK_sm h.1) (by omega) (by omega)) ?_ (fun m m1 m2 => ?_) (u1_ne (by omega))) ⟨u1_ne (by omega), u1_ne (by omega)⟩ (TKs_tk h.2 (Tk_lo (fun j hj => u1_ne (by omega))))
    · unfold GOK; rw [u1_ne (by omega), u1_same, u1_ne (by omega), u1_ne (by omega), u1_ne (by omega), u1_ne (by omega)]; exact ⟨g.1, q, g.2.2⟩
    · rw [u1_ne (by omega)] at m2
      have := g.2.2.1
      exact MOK_c (fun e e1 e2 _ => u1_ne (by omega)) (OK_m h.1 m1 m2)
  · exact h
end OKs
section MS
variable {l : Launch} {V : qV} {d : Nat} {s : qS} {c r r0 : qI} {R n : Int} {Q : Option Value → qH → Prop}
set_option maxHeartbeats 2000000 in
set_option maxRecDepth 100000 in
theorem T_M_seed (hd : 6 ≤ d) (hs : ShMs s) {x : Int} (hb : -2147483648 ≤ x ∧ x ≤ 2147483647) (ho : RSt (r 2199)) : TZ l V d mi_M_seed [.ref 2198, .int (Int32.ofInt x)] s c r (some (.int (bI (sdP x)))) (seedS (r 2199) x) := by
  refine T_ev qm_M_seed [.ref 2198, .int (Int32.ofInt x)] rfl rfl (Nat.le_of_ble_eq_true rfl) ok_M_seed (smE_ok (d := d - 1) (by omega)) (fun _ => false) 200 (by omega) (fun K kK => ?_)
  have hm := OK_sm ho.1
  by_cases q : sdP x
  · have q' := q
    unfold sdP at q'
    have g : ∃ r', mkH s (jn c (uA r 2199 (u1 (r 2199) 11132 x))) = mkH s (jn c r') ∧ r' 2199 = seedS (r 2199) x ∧ Rz r r' := ⟨_, rfl, by rw [uA_same]; unfold seedS; rw [if_pos q], Rz_n⟩
    simp (disch := omega) only [ev_s, evN_ap, List.getElem?_cons_zero, List.getElem?_cons_succ, List.set_cons_zero, List.set_cons_succ, Bool.false_eq_true, ↓reduceIte, qrest_n, qrest_1, qrest_2, qrest_3, qrest_4, qrest_5, qrest_6, qtr_i, qtr_r, true_and, and_true, List.length_cons, List.length_nil, Int.cast_ofNat_Int, Int32.toInt_zero, false_implies, true_implies, not_false_eq_true, not_true_eq_false, Option.toList_some, Option.toList_none, List.cons_append, List.nil_append, Nat.reduceBEq, Nat.reduceEqDiff, Bool.or_self, or_self, Nat.reduceAdd, Nat.reduceLT, Nat.zero_add, Int.reduceAdd, Int.reduceLE, Int.reduceLT, Int.reduceEq, and_self, Int.reduceNeg, qrok_i, qrok_b0, qrok_b1, qrok_bI, Option.some.injEq, Value.int.injEq, J_bI0, J_bI1, Classical.not_not, Int.zero_add, Int.add_zero, Int.sub_zero, false_and, and_false, and_true, true_and, e_0, v_0, e_1, v_1, e_2, v_2, e_14, v_14, e_20, v_20, e_25, v_25, e_40, e_45, qspl_z, qspl_s, evC_s, evD_none, evD_v, evD_s, c_1, smE_169, sw_M_in, r_M_seed_0, r_M_seed_1, r_M_seed_2, r_M_seed_5, r_M_seed_8, r_M_seed_11, r_M_seed_12, r_M_seed_13, r_M_seed_14, r_M_seed_17, r_M_seed_20, r_M_seed_21, r_M_seed_22, r_M_seed_23, (shS_o hs), (shS_r_now hs), (shS_k_now hs), nA_mk, lpI_mk, mnI_I, mxI_I, I_val, I_add, I_sub, I_mul, ShM_mk, hs, ndB_I, hM_jr, inB, smv hm, smn hm, bI_z, Bool.or_eq_true, Bool.or_false, Bool.false_or, beq_iff_eq, or_false, false_or, set_jA, uA_uA, uA_same, uA_ne, u1_ne, u1_same, nd_u1, nd_u1s, lpS_u1]
    repeat' (first | with_reducible apply And.intro | intro _)
    all_goals first | assumption | contradiction | trivial | (exact kK _ _ _ _ g) | (exact kK _ _ _ _ q) | (exact g) | (exact q) | (clear kK; omega)
  · have q' := q
    unfold sdP at q'
    have g : ∃ r', mkH s (jn c r) = mkH s (jn c r') ∧ r' 2199 = seedS (r 2199) x ∧ Rz r r' := ⟨r, rfl, by unfold seedS; rw [if_neg q], Rz_rf r⟩
    simp (disch := omega) only [ev_s, evN_ap, List.getElem?_cons_zero, List.getElem?_cons_succ, List.set_cons_zero, List.set_cons_succ, Bool.false_eq_true, ↓reduceIte, qrest_n, qrest_1, qrest_2, qrest_3, qrest_4, qrest_5, qrest_6, qtr_i, qtr_r, true_and, and_true, List.length_cons, List.length_nil, Int.cast_ofNat_Int, Int32.toInt_zero, false_implies, true_implies, not_false_eq_true, not_true_eq_false, Option.toList_some, Option.toList_none, List.cons_append, List.nil_append, Nat.reduceBEq, Nat.reduceEqDiff, Bool.or_self, or_self, Nat.reduceAdd, Nat.reduceLT, Nat.zero_add, Int.reduceAdd, Int.reduceLE, Int.reduceLT, Int.reduceEq, and_self, Int.reduceNeg, qrok_i, qrok_b0, qrok_b1, qrok_bI, Option.some.injEq, Value.int.injEq, J_bI0, J_bI1, Classical.not_not, Int.zero_add, Int.add_zero, Int.sub_zero, false_and, and_false, and_true, true_and, e_0, v_0, e_1, v_1, e_2, v_2, e_14, v_14, e_20, v_20, e_25, v_25, e_40, e_45, qspl_z, qspl_s, evC_s, evD_none, evD_v, evD_s, c_1, smE_169, sw_M_in, r_M_seed_0, r_M_seed_1, r_M_seed_2, r_M_seed_5, r_M_seed_8, r_M_seed_11, r_M_seed_12, r_M_seed_13, r_M_seed_14, r_M_seed_17, r_M_seed_20, r_M_seed_21, r_M_seed_22, r_M_seed_23, (shS_o hs), (shS_r_now hs), (shS_k_now hs), nA_mk, lpI_mk, mnI_I, mxI_I, I_val, I_add, I_sub, I_mul, ShM_mk, hs, ndB_I, hM_jr, inB, smv hm, smn hm, bI_z, Bool.or_eq_true, Bool.or_false, Bool.false_or, beq_iff_eq, or_false, false_or, set_jA, uA_uA, uA_same, uA_ne, u1_ne, u1_same, nd_u1, nd_u1s, lpS_u1]
    repeat' (first | with_reducible apply And.intro | intro _)
    all_goals first | assumption | contradiction | trivial | (exact q (by assumption)) | (exact kK _ _ _ _ g) | (exact g) | (clear kK; omega)
set_option maxHeartbeats 2000000 in
set_option maxRecDepth 100000 in
theorem T_M_cut (hd : 6 ≤ d) (hs : ShMs s) {a b w : Int} (hb : (-2147483648 ≤ a ∧ a ≤ 2147483647) ∧ (-2147483648 ≤ b ∧ b ≤ 2147483647) ∧ (w = 0 ∨ w = 1)) (ho : RSt (r 2199)) : TZ l V d mi_M_cut [.ref 2198, .int (Int32.ofInt a), .int (Int32.ofInt b), .int (Int32.ofInt w)] s c r (some (.int (bI (ctP a b)))) (ctS (r 2199) a b w) := by
  refine T_ev qm_M_cut [.ref 2198, .int (Int32.ofInt a), .int (Int32.ofInt b), .int (Int32.ofInt w)] rfl rfl (Nat.le_of_ble_eq_true rfl) ok_M_cut (smE_ok (d := d - 1) (by omega)) (fun _ => false) 200 (by omega) (fun K kK => ?_)
  have hm := OK_sm ho.1
  by_cases q : ctP a b
  · obtain ⟨qa, qb, qn⟩ := q
    have q : ctP a b := ⟨qa, qb, qn⟩
    have ha := (OK_h ho.1).1 a qa.1 qa.2
    have hb' := (OK_h ho.1).1 b qb.1 qb.2
    have g : ∃ r', mkH s (jn c (uA r 2199 (ct2 (r 2199) a b w))) = mkH s (jn c r') ∧ r' 2199 = ctS (r 2199) a b w ∧ Rz r r' := ⟨_, rfl, by rw [uA_same]; unfold ctS; rw [if_pos q], Rz_n⟩
    have hne : u1 (r 2199) (11124 + a) (ctV (r 2199 (11124 + a)) b w) (11124 + b) = r 2199 (11124 + b) := u1_ne (by omega)
    unfold ct2 at g
    rcases hb.2.2 with rfl | rfl
    · unfold ctV at g hne
      rw [if_pos rfl] at hne
      rw [if_pos rfl, if_pos rfl] at g
      simp (disch := omega) only [ev_s, evN_ap, List.getElem?_cons_zero, List.getElem?_cons_succ, List.set_cons_zero, List.set_cons_succ, Bool.false_eq_true, ↓reduceIte, qrest_n, qrest_1, qrest_2, qrest_3, qrest_4, qrest_5, qrest_6, qtr_i, qtr_r, true_and, and_true, List.length_cons, List.length_nil, Int.cast_ofNat_Int, Int32.toInt_zero, false_implies, true_implies, not_false_eq_true, not_true_eq_false, Option.toList_some, Option.toList_none, List.cons_append, List.nil_append, Nat.reduceBEq, Nat.reduceEqDiff, Bool.or_self, or_self, Nat.reduceAdd, Nat.reduceLT, Nat.zero_add, Int.reduceAdd, Int.reduceLE, Int.reduceLT, Int.reduceEq, and_self, Int.reduceNeg, qrok_i, qrok_b0, qrok_b1, qrok_bI, Option.some.injEq, Value.int.injEq, J_bI0, J_bI1, Classical.not_not, Int.zero_add, Int.add_zero, Int.sub_zero, false_and, and_false, and_true, true_and, e_0, v_0, e_1, v_1, e_2, v_2, e_6, v_6, e_13, v_13, e_14, v_14, e_15, v_15, e_20, v_20, e_24, v_24, e_25, v_25, e_40, e_45, qspl_z, qspl_s, evC_s, evD_none, evD_v, evD_s, c_0, c_1, b_0, b_3, b_4, b_5, b_6, smE_175, sw_M_isNode, r_M_cut_0, r_M_cut_1, r_M_cut_4, r_M_cut_7, r_M_cut_8, r_M_cut_11, r_M_cut_14, r_M_cut_15, r_M_cut_16, r_M_cut_19, r_M_cut_20, r_M_cut_21, r_M_cut_22, r_M_cut_25, r_M_cut_28, r_M_cut_29, r_M_cut_30, r_M_cut_31, r_M_cut_34, r_M_cut_35, r_M_cut_38, r_M_cut_41, r_M_cut_42, r_M_cut_43, r_M_cut_44, r_M_cut_45, r_M_cut_46, r_M_cut_47, r_M_cut_48, r_M_cut_51, r_M_cut_52, r_M_cut_55, r_M_cut_58, r_M_cut_59, r_M_cut_60, r_M_cut_61, r_M_cut_62, r_M_cut_63, r_M_cut_64, r_M_cut_65, r_M_cut_66, r_M_cut_67, r_M_cut_68, r_M_cut_69, r_M_cut_72, r_M_cut_75, r_M_cut_76, r_M_cut_77, r_M_cut_78, r_M_cut_81, r_M_cut_82, r_M_cut_85, r_M_cut_88, r_M_cut_89, r_M_cut_90, r_M_cut_91, r_M_cut_92, r_M_cut_93, r_M_cut_94, r_M_cut_95, r_M_cut_98, r_M_cut_99, r_M_cut_102, r_M_cut_105, r_M_cut_106, r_M_cut_107, r_M_cut_108, r_M_cut_109, r_M_cut_110, r_M_cut_111, r_M_cut_112, r_M_cut_113, r_M_cut_114, r_M_cut_115, r_M_cut_116, (shS_o hs), (shS_r_now hs), (shS_k_now hs), nA_mk, lpI_mk, mnI_I, mxI_I, I_val, I_add, I_sub, I_mul, ShM_mk, hs, ndB_I, hM_jr, inB, smv hm, smn hm, bI_z, Bool.or_eq_true, Bool.or_false, Bool.false_or, beq_iff_eq, or_false, false_or, set_jA, uA_uA, uA_same, uA_ne, u1_ne, u1_same, nd_u1, nd_u1s, lpS_u1, b_6, b_5, b_3, I_sh, I_xn, I_and, hne]
      repeat' (first | with_reducible apply And.intro | intro _)
      all_goals first | assumption | contradiction | trivial | (exact kK _ _ _ _ g) | (exact kK _ _ _ _ q) | (exact g) | (exact q) | (clear kK; omega)
    · unfold ctV at g hne
      rw [if_neg (by omega)] at hne
      rw [if_neg (by omega), if_neg (by omega)] at g
      simp (disch := omega) only [ev_s, evN_ap, List.getElem?_cons_zero, List.getElem?_cons_succ, List.set_cons_zero, List.set_cons_succ, Bool.false_eq_true, ↓reduceIte, qrest_n, qrest_1, qrest_2, qrest_3, qrest_4, qrest_5, qrest_6, qtr_i, qtr_r, true_and, and_true, List.length_cons, List.length_nil, Int.cast_ofNat_Int, Int32.toInt_zero, false_implies, true_implies, not_false_eq_true, not_true_eq_false, Option.toList_some, Option.toList_none, List.cons_append, List.nil_append, Nat.reduceBEq, Nat.reduceEqDiff, Bool.or_self, or_self, Nat.reduceAdd, Nat.reduceLT, Nat.zero_add, Int.reduceAdd, Int.reduceLE, Int.reduceLT, Int.reduceEq, and_self, Int.reduceNeg, qrok_i, qrok_b0, qrok_b1, qrok_bI, Option.some.injEq, Value.int.injEq, J_bI0, J_bI1, Classical.not_not, Int.zero_add, Int.add_zero, Int.sub_zero, false_and, and_false, and_true, true_and, e_0, v_0, e_1, v_1, e_2, v_2, e_6, v_6, e_13, v_13, e_14, v_14, e_15, v_15, e_20, v_20, e_24, v_24, e_25, v_25, e_40, e_45, qspl_z, qspl_s, evC_s, evD_none, evD_v, evD_s, c_0, c_1, b_0, b_3, b_4, b_5, b_6, smE_175, sw_M_isNode, r_M_cut_0, r_M_cut_1, r_M_cut_4, r_M_cut_7, r_M_cut_8, r_M_cut_11, r_M_cut_14, r_M_cut_15, r_M_cut_16, r_M_cut_19, r_M_cut_20, r_M_cut_21, r_M_cut_22, r_M_cut_25, r_M_cut_28, r_M_cut_29, r_M_cut_30, r_M_cut_31, r_M_cut_34, r_M_cut_35, r_M_cut_38, r_M_cut_41, r_M_cut_42, r_M_cut_43, r_M_cut_44, r_M_cut_45, r_M_cut_46, r_M_cut_47, r_M_cut_48, r_M_cut_51, r_M_cut_52, r_M_cut_55, r_M_cut_58, r_M_cut_59, r_M_cut_60, r_M_cut_61, r_M_cut_62, r_M_cut_63, r_M_cut_64, r_M_cut_65, r_M_cut_66, r_M_cut_67, r_M_cut_68, r_M_cut_69, r_M_cut_72, r_M_cut_75, r_M_cut_76, r_M_cut_77, r_M_cut_78, r_M_cut_81, r_M_cut_82, r_M_cut_85, r_M_cut_88, r_M_cut_89, r_M_cut_90, r_M_cut_91, r_M_cut_92, r_M_cut_93, r_M_cut_94, r_M_cut_95, r_M_cut_98, r_M_cut_99, r_M_cut_102, r_M_cut_105, r_M_cut_106, r_M_cut_107, r_M_cut_108, r_M_cut_109, r_M_cut_110, r_M_cut_111, r_M_cut_112, r_M_cut_113, r_M_cut_114, r_M_cut_115, r_M_cut_116, (shS_o hs), (shS_r_now hs), (shS_k_now hs), nA_mk, lpI_mk, mnI_I, mxI_I, I_val, I_add, I_sub, I_mul, ShM_mk, hs, ndB_I, hM_jr, inB, smv hm, smn hm, bI_z, Bool.or_eq_true, Bool.or_false, Bool.false_or, beq_iff_eq, or_false, false_or, set_jA, uA_uA, uA_same, uA_ne, u1_ne, u1_same, nd_u1, nd_u1s, lpS_u1, b_6, b_4, I_sh, I_or, hne]
      repeat' (first | with_reducible apply And.intro | intro _)
      all_goals first | assumption | contradiction | trivial | (exact kK _ _ _ _ g) | (exact kK _ _ _ _ q) | (exact g) | (exact q) | (clear kK; omega)
  · have q' := q
    unfold ctP at q'
    have g : ∃ r', mkH s (jn c r) = mkH s (jn c r') ∧ r' 2199 = ctS (r 2199) a b w ∧ Rz r r' := ⟨r, rfl, by unfold ctS; rw [if_neg q], Rz_rf r⟩
    by_cases ha : 0 ≤ a ∧ a ≤ 6
    · by_cases hb2 : 0 ≤ b ∧ b ≤ 6
      · have hab : a = b := Classical.byContradiction (fun z => q ⟨ha, hb2, z⟩)
        subst hab
        simp (disch := omega) only [ev_s, evN_ap, List.getElem?_cons_zero, List.getElem?_cons_succ, List.set_cons_zero, List.set_cons_succ, Bool.false_eq_true, ↓reduceIte, qrest_n, qrest_1, qrest_2, qrest_3, qrest_4, qrest_5, qrest_6, qtr_i, qtr_r, true_and, and_true, List.length_cons, List.length_nil, Int.cast_ofNat_Int, Int32.toInt_zero, false_implies, true_implies, not_false_eq_true, not_true_eq_false, Option.toList_some, Option.toList_none, List.cons_append, List.nil_append, Nat.reduceBEq, Nat.reduceEqDiff, Bool.or_self, or_self, Nat.reduceAdd, Nat.reduceLT, Nat.zero_add, Int.reduceAdd, Int.reduceLE, Int.reduceLT, Int.reduceEq, and_self, Int.reduceNeg, qrok_i, qrok_b0, qrok_b1, qrok_bI, Option.some.injEq, Value.int.injEq, J_bI0, J_bI1, Classical.not_not, Int.zero_add, Int.add_zero, Int.sub_zero, false_and, and_false, and_true, true_and, e_0, v_0, e_1, v_1, e_2, v_2, e_6, v_6, e_13, v_13, e_14, v_14, e_15, v_15, e_20, v_20, e_24, v_24, e_25, v_25, e_40, e_45, qspl_z, qspl_s, evC_s, evD_none, evD_v, evD_s, c_0, c_1, b_0, b_3, b_4, b_5, b_6, smE_175, sw_M_isNode, r_M_cut_0, r_M_cut_1, r_M_cut_4, r_M_cut_7, r_M_cut_8, r_M_cut_11, r_M_cut_14, r_M_cut_15, r_M_cut_16, r_M_cut_19, r_M_cut_20, r_M_cut_21, r_M_cut_22, r_M_cut_25, r_M_cut_28, r_M_cut_29, r_M_cut_30, r_M_cut_31, r_M_cut_34, r_M_cut_35, r_M_cut_38, r_M_cut_41, r_M_cut_42, r_M_cut_43, r_M_cut_44, r_M_cut_45, r_M_cut_46, r_M_cut_47, r_M_cut_48, r_M_cut_51, r_M_cut_52, r_M_cut_55, r_M_cut_58, r_M_cut_59, r_M_cut_60, r_M_cut_61, r_M_cut_62, r_M_cut_63, r_M_cut_64, r_M_cut_65, r_M_cut_66, r_M_cut_67, r_M_cut_68, r_M_cut_69, r_M_cut_72, r_M_cut_75, r_M_cut_76, r_M_cut_77, r_M_cut_78, r_M_cut_81, r_M_cut_82, r_M_cut_85, r_M_cut_88, r_M_cut_89, r_M_cut_90, r_M_cut_91, r_M_cut_92, r_M_cut_93, r_M_cut_94, r_M_cut_95, r_M_cut_98, r_M_cut_99, r_M_cut_102, r_M_cut_105, r_M_cut_106, r_M_cut_107, r_M_cut_108, r_M_cut_109, r_M_cut_110, r_M_cut_111, r_M_cut_112, r_M_cut_113, r_M_cut_114, r_M_cut_115, r_M_cut_116, (shS_o hs), (shS_r_now hs), (shS_k_now hs), nA_mk, lpI_mk, mnI_I, mxI_I, I_val, I_add, I_sub, I_mul, ShM_mk, hs, ndB_I, hM_jr, inB, smv hm, smn hm, bI_z, Bool.or_eq_true, Bool.or_false, Bool.false_or, beq_iff_eq, or_false, false_or, set_jA, uA_uA, uA_same, uA_ne, u1_ne, u1_same, nd_u1, nd_u1s, lpS_u1]
        repeat' (first | with_reducible apply And.intro | intro _)
        all_goals first | assumption | contradiction | trivial | (exact q (by assumption)) | (exact kK _ _ _ _ g) | (exact g) | (clear kK; omega)
      · simp (disch := omega) only [ev_s, evN_ap, List.getElem?_cons_zero, List.getElem?_cons_succ, List.set_cons_zero, List.set_cons_succ, Bool.false_eq_true, ↓reduceIte, qrest_n, qrest_1, qrest_2, qrest_3, qrest_4, qrest_5, qrest_6, qtr_i, qtr_r, true_and, and_true, List.length_cons, List.length_nil, Int.cast_ofNat_Int, Int32.toInt_zero, false_implies, true_implies, not_false_eq_true, not_true_eq_false, Option.toList_some, Option.toList_none, List.cons_append, List.nil_append, Nat.reduceBEq, Nat.reduceEqDiff, Bool.or_self, or_self, Nat.reduceAdd, Nat.reduceLT, Nat.zero_add, Int.reduceAdd, Int.reduceLE, Int.reduceLT, Int.reduceEq, and_self, Int.reduceNeg, qrok_i, qrok_b0, qrok_b1, qrok_bI, Option.some.injEq, Value.int.injEq, J_bI0, J_bI1, Classical.not_not, Int.zero_add, Int.add_zero, Int.sub_zero, false_and, and_false, and_true, true_and, e_0, v_0, e_1, v_1, e_2, v_2, e_6, v_6, e_13, v_13, e_14, v_14, e_15, v_15, e_20, v_20, e_24, v_24, e_25, v_25, e_40, e_45, qspl_z, qspl_s, evC_s, evD_none, evD_v, evD_s, c_0, c_1, b_0, b_3, b_4, b_5, b_6, smE_175, sw_M_isNode, r_M_cut_0, r_M_cut_1, r_M_cut_4, r_M_cut_7, r_M_cut_8, r_M_cut_11, r_M_cut_14, r_M_cut_15, r_M_cut_16, r_M_cut_19, r_M_cut_20, r_M_cut_21, r_M_cut_22, r_M_cut_25, r_M_cut_28, r_M_cut_29, r_M_cut_30, r_M_cut_31, r_M_cut_34, r_M_cut_35, r_M_cut_38, r_M_cut_41, r_M_cut_42, r_M_cut_43, r_M_cut_44, r_M_cut_45, r_M_cut_46, r_M_cut_47, r_M_cut_48, r_M_cut_51, r_M_cut_52, r_M_cut_55, r_M_cut_58, r_M_cut_59, r_M_cut_60, r_M_cut_61, r_M_cut_62, r_M_cut_63, r_M_cut_64, r_M_cut_65, r_M_cut_66, r_M_cut_67, r_M_cut_68, r_M_cut_69, r_M_cut_72, r_M_cut_75, r_M_cut_76, r_M_cut_77, r_M_cut_78, r_M_cut_81, r_M_cut_82, r_M_cut_85, r_M_cut_88, r_M_cut_89, r_M_cut_90, r_M_cut_91, r_M_cut_92, r_M_cut_93, r_M_cut_94, r_M_cut_95, r_M_cut_98, r_M_cut_99, r_M_cut_102, r_M_cut_105, r_M_cut_106, r_M_cut_107, r_M_cut_108, r_M_cut_109, r_M_cut_110, r_M_cut_111, r_M_cut_112, r_M_cut_113, r_M_cut_114, r_M_cut_115, r_M_cut_116, (shS_o hs), (shS_r_now hs), (shS_k_now hs), nA_mk, lpI_mk, mnI_I, mxI_I, I_val, I_add, I_sub, I_mul, ShM_mk, hs, ndB_I, hM_jr, inB, smv hm, smn hm, bI_z, Bool.or_eq_true, Bool.or_false, Bool.false_or, beq_iff_eq, or_false, false_or, set_jA, uA_uA, uA_same, uA_ne, u1_ne, u1_same, nd_u1, nd_u1s, lpS_u1, hb2]
        repeat' (first | with_reducible apply And.intro | intro _)
        all_goals first | assumption | contradiction | trivial | (exact q (by assumption)) | (exact kK _ _ _ _ g) | (exact g) | (clear kK; omega)
    · simp (disch := omega) only [ev_s, evN_ap, List.getElem?_cons_zero, List.getElem?_cons_succ, List.set_cons_zero, List.set_cons_succ, Bool.false_eq_true, ↓reduceIte, qrest_n, qrest_1, qrest_2, qrest_3, qrest_4, qrest_5, qrest_6, qtr_i, qtr_r, true_and, and_true, List.length_cons, List.length_nil, Int.cast_ofNat_Int, Int32.toInt_zero, false_implies, true_implies, not_false_eq_true, not_true_eq_false, Option.toList_some, Option.toList_none, List.cons_append, List.nil_append, Nat.reduceBEq, Nat.reduceEqDiff, Bool.or_self, or_self, Nat.reduceAdd, Nat.reduceLT, Nat.zero_add, Int.reduceAdd, Int.reduceLE, Int.reduceLT, Int.reduceEq, and_self, Int.reduceNeg, qrok_i, qrok_b0, qrok_b1, qrok_bI, Option.some.injEq, Value.int.injEq, J_bI0, J_bI1, Classical.not_not, Int.zero_add, Int.add_zero, Int.sub_zero, false_and, and_false, and_true, true_and, e_0, v_0, e_1, v_1, e_2, v_2, e_6, v_6, e_13, v_13, e_14, v_14, e_15, v_15, e_20, v_20, e_24, v_24, e_25, v_25, e_40, e_45, qspl_z, qspl_s, evC_s, evD_none, evD_v, evD_s, c_0, c_1, b_0, b_3, b_4, b_5, b_6, smE_175, sw_M_isNode, r_M_cut_0, r_M_cut_1, r_M_cut_4, r_M_cut_7, r_M_cut_8, r_M_cut_11, r_M_cut_14, r_M_cut_15, r_M_cut_16, r_M_cut_19, r_M_cut_20, r_M_cut_21, r_M_cut_22, r_M_cut_25, r_M_cut_28, r_M_cut_29, r_M_cut_30, r_M_cut_31, r_M_cut_34, r_M_cut_35, r_M_cut_38, r_M_cut_41, r_M_cut_42, r_M_cut_43, r_M_cut_44, r_M_cut_45, r_M_cut_46, r_M_cut_47, r_M_cut_48, r_M_cut_51, r_M_cut_52, r_M_cut_55, r_M_cut_58, r_M_cut_59, r_M_cut_60, r_M_cut_61, r_M_cut_62, r_M_cut_63, r_M_cut_64, r_M_cut_65, r_M_cut_66, r_M_cut_67, r_M_cut_68, r_M_cut_69, r_M_cut_72, r_M_cut_75, r_M_cut_76, r_M_cut_77, r_M_cut_78, r_M_cut_81, r_M_cut_82, r_M_cut_85, r_M_cut_88, r_M_cut_89, r_M_cut_90, r_M_cut_91, r_M_cut_92, r_M_cut_93, r_M_cut_94, r_M_cut_95, r_M_cut_98, r_M_cut_99, r_M_cut_102, r_M_cut_105, r_M_cut_106, r_M_cut_107, r_M_cut_108, r_M_cut_109, r_M_cut_110, r_M_cut_111, r_M_cut_112, r_M_cut_113, r_M_cut_114, r_M_cut_115, r_M_cut_116, (shS_o hs), (shS_r_now hs), (shS_k_now hs), nA_mk, lpI_mk, mnI_I, mxI_I, I_val, I_add, I_sub, I_mul, ShM_mk, hs, ndB_I, hM_jr, inB, smv hm, smn hm, bI_z, Bool.or_eq_true, Bool.or_false, Bool.false_or, beq_iff_eq, or_false, false_or, set_jA, uA_uA, uA_same, uA_ne, u1_ne, u1_same, nd_u1, nd_u1s, lpS_u1, ha]
      repeat' (first | with_reducible apply And.intro | intro _)
      all_goals first | assumption | contradiction | trivial | (exact q (by assumption)) | (exact kK _ _ _ _ g) | (exact g) | (clear kK; omega)
end MS
