/-! what a node feels -/
theorem I_rem {x y : Int} (h1 : 0 ≤ x) (h2 : x ≤ 2147483647) (h3 : 0 < y) (h4 : y ≤ 2147483647) : Int32.ofInt x % Int32.ofInt y = Int32.ofInt (x % y) := by
  apply Int32.toInt_inj.mp
  have h5 := Int.emod_nonneg x (show y ≠ 0 by omega)
  have h6 := Int.emod_lt_of_pos x h3
  rw [Int32.toInt_mod, I_val (by omega) (by omega), I_val (by omega) (by omega), I_val (by omega) (by omega), Int.tmod_eq_emod_of_nonneg h1]
def rndS (S : qN) : Int := (25173 * S 11132 + 13849) % 65536
def fclS (S : qN) (F : qN) (n a b : Int) : qN := u1 (u1 (u1 (u1 (u1 (u1 (u1 F 0 n) 1 a) 2 b) 3 (nd S n 1 % 100)) 4 (S 11133)) 5 (S 11131 % 100)) 6 (rndS S % 10)
def xOk (S : qN) : Prop := 0 ≤ S 11132 ∧ S 11132 ≤ 65535 ∧ 0 ≤ S 11131
def feR (r : qI) (n a b : Int) : qI := uA (uA r 2199 (u1 (r 2199) 11132 (rndS (r 2199)))) 2217 (fclS (r 2199) (r 2217) n a b)
section MS
variable {l : Launch} {V : qV} {d : Nat} {s : qS} {c r : qI}
set_option maxHeartbeats 2000000 in
set_option maxRecDepth 100000 in
theorem T_M_feels (hd : 5 ≤ d) (hs : ShMs s) {n a b : Int} (hn : 0 ≤ n ∧ n ≤ 6) (hm : smS (r 2199)) (hx : xOk (r 2199)) (ht : 0 ≤ nd (r 2199) n 1) : T l V mi_M_feels (rm d) 0 0 [.ref 2198, .int (Int32.ofInt n), .int (Int32.ofInt a), .int (Int32.ofInt b)] (mkH s (jn c r)) (fun v h' => v = some (.int (Int32.ofInt (rndS (r 2199) % 10))) ∧ h' = mkH s (jn c (feR r n a b))) := by
  refine T_ev qm_M_feels [.ref 2198, .int (Int32.ofInt n), .int (Int32.ofInt a), .int (Int32.ofInt b)] rfl rfl (Nat.le_of_ble_eq_true rfl) ok_M_feels (smC_ok (d := d - 1) (by omega)) (fun _ => false) 200 (by omega) (fun K kK => ?_)
  obtain ⟨n1, n2⟩ := hn
  obtain ⟨x1, x2, x3⟩ := hx
  have c1 : -100000 ≤ nd (r 2199) n 1 ∧ nd (r 2199) n 1 ≤ 100000 := hm _ (by omega)
  have c2 := hm 11131 (by omega)
  have c3 : 0 ≤ (25173 * (r 2199) 11132 + 13849) % 65536 ∧ (25173 * (r 2199) 11132 + 13849) % 65536 ≤ 65535 := by omega
  simp (disch := omega) only [ev_s, evN_ap, List.getElem?_cons_zero, List.getElem?_cons_succ, List.set_cons_zero, List.set_cons_succ, Bool.false_eq_true, ↓reduceIte, qrest_n, qrest_1, qrest_2, qrest_3, qrest_4, qrest_5, qrest_6, qtr_i, qtr_r, true_and, and_true, List.length_cons, List.length_nil, Int.cast_ofNat_Int, Int32.toInt_zero, false_implies, true_implies, not_false_eq_true, not_true_eq_false, Option.toList_some, Option.toList_none, List.cons_append, List.nil_append, Nat.reduceBEq, Nat.reduceEqDiff, Bool.or_self, or_self, Nat.reduceAdd, Nat.reduceLT, Nat.zero_add, Int.reduceAdd, Int.reduceLE, Int.reduceLT, Int.reduceEq, and_self, Int.reduceNeg, qrok_i, qrok_b0, qrok_b1, qrok_bI, Option.some.injEq, Value.int.injEq, J_bI0, J_bI1, e_0, v_0, e_1, v_1, e_2, v_2, e_6, v_6, e_8, v_8, e_20, v_20, e_24, v_24, e_25, v_25, e_40, e_44, qspl_z, qspl_s, evC_s, evD_none, evD_v, evD_s, b_0, b_2, smC_176, sw_M_the, r_M_feels_0, r_M_feels_1, r_M_feels_4, r_M_feels_7, r_M_feels_10, r_M_feels_11, r_M_feels_14, r_M_feels_17, r_M_feels_18, r_M_feels_19, r_M_feels_22, r_M_feels_23, r_M_feels_26, r_M_feels_27, r_M_feels_28, r_M_feels_29, r_M_feels_32, r_M_feels_33, r_M_feels_34, r_M_feels_35, r_M_feels_36, r_M_feels_39, r_M_feels_40, r_M_feels_41, r_M_feels_42, r_M_feels_43, r_M_feels_46, r_M_feels_47, r_M_feels_48, r_M_feels_49, r_M_feels_50, r_M_feels_53, r_M_feels_54, r_M_feels_55, r_M_feels_56, r_M_feels_57, r_M_feels_60, r_M_feels_62, r_M_feels_63, r_M_feels_64, r_M_feels_65, r_M_feels_68, r_M_feels_69, r_M_feels_70, r_M_feels_73, r_M_feels_76, r_M_feels_77, r_M_feels_78, r_M_feels_79, r_M_feels_82, r_M_feels_83, r_M_feels_84, r_M_feels_87, r_M_feels_90, r_M_feels_91, r_M_feels_93, r_M_feels_94, r_M_feels_95, r_M_feels_96, r_M_feels_99, r_M_feels_101, r_M_feels_102, r_M_feels_105, r_M_feels_108, r_M_feels_109, r_M_feels_111, r_M_feels_112, r_M_feels_113, r_M_feels_114, r_M_feels_117, r_M_feels_119, r_M_feels_120, (shS_o hs), (shS_r_now hs), (shS_k_now hs), nA_mk, lpI_mk, mnI_I, mxI_I, I_val, I_add, I_sub, I_mul, ShM_mk, hs, ndB_I, hM_jr, inB, smv hm, smn hm, bI_z, Bool.or_eq_true, Bool.or_false, Bool.false_or, beq_iff_eq, or_false, false_or, set_jA, uA_uA, uA_same, uA_ne, u1_ne, u1_same, nd_u1, nd_u1s, lpS_u1, n1, n2, (shS_o hs), (shS_r_facts hs), (shS_k_facts hs), I_rem]
  exact ⟨rfl, rfl⟩
end MS
