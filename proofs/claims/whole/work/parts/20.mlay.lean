/-! an entry is laid -/
theorem goS_4 {S : qN} {n i : Int} : nd (goS S n i) n 4 = i := by unfold goS; exact nd_u1s
theorem goS_8 {S : qN} {n i : Int} : nd (goS S n i) n 8 = max 0 (nd S n 8 - (i - nd S n 4)) := by
  unfold goS; rw [nd_u1 (by omega)]; exact nd_u1s
theorem goS_ne {S : qN} {n i j : Int} (h : j < 244 * n ∨ 244 * n + 244 ≤ j ∨ (j < 244 * n + 52 ∧ j ≠ 244 * n + 4 ∧ j ≠ 244 * n + 8)) (hm : nd S n 8 ≤ 48) (hb : nd S n 4 ≤ i) : goS S n i j = S j := by
  unfold goS
  rw [u1_ne (by omega), u1_ne (by omega)]
  unfold shS
  rw [if_neg (by omega)]
theorem smS_goS {S : qN} {n i : Int} (h : smS S) (hn : nOk S n) (hb : nd S n 4 ≤ i) (hi : i ≤ 999) : smS (goS S n i) := by
  obtain ⟨⟨n1, n2⟩, n3, n4, n5, n6⟩ := hn
  unfold goS
  refine smS_u1 (smS_u1 ?_ (by omega) (by omega)) (by omega) (by omega)
  intro j hj
  unfold shS; split
  · exact h _ (by omega)
  · exact h j hj
theorem cmA_ne {S : qN} {n j : Int} (h : j ≠ 244 * n + 6 ∧ j ≠ 244 * n + 7) : cmA S n j = S j := by
  unfold cmA; split
  · rfl
  · rw [u1_ne h.2, u1_ne h.1]
theorem cmA_nd {S : qN} {n e : Int} (h : e ≠ 6 ∧ e ≠ 7) : nd (cmA S n) n e = nd S n e := cmA_ne (by omega)
theorem smS_cmA {S : qN} {n : Int} (h : smS S) (hn : nOk S n) (hk : kOk S n) : smS (cmA S n) := by
  have hn' := hn
  obtain ⟨⟨n1, n2⟩, n3, n4, n5, n6⟩ := hn
  have hc := cfgAt_rng (u := nd S n 9) hn'
  unfold cmA; split
  · exact h
  · have := lpS_rng hn' (i := cfgAt S n (nd S n 9)) (by omega) (by omega)
    exact smS_u1 (smS_u1 h (h _ (by omega)).1 (h _ (by omega)).2) (h _ (by omega)).1 (h _ (by omega)).2
theorem cmS_4 {S : qN} {n : Int} : nd (cmS S n) n 4 = nd S n 9 := by
  unfold cmS
  show (if _ then _ else _) = _
  rw [if_neg (by omega)]
  show nd (cmB S n) n 4 = _
  unfold cmB
  rw [nd_u1 (by omega), goS_4]
theorem cmS_8 {S : qN} {n : Int} : nd (cmS S n) n 8 = max 0 (nd S n 8 - (nd S n 9 - nd S n 4)) := by
  unfold cmS
  show (if _ then _ else _) = _
  rw [if_neg (by omega)]
  show nd (cmB S n) n 8 = _
  unfold cmB
  rw [nd_u1 (by omega), goS_8, cmA_nd (by omega), cmA_nd (by omega)]
theorem cmS_ne {S : qN} {n j : Int} (hn : nOk S n) (hk : kOk S n) (h : j < 244 * n ∨ 244 * n + 244 ≤ j ∨ (j < 244 * n + 23 ∧ j ≠ 244 * n + 4 ∧ j ≠ 244 * n + 5 ∧ j ≠ 244 * n + 6 ∧ j ≠ 244 * n + 7 ∧ j ≠ 244 * n + 8) ∨ (244 * n + 31 ≤ j ∧ j < 244 * n + 52)) : cmS S n j = S j := by
  obtain ⟨⟨n1, n2⟩, n3, n4, n5, n6⟩ := hn
  obtain ⟨k1, k2⟩ := hk
  unfold cmS
  rw [if_neg (by omega)]
  unfold cmB
  rw [u1_ne (by omega), goS_ne (by omega) (by rw [cmA_nd (by omega)]; exact n5) (by rw [cmA_nd (by omega)]; exact k1), cmA_ne (by omega)]
theorem cmS_nd {S : qN} {n e : Int} (hn : nOk S n) (hk : kOk S n) (h : (e < 23 ∧ e ≠ 4 ∧ e ≠ 5 ∧ e ≠ 6 ∧ e ≠ 7 ∧ e ≠ 8) ∨ (31 ≤ e ∧ e < 52)) : nd (cmS S n) n e = nd S n e := cmS_ne hn hk (by omega)
theorem smS_cmS {S : qN} {n : Int} (h : smS S) (hn : nOk S n) (hk : kOk S n) : smS (cmS S n) := by
  have hB : smS (cmB S n) := by
    unfold cmB
    have hn' := hn
    obtain ⟨⟨n1, n2⟩, n3, n4, n5, n6⟩ := hn
    obtain ⟨k1, k2⟩ := hk
    have := tAS_rng h hn' k1 k2
    refine smS_u1 (smS_goS (smS_cmA h hn' ⟨k1, k2⟩) ?_ ?_ ?_) this.1 this.2
    · unfold nOk
      rw [cmA_nd (by omega), cmA_nd (by omega)]
      exact hn'
    · rw [cmA_nd (by omega)]; exact k1
    · omega
  intro j hj
  unfold cmS; split
  · exact hB _ (by have := hn.1; omega)
  · exact hB j hj
theorem cmS_ok {S : qN} {n : Int} (hn : nOk S n) (hk : kOk S n) : nOk (cmS S n) n ∧ kOk (cmS S n) n := by
  have hn' := hn
  have hk' := hk
  obtain ⟨⟨n1, n2⟩, n3, n4, n5, n6⟩ := hn
  obtain ⟨k1, k2⟩ := hk
  unfold nOk kOk
  rw [cmS_4, cmS_8, cmS_nd hn' hk' (by omega)]
  omega
/-- room is made -/
def rmS (S : qN) (n : Int) : qN := if nd S n 8 = 48 then cmS S n else S
def hasRoom (S : qN) (n : Int) : Prop := ¬ (nd (rmS S n) n 8 = 48 ∨ nd (rmS S n) n 4 + nd (rmS S n) n 8 = 999)
def ly1 (S : qN) (n t k a b : Int) : qN := u1 (u1 (u1 (u1 (u1 S (244 * n + 8) (nd S n 8 + 1)) (244 * n + 52 + 4 * nd S n 8) t) (244 * n + 52 + 4 * nd S n 8 + 1) k) (244 * n + 52 + 4 * nd S n 8 + 2) a) (244 * n + 52 + 4 * nd S n 8 + 3) b
noncomputable def lyS (S : qN) (n t k a b : Int) : qN := @ite _ (hasRoom S n) (Classical.propDecidable _) (ly1 (rmS S n) n t k a b) (rmS S n)
theorem rmS_ok {S : qN} {n : Int} (h : smS S) (hn : nOk S n) (hk : kOk S n) : smS (rmS S n) ∧ nOk (rmS S n) n ∧ kOk (rmS S n) n := by
  unfold rmS; split
  · exact ⟨smS_cmS h hn hk, cmS_ok hn hk⟩
  · exact ⟨h, hn, hk⟩
section MS
variable {l : Launch} {V : qV} {d : Nat} {s : qS} {c r : qI}
theorem L_lays (hd : 7 ≤ d) (hs : ShMs s) {n t k a b : Int} {S : qN} (hS : r 2199 = S) (hn : nOk S n) (hm : smS S) (x6 : Value) (Q : Option Value → qH → Prop)
    (hQ : (¬ (nd S n 8 = 48 ∨ nd S n 4 + nd S n 8 = 999) → Q (some (.int (Int32.ofInt 1))) (mkH s (jn c (uA r 2199 (ly1 S n t k a b))))) ∧ ((nd S n 8 = 48 ∨ nd S n 4 + nd S n 8 = 999) → Q (some (.int (Int32.ofInt 0))) (mkH s (jn c r)))) :
    G l V mi_M_lays (rm d) 0 0 Q 0 0 17 [.ref 2198, .int (Int32.ofInt n), .int (Int32.ofInt t), .int (Int32.ofInt k), .int (Int32.ofInt a), .int (Int32.ofInt b), x6] [] (mkH s (jn c r)) := by
  subst hS
  have hn' := hn
  obtain ⟨⟨n1, n2⟩, n3, n4, n5, n6⟩ := hn
  refine G_ev ok_M_lays (smC_ok (d := d - 1) (by omega)) (fun _ => false) 300 (by omega) (fun K kK => ?_)
  simp (disch := omega) only [ev_s, evN_ap, List.getElem?_cons_zero, List.getElem?_cons_succ, List.set_cons_zero, List.set_cons_succ, Bool.false_eq_true, ↓reduceIte, qrest_n, qrest_1, qrest_2, qrest_3, qrest_4, qrest_5, qrest_6, qtr_i, qtr_r, true_and, and_true, List.length_cons, List.length_nil, Int.cast_ofNat_Int, Int32.toInt_zero, false_implies, true_implies, not_false_eq_true, not_true_eq_false, Option.toList_some, Option.toList_none, List.cons_append, List.nil_append, Nat.reduceBEq, Nat.reduceAdd, Nat.reduceLT, Nat.zero_add, Int.reduceAdd, Int.reduceLE, Int.reduceLT, Int.reduceEq, and_self, Int.reduceNeg, qrok_i, qrok_b0, qrok_b1, qrok_bI, Option.some.injEq, Value.int.injEq, J_bI0, J_bI1, e_0, v_0, e_1, v_1, e_2, v_2, e_3, v_3, e_6, v_6, e_15, v_15, e_20, v_20, e_25, v_25, e_40, e_44, qspl_z, qspl_s, evC_s, evD_none, evD_v, evD_s, c_0, c_1, b_0, smC_176, sw_M_the, smC_177, sw_M_sets, smC_180, sw_M_lastOf, smC_181, sw_M_logPlace, (smC_no (k := 191) rfl), r_M_lays_0, r_M_lays_1, r_M_lays_2, r_M_lays_4, r_M_lays_7, r_M_lays_9, r_M_lays_12, r_M_lays_13, r_M_lays_14, r_M_lays_17, r_M_lays_18, r_M_lays_19, r_M_lays_21, r_M_lays_24, r_M_lays_26, r_M_lays_29, r_M_lays_30, r_M_lays_31, r_M_lays_34, r_M_lays_37, r_M_lays_40, r_M_lays_41, r_M_lays_42, r_M_lays_43, r_M_lays_44, r_M_lays_46, r_M_lays_47, r_M_lays_48, r_M_lays_50, r_M_lays_53, r_M_lays_54, r_M_lays_55, r_M_lays_58, r_M_lays_59, r_M_lays_60, r_M_lays_61, r_M_lays_62, r_M_lays_65, r_M_lays_68, r_M_lays_70, r_M_lays_71, r_M_lays_74, r_M_lays_76, r_M_lays_77, r_M_lays_78, r_M_lays_79, r_M_lays_82, r_M_lays_84, r_M_lays_85, r_M_lays_86, r_M_lays_87, r_M_lays_88, r_M_lays_89, r_M_lays_92, r_M_lays_94, r_M_lays_95, r_M_lays_96, r_M_lays_98, r_M_lays_99, r_M_lays_100, r_M_lays_103, r_M_lays_105, r_M_lays_106, r_M_lays_107, r_M_lays_109, r_M_lays_110, r_M_lays_111, (shS_o hs), (shS_r_now hs), (shS_k_now hs), nA_mk, lpI_mk, mnI_I, mxI_I, I_val, I_add, I_sub, I_mul, ShM_mk, hs, ndB_I, hM_jr, inB, smv hm, smn hm, bI_z, Bool.or_eq_true, Bool.or_false, Bool.false_or, beq_iff_eq, or_false, false_or, set_jA, uA_uA, uA_same, uA_ne, u1_ne, u1_same, nd_u1, nd_u1s, lpS_u1, n1, n2, lpS]
  have e : 244 * n + 52 + 4 * (nd (r 2199) n 4 + (nd (r 2199) n 8 + 1) - nd (r 2199) n 4 - 1) = 244 * n + 52 + 4 * nd (r 2199) n 8 := by omega
  rw [e]
  clear kK
  refine ⟨fun q => hQ.2 (Or.inl q), fun q => ⟨fun q2 => ⟨by omega, by omega, by omega, by omega, hQ.1 (by omega)⟩, fun q2 => hQ.2 (Or.inr (Classical.not_not.mp q2))⟩⟩
set_option maxHeartbeats 2000000 in
set_option maxRecDepth 100000 in
theorem T_M_lays (hd : 7 ≤ d) (hs : ShMs s) {n t k a b : Int} (hn : nOk (r 2199) n) (hm : smS (r 2199)) (hk : kOk (r 2199) n) : T l V mi_M_lays (rm d) 0 0 [.ref 2198, .int (Int32.ofInt n), .int (Int32.ofInt t), .int (Int32.ofInt k), .int (Int32.ofInt a), .int (Int32.ofInt b)] (mkH s (jn c r)) (fun v h' => v = some (.int (bI (hasRoom (r 2199) n))) ∧ h' = mkH s (jn c (uA r 2199 (lyS (r 2199) n t k a b)))) := by
  refine T_ev qm_M_lays [.ref 2198, .int (Int32.ofInt n), .int (Int32.ofInt t), .int (Int32.ofInt k), .int (Int32.ofInt a), .int (Int32.ofInt b), .retAddr 0] rfl rfl (Nat.le_of_ble_eq_true rfl) ok_M_lays (smC_ok (d := d - 1) (by omega)) (fun pc => pc == 17) 200 (by omega) (fun K kK => ?_)
  have hn' := hn
  obtain ⟨⟨n1, n2⟩, n3, n4, n5, n6⟩ := hn
  have ok := rmS_ok hm hn' hk
  have fin : ∀ (x6 : Value), G l V mi_M_lays (rm d) 0 0 (fun v h' => v = some (.int (bI (hasRoom (r 2199) n))) ∧ h' = mkH s (jn c (uA r 2199 (lyS (r 2199) n t k a b)))) 0 0 17 [.ref 2198, .int (Int32.ofInt n), .int (Int32.ofInt t), .int (Int32.ofInt k), .int (Int32.ofInt a), .int (Int32.ofInt b), x6] [] (mkH s (jn c (uA r 2199 (rmS (r 2199) n)))) := by
    intro x6
    refine L_lays (S := rmS (r 2199) n) (by omega) hs uA_same ok.2.1 ok.1 x6 _ ⟨fun q => ?_, fun q => ?_⟩
    · have hr : hasRoom (r 2199) n := q
      rw [uA_uA, lyS, if_pos hr, bI_t hr]
      exact ⟨rfl, rfl⟩
    · have hr : ¬ hasRoom (r 2199) n := fun z => z q
      rw [lyS, if_neg hr, bI_f hr]
      exact ⟨rfl, rfl⟩
  simp (disch := omega) only [ev_s, evN_ap, List.getElem?_cons_zero, List.getElem?_cons_succ, List.set_cons_zero, List.set_cons_succ, Bool.false_eq_true, ↓reduceIte, qrest_n, qrest_1, qrest_2, qrest_3, qrest_4, qrest_5, qrest_6, qtr_i, qtr_r, true_and, and_true, List.length_cons, List.length_nil, Int.cast_ofNat_Int, Int32.toInt_zero, false_implies, true_implies, not_false_eq_true, not_true_eq_false, Option.toList_some, Option.toList_none, List.cons_append, List.nil_append, Nat.reduceBEq, Nat.reduceAdd, Nat.reduceLT, Nat.zero_add, Int.reduceAdd, Int.reduceLE, Int.reduceLT, Int.reduceEq, and_self, Int.reduceNeg, qrok_i, qrok_b0, qrok_b1, qrok_bI, Option.some.injEq, Value.int.injEq, J_bI0, J_bI1, e_0, v_0, e_1, v_1, e_2, v_2, e_3, v_3, e_6, v_6, e_15, v_15, e_20, v_20, e_25, v_25, e_40, e_44, qspl_z, qspl_s, evC_s, evD_none, evD_v, evD_s, c_0, c_1, b_0, smC_176, sw_M_the, smC_177, sw_M_sets, smC_180, sw_M_lastOf, smC_181, sw_M_logPlace, (smC_no (k := 191) rfl), r_M_lays_0, r_M_lays_1, r_M_lays_2, r_M_lays_4, r_M_lays_7, r_M_lays_9, r_M_lays_12, r_M_lays_13, r_M_lays_14, r_M_lays_17, r_M_lays_18, r_M_lays_19, r_M_lays_21, r_M_lays_24, r_M_lays_26, r_M_lays_29, r_M_lays_30, r_M_lays_31, r_M_lays_34, r_M_lays_37, r_M_lays_40, r_M_lays_41, r_M_lays_42, r_M_lays_43, r_M_lays_44, r_M_lays_46, r_M_lays_47, r_M_lays_48, r_M_lays_50, r_M_lays_53, r_M_lays_54, r_M_lays_55, r_M_lays_58, r_M_lays_59, r_M_lays_60, r_M_lays_61, r_M_lays_62, r_M_lays_65, r_M_lays_68, r_M_lays_70, r_M_lays_71, r_M_lays_74, r_M_lays_76, r_M_lays_77, r_M_lays_78, r_M_lays_79, r_M_lays_82, r_M_lays_84, r_M_lays_85, r_M_lays_86, r_M_lays_87, r_M_lays_88, r_M_lays_89, r_M_lays_92, r_M_lays_94, r_M_lays_95, r_M_lays_96, r_M_lays_98, r_M_lays_99, r_M_lays_100, r_M_lays_103, r_M_lays_105, r_M_lays_106, r_M_lays_107, r_M_lays_109, r_M_lays_110, r_M_lays_111, (shS_o hs), (shS_r_now hs), (shS_k_now hs), nA_mk, lpI_mk, mnI_I, mxI_I, I_val, I_add, I_sub, I_mul, ShM_mk, hs, ndB_I, hM_jr, inB, smv hm, smn hm, bI_z, Bool.or_eq_true, Bool.or_false, Bool.false_or, beq_iff_eq, or_false, false_or, set_jA, uA_uA, uA_same, uA_ne, u1_ne, u1_same, nd_u1, nd_u1s, lpS_u1, n1, n2]
  refine ⟨fun q => ?_, fun q => ?_⟩
  · have := fin (.retAddr 0)
    rw [show rmS (r 2199) n = r 2199 by unfold rmS; rw [if_neg q], uA_self] at this
    exact kK _ _ _ _ this
  · refine kK _ _ _ _ (GCD ok_M_lays r_M_lays_14 ⟨by decide, by decide⟩ qm_M_compacts (T_M_compacts (d := d - 1) (by omega) hs hn' hm hk) rfl rfl (fun _ => rcM hs) rfl (Nat.le_of_ble_eq_true rfl) (by omega) ?_)
    have := fin (.retAddr 0)
    rw [show rmS (r 2199) n = cmS (r 2199) n by unfold rmS; rw [if_pos (Classical.not_not.mp q)]] at this
    exact this
end MS
