/-! the row 'now' in whole numbers: what the reference's functions read off it -/
abbrev qN : Type := Int → Int
def nd (S : qN) (n c : Int) : Int := S (244 * n + c)
def u1 (S : qN) (k v : Int) : qN := fun j => if j = k then v else S j
def lastS (S : qN) (n : Int) : Int := nd S n 4 + nd S n 8
def lpS (S : qN) (n i : Int) : Int := 244 * n + 52 + 4 * (i - nd S n 4 - 1)
def tAS (S : qN) (n i : Int) : Int := if i = nd S n 4 then nd S n 5 else S (lpS S n i)
/-- a node's numbers are in their bounds; all numbers but the count of broken promises are small -/
def nOk (S : qN) (n : Int) : Prop := (0 ≤ n ∧ n ≤ 6) ∧ (0 ≤ nd S n 4 ∧ 0 ≤ nd S n 8 ∧ nd S n 8 ≤ 48 ∧ nd S n 4 + nd S n 8 ≤ 999)
def smS (S : qN) : Prop := ∀ j, j ≠ 11136 → -100000 ≤ S j ∧ S j ≤ 100000
theorem smv {S : qN} (h : smS S) {j : Int} (hj : j ≠ 11136) : (Int32.ofInt (S j)).toInt = S j := I_val (by have := h j hj; omega) (by have := h j hj; omega)
theorem smn {S : qN} (h : smS S) {n c : Int} (hj : 244 * n + c ≠ 11136) : (Int32.ofInt (nd S n c)).toInt = nd S n c := smv h hj
theorem nA_mk {s : qS} {c r : qI} {n k : Int} (h1 : -2147483648 ≤ n) (h2 : n ≤ 2147483647) : nA (mkH s (jn c r)) (Int32.ofInt n) k = Int32.ofInt (nd (r 2199) n k) := by
  unfold nA nd
  rw [hM_mk, jn_r (by omega), I_val h1 h2]
theorem lpI_mk {s : qS} {c r : qI} {n i : Int} (h1 : -2147483648 ≤ n) (h2 : n ≤ 2147483647) : lpI (mkH s (jn c r)) (Int32.ofInt n) (Int32.ofInt i) = Int32.ofInt (lpS (r 2199) n i) := by
  unfold lpI lpS
  rw [nA_mk h1 h2]
  simp only [I_add, I_sub, I_mul]
theorem hM_jr {s : qS} {c r : qI} {a : Nat} {k : Int} (h : 2198 ≤ a) : hM (mkH s (jn c r)) a k = Int32.ofInt (r a k) := by rw [hM_mk, jn_r h]
theorem set_jr {s : qS} {c r : qI} {a : Nat} {k v : Int} (h : 2198 ≤ a) : setM (mkH s (jn c r)) a k (Int32.ofInt v) = mkH s (jn c (up r a k v)) := by rw [set_mk, up_jr h]
theorem mnI_I {a b : Int} (h1 : -2147483648 ≤ a) (h2 : a ≤ 2147483647) (h3 : -2147483648 ≤ b) (h4 : b ≤ 2147483647) : mnI (Int32.ofInt a) (Int32.ofInt b) = Int32.ofInt (min a b) := by
  unfold mnI; rw [I_val h1 h2, I_val h3 h4]
  split
  · rw [Int.min_eq_left (by omega)]
  · rw [Int.min_eq_right (by omega)]
theorem mxI_I {a b : Int} (h1 : -2147483648 ≤ a) (h2 : a ≤ 2147483647) (h3 : -2147483648 ≤ b) (h4 : b ≤ 2147483647) : mxI (Int32.ofInt a) (Int32.ofInt b) = Int32.ofInt (max a b) := by
  unfold mxI; rw [I_val h1 h2, I_val h3 h4]
  split
  · rw [Int.max_eq_left (by omega)]
  · rw [Int.max_eq_right (by omega)]
def cfgS (S : qN) (n : Int) : Nat → Int
  | 0 => -1
  | k + 1 => if S (244 * n + 52 + 4 * k + 1) = 1 then nd S n 4 + k + 1 else cfgS S n k
def cfgAt (S : qN) (n u : Int) : Int := cfgS S n (min u (lastS S n) - nd S n 4).toNat
theorem cfgS_le {S : qN} {n : Int} (h : -1 ≤ nd S n 4) : ∀ k : Nat, cfgS S n k = -1 ∨ (nd S n 4 + 1 ≤ cfgS S n k ∧ cfgS S n k ≤ nd S n 4 + k)
  | 0 => Or.inl rfl
  | k + 1 => by
    have := cfgS_le h k
    unfold cfgS
    split <;> omega
section MS
variable {l : Launch} {V : qV} {d : Nat} {s : qS} {c r : qI}
theorem L_configAt (hd : 4 ≤ d) (hs : ShMs s) {n u : Int} (hn : nOk (r 2199) n) (hm : smS (r 2199)) : ∀ k : Nat, k ≤ nd (r 2199) n 8 → G l V mi_M_configAt (rm d) 0 0 (fun v h' => v = some (.int (Int32.ofInt (cfgS (r 2199) n k))) ∧ h' = mkH s (jn c r)) 0 0 10 [.ref 2198, .int (Int32.ofInt n), .int (Int32.ofInt u), .int (Int32.ofInt (nd (r 2199) n 4 + k))] [] (mkH s (jn c r)) := by
  obtain ⟨⟨n1, n2⟩, n3, n4, n5, n6⟩ := hn
  intro k
  induction k with
  | zero =>
    intro hk
    refine G_ev ok_M_configAt (smC_ok (d := d - 1) (by omega)) (fun pc => pc == 10) 60 (by omega) (fun K kK => ?_)
    simp (disch := omega) only [ev_s, evN_ap, List.getElem?_cons_zero, List.getElem?_cons_succ, List.set_cons_zero, List.set_cons_succ, Bool.false_eq_true, ↓reduceIte, qrest_n, qrest_1, qrest_2, qrest_3, qrest_4, qrest_5, qrest_6, qtr_i, qtr_r, true_and, and_true, List.length_cons, List.length_nil, Int.cast_ofNat_Int, Int32.toInt_zero, false_implies, true_implies, not_false_eq_true, not_true_eq_false, Option.toList_some, Option.toList_none, List.cons_append, List.nil_append, Nat.reduceBEq, Nat.reduceAdd, Nat.reduceLT, Nat.zero_add, Int.reduceAdd, Int.reduceLE, Int.reduceLT, Int.reduceEq, and_self, Int.reduceNeg, qrok_i, qrok_b0, qrok_b1, qrok_bI, Option.some.injEq, Value.int.injEq, J_bI0, J_bI1, e_0, v_0, e_1, v_1, e_2, v_2, e_3, v_3, e_5, v_5, e_6, v_6, e_13, v_13, e_15, v_15, e_20, v_20, e_24, v_24, e_40, e_44, e_45, qspl_z, qspl_s, evC_s, evD_none, evD_v, evD_s, c_1, c_5, b_0, smC_170, sw_M_min, smC_176, sw_M_the, smC_180, sw_M_lastOf, smC_181, sw_M_logPlace, r_M_configAt_0, r_M_configAt_1, r_M_configAt_2, r_M_configAt_3, r_M_configAt_6, r_M_configAt_9, r_M_configAt_10, r_M_configAt_11, r_M_configAt_12, r_M_configAt_13, r_M_configAt_14, r_M_configAt_17, r_M_configAt_20, r_M_configAt_21, r_M_configAt_24, r_M_configAt_25, r_M_configAt_26, r_M_configAt_27, r_M_configAt_30, r_M_configAt_31, r_M_configAt_32, r_M_configAt_33, r_M_configAt_34, r_M_configAt_37, r_M_configAt_38, r_M_configAt_39, r_M_configAt_42, r_M_configAt_45, r_M_configAt_46, nA_mk, lpI_mk, I_val, I_add, ShM_mk, hs, ndB_I]
    exact ⟨⟨n1, n2⟩, fun _ => rfl, fun q => absurd (show nd (r 2199) n 4 + 0 ≤ nd (r 2199) n 4 by omega) q⟩
  | succ k ih =>
    intro hk
    refine G_ev ok_M_configAt (smC_ok (d := d - 1) (by omega)) (fun pc => pc == 10) 60 (by omega) (fun K kK => ?_)
    simp (disch := omega) only [ev_s, evN_ap, List.getElem?_cons_zero, List.getElem?_cons_succ, List.set_cons_zero, List.set_cons_succ, Bool.false_eq_true, ↓reduceIte, qrest_n, qrest_1, qrest_2, qrest_3, qrest_4, qrest_5, qrest_6, qtr_i, qtr_r, true_and, and_true, List.length_cons, List.length_nil, Int.cast_ofNat_Int, Int32.toInt_zero, false_implies, true_implies, not_false_eq_true, not_true_eq_false, Option.toList_some, Option.toList_none, List.cons_append, List.nil_append, Nat.reduceBEq, Nat.reduceAdd, Nat.reduceLT, Nat.zero_add, Int.reduceAdd, Int.reduceLE, Int.reduceLT, Int.reduceEq, and_self, Int.reduceNeg, qrok_i, qrok_b0, qrok_b1, qrok_bI, Option.some.injEq, Value.int.injEq, J_bI0, J_bI1, e_0, v_0, e_1, v_1, e_2, v_2, e_3, v_3, e_5, v_5, e_6, v_6, e_13, v_13, e_15, v_15, e_20, v_20, e_24, v_24, e_40, e_44, e_45, qspl_z, qspl_s, evC_s, evD_none, evD_v, evD_s, c_1, c_5, b_0, smC_170, sw_M_min, smC_176, sw_M_the, smC_180, sw_M_lastOf, smC_181, sw_M_logPlace, r_M_configAt_0, r_M_configAt_1, r_M_configAt_2, r_M_configAt_3, r_M_configAt_6, r_M_configAt_9, r_M_configAt_10, r_M_configAt_11, r_M_configAt_12, r_M_configAt_13, r_M_configAt_14, r_M_configAt_17, r_M_configAt_20, r_M_configAt_21, r_M_configAt_24, r_M_configAt_25, r_M_configAt_26, r_M_configAt_27, r_M_configAt_30, r_M_configAt_31, r_M_configAt_32, r_M_configAt_33, r_M_configAt_34, r_M_configAt_37, r_M_configAt_38, r_M_configAt_39, r_M_configAt_42, r_M_configAt_45, r_M_configAt_46, (shS_o hs), (shS_r_now hs), (shS_k_now hs), nA_mk, lpI_mk, I_val, I_add, ShM_mk, hs, ndB_I, hM_jr, inB, lpS, smv hm]
    refine ⟨⟨n1, n2⟩, fun q => absurd q (by omega), fun _ => ⟨⟨n1, n2⟩, by omega, fun q => ?_, fun q => ?_⟩⟩
    · have ih := ih (by omega)
      have e2 : cfgS (r 2199) n (k + 1) = cfgS (r 2199) n k := by
        rw [cfgS, if_neg]
        intro q2; apply q; rw [← q2]; congr 1; omega
      rw [show nd (r 2199) n 4 + ((k + 1 : Nat) : Int) + -1 = nd (r 2199) n 4 + k by omega]
      rw [← e2] at ih
      exact kK _ _ _ _ ih
    · rw [cfgS, if_pos]
      · congr 1; omega
      · rw [← Classical.not_not.mp q]; congr 1; omega
theorem T_configAt (hd : 4 ≤ d) (hs : ShMs s) {n u : Int} (hn : nOk (r 2199) n) (hm : smS (r 2199)) (hu : -2147483648 ≤ u ∧ u ≤ 2147483647) : T l V mi_M_configAt (rm d) 0 0 [.ref 2198, .int (Int32.ofInt n), .int (Int32.ofInt u)] (mkH s (jn c r)) (fun v h' => v = some (.int (Int32.ofInt (cfgAt (r 2199) n u))) ∧ h' = mkH s (jn c r)) := by
  refine T_ev qm_M_configAt [.ref 2198, .int (Int32.ofInt n), .int (Int32.ofInt u), .retAddr 0] rfl rfl (Nat.le_of_ble_eq_true rfl) ok_M_configAt (smC_ok (d := d - 1) (by omega)) (fun pc => pc == 10) 60 (by omega) (fun K kK => ?_)
  have hn' := hn
  obtain ⟨⟨n1, n2⟩, n3, n4, n5, n6⟩ := hn
  simp (disch := omega) only [ev_s, evN_ap, List.getElem?_cons_zero, List.getElem?_cons_succ, List.set_cons_zero, List.set_cons_succ, Bool.false_eq_true, ↓reduceIte, qrest_n, qrest_1, qrest_2, qrest_3, qrest_4, qrest_5, qrest_6, qtr_i, qtr_r, true_and, and_true, List.length_cons, List.length_nil, Int.cast_ofNat_Int, Int32.toInt_zero, false_implies, true_implies, not_false_eq_true, not_true_eq_false, Option.toList_some, Option.toList_none, List.cons_append, List.nil_append, Nat.reduceBEq, Nat.reduceAdd, Nat.reduceLT, Nat.zero_add, Int.reduceAdd, Int.reduceLE, Int.reduceLT, Int.reduceEq, and_self, Int.reduceNeg, qrok_i, qrok_b0, qrok_b1, qrok_bI, Option.some.injEq, Value.int.injEq, J_bI0, J_bI1, e_0, v_0, e_1, v_1, e_2, v_2, e_3, v_3, e_5, v_5, e_6, v_6, e_13, v_13, e_15, v_15, e_20, v_20, e_24, v_24, e_40, e_44, e_45, qspl_z, qspl_s, evC_s, evD_none, evD_v, evD_s, c_1, c_5, b_0, smC_170, sw_M_min, smC_176, sw_M_the, smC_180, sw_M_lastOf, smC_181, sw_M_logPlace, r_M_configAt_0, r_M_configAt_1, r_M_configAt_2, r_M_configAt_3, r_M_configAt_6, r_M_configAt_9, r_M_configAt_10, r_M_configAt_11, r_M_configAt_12, r_M_configAt_13, r_M_configAt_14, r_M_configAt_17, r_M_configAt_20, r_M_configAt_21, r_M_configAt_24, r_M_configAt_25, r_M_configAt_26, r_M_configAt_27, r_M_configAt_30, r_M_configAt_31, r_M_configAt_32, r_M_configAt_33, r_M_configAt_34, r_M_configAt_37, r_M_configAt_38, r_M_configAt_39, r_M_configAt_42, r_M_configAt_45, r_M_configAt_46, (shS_o hs), (shS_r_now hs), (shS_k_now hs), nA_mk, mnI_I, I_val, I_add, ShM_mk, hs, ndB_I]
  refine ⟨⟨n1, n2⟩, kK _ _ _ _ ?_⟩
  by_cases hlow : nd (r 2199) n 4 ≤ min u (nd (r 2199) n 4 + nd (r 2199) n 8)
  · have := L_configAt (l := l) (V := V) (c := c) hd hs (u := u) hn' hm (min u (lastS (r 2199) n) - nd (r 2199) n 4).toNat (by unfold lastS; omega)
    unfold cfgAt
    rw [show nd (r 2199) n 4 + (((min u (lastS (r 2199) n) - nd (r 2199) n 4).toNat : Nat) : Int) = min u (nd (r 2199) n 4 + nd (r 2199) n 8) by unfold lastS; omega] at this
    exact this
  · have e0 : cfgAt (r 2199) n u = -1 := by
      unfold cfgAt
      rw [show (min u (lastS (r 2199) n) - nd (r 2199) n 4).toNat = 0 by unfold lastS; omega]; rfl
    rw [e0]
    refine G_ev ok_M_configAt (smC_ok (d := d - 1) (by omega)) (fun pc => pc == 10) 60 (by omega) (fun K kK => ?_)
    simp (disch := omega) only [ev_s, evN_ap, List.getElem?_cons_zero, List.getElem?_cons_succ, List.set_cons_zero, List.set_cons_succ, Bool.false_eq_true, ↓reduceIte, qrest_n, qrest_1, qrest_2, qrest_3, qrest_4, qrest_5, qrest_6, qtr_i, qtr_r, true_and, and_true, List.length_cons, List.length_nil, Int.cast_ofNat_Int, Int32.toInt_zero, false_implies, true_implies, not_false_eq_true, not_true_eq_false, Option.toList_some, Option.toList_none, List.cons_append, List.nil_append, Nat.reduceBEq, Nat.reduceAdd, Nat.reduceLT, Nat.zero_add, Int.reduceAdd, Int.reduceLE, Int.reduceLT, Int.reduceEq, and_self, Int.reduceNeg, qrok_i, qrok_b0, qrok_b1, qrok_bI, Option.some.injEq, Value.int.injEq, J_bI0, J_bI1, e_0, v_0, e_1, v_1, e_2, v_2, e_3, v_3, e_5, v_5, e_6, v_6, e_13, v_13, e_15, v_15, e_20, v_20, e_24, v_24, e_40, e_44, e_45, qspl_z, qspl_s, evC_s, evD_none, evD_v, evD_s, c_1, c_5, b_0, smC_170, sw_M_min, smC_176, sw_M_the, smC_180, sw_M_lastOf, smC_181, sw_M_logPlace, r_M_configAt_0, r_M_configAt_1, r_M_configAt_2, r_M_configAt_3, r_M_configAt_6, r_M_configAt_9, r_M_configAt_10, r_M_configAt_11, r_M_configAt_12, r_M_configAt_13, r_M_configAt_14, r_M_configAt_17, r_M_configAt_20, r_M_configAt_21, r_M_configAt_24, r_M_configAt_25, r_M_configAt_26, r_M_configAt_27, r_M_configAt_30, r_M_configAt_31, r_M_configAt_32, r_M_configAt_33, r_M_configAt_34, r_M_configAt_37, r_M_configAt_38, r_M_configAt_39, r_M_configAt_42, r_M_configAt_45, r_M_configAt_46, nA_mk, lpI_mk, I_val, I_add, ShM_mk, hs, ndB_I]
    exact ⟨⟨n1, n2⟩, fun _ => trivial, fun q => absurd (show min u (nd (r 2199) n 4 + nd (r 2199) n 8) ≤ nd (r 2199) n 4 by omega) q⟩
end MS
