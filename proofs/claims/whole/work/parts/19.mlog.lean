/-! the reference's log: entries go, are laid -/
def uA (r : qI) (a : Nat) (f : Int → Int) : qI := fun a' k => if a' = a then f k else r a' k
theorem uA_same {r : qI} {a : Nat} {f : Int → Int} : uA r a f a = f := by funext k; simp [uA]
theorem uA_ne {r : qI} {a b : Nat} {f : Int → Int} (h : b ≠ a) : uA r a f b = r b := by funext k; simp [uA, h]
theorem uA_uA {r : qI} {a : Nat} {f g : Int → Int} : uA (uA r a f) a g = uA r a g := by
  funext b k
  unfold uA
  split <;> rfl
theorem uA_self {r : qI} {a : Nat} : uA r a (r a) = r := by
  funext b k
  unfold uA
  split
  · rename_i h; rw [h]
  · rfl
theorem uA_comm {r : qI} {a b : Nat} {f g : Int → Int} (h : a ≠ b) : uA (uA r a f) b g = uA (uA r b g) a f := by
  funext e k
  unfold uA
  by_cases h1 : e = a <;> by_cases h2 : e = b <;> simp [h1, h2]
  · omega
  · intro q; omega
  · intro q; omega
theorem set_jA {s : qS} {c r : qI} {a : Nat} {k v : Int} (h : 2198 ≤ a) : setM (mkH s (jn c r)) a k (Int32.ofInt v) = mkH s (jn c (uA r a (u1 (r a) k v))) := by
  rw [set_jr h]
  congr 2
  funext a' k'
  unfold up uA u1
  by_cases h1 : a' = a
  · subst h1; simp
  · simp [h1]
theorem u1_same {S : qN} {k v : Int} : u1 S k v k = v := by simp [u1]
theorem u1_ne {S : qN} {k j v : Int} (h : j ≠ k) : u1 S k v j = S j := by simp [u1, h]
theorem nd_u1 {S : qN} {k v n e : Int} (h : 244 * n + e ≠ k) : nd (u1 S k v) n e = nd S n e := by unfold nd; exact u1_ne h
theorem nd_u1s {S : qN} {v n e : Int} : nd (u1 S (244 * n + e) v) n e = v := by unfold nd; exact u1_same
theorem lpS_u1 {S : qN} {k v n i : Int} (h : 244 * n + 4 ≠ k) : lpS (u1 S k v) n i = lpS S n i := by unfold lpS; rw [nd_u1 h]
theorem smS_u1 {S : qN} {k v : Int} (h : smS S) (h1 : -100000 ≤ v) (h2 : v ≤ 100000) : smS (u1 S k v) := by
  intro j hj
  unfold u1; split
  · omega
  · exact h j hj
def shS (S : qN) (n b m : Int) : qN := fun j => if 244 * n + 52 ≤ j ∧ j < 244 * n + 52 + m then S (j + 4 * b) else S j
theorem smS_sh {S : qN} {n b m : Int} (h : smS S) (hn : 0 ≤ n ∧ n ≤ 6) (hb : 0 ≤ b) (hb2 : b ≤ 48) (hm : m ≤ 192) : smS (shS S n b m) := by
  intro j hj
  unfold shS; split
  · exact h _ (by omega)
  · exact h j hj
theorem shS_step {S : qN} {n b k : Int} (hb : 0 ≤ b) (hk : 0 ≤ k) : u1 (shS S n b k) (244 * n + (52 + k)) (nd (shS S n b k) n (52 + k + 4 * b)) = shS S n b (k + 1) := by
  funext j
  unfold u1 nd shS
  by_cases h1 : j = 244 * n + (52 + k)
  · rw [if_pos h1, if_neg (by omega), if_pos (by omega)]
    congr 1; omega
  · rw [if_neg h1]
    by_cases h2 : 244 * n + 52 ≤ j ∧ j < 244 * n + 52 + k
    · rw [if_pos h2, if_pos (by omega)]
    · rw [if_neg h2, if_neg (by omega)]
theorem shS_0 {S : qN} {n b : Int} : shS S n b 0 = S := by
  funext j
  unfold shS
  rw [if_neg (by omega)]
def goS (S : qN) (n i : Int) : qN := u1 (u1 (shS S n (i - nd S n 4) (4 * max 0 (nd S n 8 - (i - nd S n 4)))) (244 * n + 8) (max 0 (nd S n 8 - (i - nd S n 4)))) (244 * n + 4) i
section MS
variable {l : Launch} {V : qV} {d : Nat} {s : qS} {c r : qI}
theorem L_goesUpTo (hd : 4 ≤ d) (hs : ShMs s) {n i : Int} (hn : nOk (r 2199) n) (hm : smS (r 2199)) (hi : nd (r 2199) n 4 ≤ i) (hi2 : i ≤ 999) (Q : Option Value → qH → Prop) (hQ : Q none (mkH s (jn c (uA r 2199 (goS (r 2199) n i))))) :
    ∀ (j : Nat) (k : Int), 0 ≤ k → k + j = 4 * max 0 (nd (r 2199) n 8 - (i - nd (r 2199) n 4)) → G l V mi_M_goesUpTo (rm d) 0 0 Q 0 0 27 [.ref 2198, .int (Int32.ofInt n), .int (Int32.ofInt i), .int (Int32.ofInt (i - nd (r 2199) n 4)), .int (Int32.ofInt (max 0 (nd (r 2199) n 8 - (i - nd (r 2199) n 4)))), .int (Int32.ofInt k)] [] (mkH s (jn c (uA r 2199 (shS (r 2199) n (i - nd (r 2199) n 4) k)))) := by
  have hn' := hn
  obtain ⟨⟨n1, n2⟩, n3, n4, n5, n6⟩ := hn
  intro j
  induction j with
  | zero =>
    intro k k0 hk
    refine G_ev ok_M_goesUpTo (smC_ok (d := d - 1) (by omega)) (fun pc => pc == 27) 60 (by omega) (fun K kK => ?_)
    simp (disch := omega) only [ev_s, evN_ap, List.getElem?_cons_zero, List.getElem?_cons_succ, List.set_cons_zero, List.set_cons_succ, Bool.false_eq_true, ↓reduceIte, qrest_n, qrest_1, qrest_2, qrest_3, qrest_4, qrest_5, qrest_6, qtr_i, qtr_r, true_and, and_true, List.length_cons, List.length_nil, Int.cast_ofNat_Int, Int32.toInt_zero, false_implies, true_implies, not_false_eq_true, not_true_eq_false, Option.toList_some, Option.toList_none, List.cons_append, List.nil_append, Nat.reduceBEq, Nat.reduceAdd, Nat.reduceLT, Nat.zero_add, Int.reduceAdd, Int.reduceLE, Int.reduceLT, Int.reduceEq, and_self, Int.reduceNeg, qrok_i, qrok_b0, qrok_b1, qrok_bI, Option.some.injEq, Value.int.injEq, J_bI0, J_bI1, e_0, v_0, e_1, v_1, e_2, v_2, e_3, v_3, e_5, v_5, e_6, v_6, e_13, v_13, e_15, v_15, e_41, e_44, e_45, qspl_z, qspl_s, evC_s, evD_none, evD_v, evD_s, c_3, b_0, b_1, b_2, smC_171, sw_M_max, smC_176, sw_M_the, smC_177, sw_M_sets, r_M_goesUpTo_0, r_M_goesUpTo_1, r_M_goesUpTo_2, r_M_goesUpTo_3, r_M_goesUpTo_4, r_M_goesUpTo_7, r_M_goesUpTo_8, r_M_goesUpTo_9, r_M_goesUpTo_10, r_M_goesUpTo_11, r_M_goesUpTo_12, r_M_goesUpTo_14, r_M_goesUpTo_17, r_M_goesUpTo_18, r_M_goesUpTo_19, r_M_goesUpTo_22, r_M_goesUpTo_24, r_M_goesUpTo_25, r_M_goesUpTo_27, r_M_goesUpTo_29, r_M_goesUpTo_30, r_M_goesUpTo_32, r_M_goesUpTo_33, r_M_goesUpTo_36, r_M_goesUpTo_37, r_M_goesUpTo_38, r_M_goesUpTo_40, r_M_goesUpTo_42, r_M_goesUpTo_43, r_M_goesUpTo_44, r_M_goesUpTo_45, r_M_goesUpTo_47, r_M_goesUpTo_49, r_M_goesUpTo_50, r_M_goesUpTo_51, r_M_goesUpTo_52, r_M_goesUpTo_53, r_M_goesUpTo_54, r_M_goesUpTo_57, r_M_goesUpTo_60, r_M_goesUpTo_63, r_M_goesUpTo_66, r_M_goesUpTo_67, r_M_goesUpTo_68, r_M_goesUpTo_70, r_M_goesUpTo_72, r_M_goesUpTo_75, r_M_goesUpTo_76, r_M_goesUpTo_77, r_M_goesUpTo_78, r_M_goesUpTo_79, r_M_goesUpTo_82, (shS_o hs), (shS_r_now hs), (shS_k_now hs), nA_mk, lpI_mk, mnI_I, mxI_I, I_val, I_add, I_sub, I_mul, ShM_mk, hs, ndB_I, hM_jr, inB, smv hm, smn hm, bI_z, Bool.or_eq_true, Bool.or_false, Bool.false_or, beq_iff_eq, or_false, false_or, set_jA, uA_uA, uA_same, uA_ne, u1_ne, u1_same, nd_u1, nd_u1s, lpS_u1]
    refine ⟨fun _ => ⟨⟨n1, n2⟩, ⟨n1, n2⟩, ?_⟩, fun q => absurd (show _ ≤ _ by omega) q⟩
    have e : k = 4 * max 0 (nd (r 2199) n 8 - (i - nd (r 2199) n 4)) := by omega
    rw [e]
    exact hQ
  | succ j ih =>
    intro k k0 hk
    refine G_ev ok_M_goesUpTo (smC_ok (d := d - 1) (by omega)) (fun pc => pc == 27) 60 (by omega) (fun K kK => ?_)
    simp (disch := omega) only [ev_s, evN_ap, List.getElem?_cons_zero, List.getElem?_cons_succ, List.set_cons_zero, List.set_cons_succ, Bool.false_eq_true, ↓reduceIte, qrest_n, qrest_1, qrest_2, qrest_3, qrest_4, qrest_5, qrest_6, qtr_i, qtr_r, true_and, and_true, List.length_cons, List.length_nil, Int.cast_ofNat_Int, Int32.toInt_zero, false_implies, true_implies, not_false_eq_true, not_true_eq_false, Option.toList_some, Option.toList_none, List.cons_append, List.nil_append, Nat.reduceBEq, Nat.reduceAdd, Nat.reduceLT, Nat.zero_add, Int.reduceAdd, Int.reduceLE, Int.reduceLT, Int.reduceEq, and_self, Int.reduceNeg, qrok_i, qrok_b0, qrok_b1, qrok_bI, Option.some.injEq, Value.int.injEq, J_bI0, J_bI1, e_0, v_0, e_1, v_1, e_2, v_2, e_3, v_3, e_5, v_5, e_6, v_6, e_13, v_13, e_15, v_15, e_41, e_44, e_45, qspl_z, qspl_s, evC_s, evD_none, evD_v, evD_s, c_3, b_0, b_1, b_2, smC_171, sw_M_max, smC_176, sw_M_the, smC_177, sw_M_sets, r_M_goesUpTo_0, r_M_goesUpTo_1, r_M_goesUpTo_2, r_M_goesUpTo_3, r_M_goesUpTo_4, r_M_goesUpTo_7, r_M_goesUpTo_8, r_M_goesUpTo_9, r_M_goesUpTo_10, r_M_goesUpTo_11, r_M_goesUpTo_12, r_M_goesUpTo_14, r_M_goesUpTo_17, r_M_goesUpTo_18, r_M_goesUpTo_19, r_M_goesUpTo_22, r_M_goesUpTo_24, r_M_goesUpTo_25, r_M_goesUpTo_27, r_M_goesUpTo_29, r_M_goesUpTo_30, r_M_goesUpTo_32, r_M_goesUpTo_33, r_M_goesUpTo_36, r_M_goesUpTo_37, r_M_goesUpTo_38, r_M_goesUpTo_40, r_M_goesUpTo_42, r_M_goesUpTo_43, r_M_goesUpTo_44, r_M_goesUpTo_45, r_M_goesUpTo_47, r_M_goesUpTo_49, r_M_goesUpTo_50, r_M_goesUpTo_51, r_M_goesUpTo_52, r_M_goesUpTo_53, r_M_goesUpTo_54, r_M_goesUpTo_57, r_M_goesUpTo_60, r_M_goesUpTo_63, r_M_goesUpTo_66, r_M_goesUpTo_67, r_M_goesUpTo_68, r_M_goesUpTo_70, r_M_goesUpTo_72, r_M_goesUpTo_75, r_M_goesUpTo_76, r_M_goesUpTo_77, r_M_goesUpTo_78, r_M_goesUpTo_79, r_M_goesUpTo_82, (shS_o hs), (shS_r_now hs), (shS_k_now hs), nA_mk, lpI_mk, mnI_I, mxI_I, I_val, I_add, I_sub, I_mul, ShM_mk, hs, ndB_I, hM_jr, inB, smv hm, smn hm, bI_z, Bool.or_eq_true, Bool.or_false, Bool.false_or, beq_iff_eq, or_false, false_or, set_jA, uA_uA, uA_same, uA_ne, u1_ne, u1_same, nd_u1, nd_u1s, lpS_u1]
    refine ⟨fun q => absurd q (by omega), fun _ => ⟨⟨⟨n1, n2⟩, by omega⟩, ⟨⟨n1, n2⟩, by omega⟩, kK _ _ _ _ ?_⟩⟩
    rw [shS_step (by omega) k0]
    exact ih (k + 1) (by omega) (by omega)
set_option maxHeartbeats 2000000 in
set_option maxRecDepth 100000 in
theorem T_M_goesUpTo (hd : 4 ≤ d) (hs : ShMs s) {n i : Int} (hn : nOk (r 2199) n) (hm : smS (r 2199)) (hi : nd (r 2199) n 4 ≤ i) (hi2 : i ≤ 999) : T l V mi_M_goesUpTo (rm d) 0 0 [.ref 2198, .int (Int32.ofInt n), .int (Int32.ofInt i)] (mkH s (jn c r)) (fun v h' => v = none ∧ h' = mkH s (jn c (uA r 2199 (goS (r 2199) n i)))) := by
  refine T_ev qm_M_goesUpTo [.ref 2198, .int (Int32.ofInt n), .int (Int32.ofInt i), .retAddr 0, .retAddr 0, .retAddr 0] rfl rfl (Nat.le_of_ble_eq_true rfl) ok_M_goesUpTo (smC_ok (d := d - 1) (by omega)) (fun pc => pc == 27) 200 (by omega) (fun K kK => ?_)
  have hn' := hn
  obtain ⟨⟨n1, n2⟩, n3, n4, n5, n6⟩ := hn
  simp (disch := omega) only [ev_s, evN_ap, List.getElem?_cons_zero, List.getElem?_cons_succ, List.set_cons_zero, List.set_cons_succ, Bool.false_eq_true, ↓reduceIte, qrest_n, qrest_1, qrest_2, qrest_3, qrest_4, qrest_5, qrest_6, qtr_i, qtr_r, true_and, and_true, List.length_cons, List.length_nil, Int.cast_ofNat_Int, Int32.toInt_zero, false_implies, true_implies, not_false_eq_true, not_true_eq_false, Option.toList_some, Option.toList_none, List.cons_append, List.nil_append, Nat.reduceBEq, Nat.reduceAdd, Nat.reduceLT, Nat.zero_add, Int.reduceAdd, Int.reduceLE, Int.reduceLT, Int.reduceEq, and_self, Int.reduceNeg, qrok_i, qrok_b0, qrok_b1, qrok_bI, Option.some.injEq, Value.int.injEq, J_bI0, J_bI1, e_0, v_0, e_1, v_1, e_2, v_2, e_3, v_3, e_5, v_5, e_6, v_6, e_13, v_13, e_15, v_15, e_41, e_44, e_45, qspl_z, qspl_s, evC_s, evD_none, evD_v, evD_s, c_3, b_0, b_1, b_2, smC_171, sw_M_max, smC_176, sw_M_the, smC_177, sw_M_sets, r_M_goesUpTo_0, r_M_goesUpTo_1, r_M_goesUpTo_2, r_M_goesUpTo_3, r_M_goesUpTo_4, r_M_goesUpTo_7, r_M_goesUpTo_8, r_M_goesUpTo_9, r_M_goesUpTo_10, r_M_goesUpTo_11, r_M_goesUpTo_12, r_M_goesUpTo_14, r_M_goesUpTo_17, r_M_goesUpTo_18, r_M_goesUpTo_19, r_M_goesUpTo_22, r_M_goesUpTo_24, r_M_goesUpTo_25, r_M_goesUpTo_27, r_M_goesUpTo_29, r_M_goesUpTo_30, r_M_goesUpTo_32, r_M_goesUpTo_33, r_M_goesUpTo_36, r_M_goesUpTo_37, r_M_goesUpTo_38, r_M_goesUpTo_40, r_M_goesUpTo_42, r_M_goesUpTo_43, r_M_goesUpTo_44, r_M_goesUpTo_45, r_M_goesUpTo_47, r_M_goesUpTo_49, r_M_goesUpTo_50, r_M_goesUpTo_51, r_M_goesUpTo_52, r_M_goesUpTo_53, r_M_goesUpTo_54, r_M_goesUpTo_57, r_M_goesUpTo_60, r_M_goesUpTo_63, r_M_goesUpTo_66, r_M_goesUpTo_67, r_M_goesUpTo_68, r_M_goesUpTo_70, r_M_goesUpTo_72, r_M_goesUpTo_75, r_M_goesUpTo_76, r_M_goesUpTo_77, r_M_goesUpTo_78, r_M_goesUpTo_79, r_M_goesUpTo_82, (shS_o hs), (shS_r_now hs), (shS_k_now hs), nA_mk, lpI_mk, mnI_I, mxI_I, I_val, I_add, I_sub, I_mul, ShM_mk, hs, ndB_I, hM_jr, inB, smv hm, smn hm, bI_z, Bool.or_eq_true, Bool.or_false, Bool.false_or, beq_iff_eq, or_false, false_or, set_jA, uA_uA, uA_same, uA_ne, u1_ne, u1_same, nd_u1, nd_u1s, lpS_u1]
  refine ⟨⟨n1, n2⟩, ⟨n1, n2⟩, kK _ _ _ _ ?_⟩
  have := L_goesUpTo (l := l) (V := V) (c := c) hd hs hn' hm hi hi2 (fun v h' => v = none ∧ h' = mkH s (jn c (uA r 2199 (goS (r 2199) n i)))) ⟨rfl, rfl⟩ (4 * max 0 (nd (r 2199) n 8 - (i - nd (r 2199) n 4))).toNat 0 (by omega) (by omega)
  rw [shS_0, uA_self] at this
  exact this
end MS
/-- it compacts -/
def cmA (S : qN) (n : Int) : qN := if cfgAt S n (nd S n 9) = -1 then S else u1 (u1 S (244 * n + 6) (S (lpS S n (cfgAt S n (nd S n 9)) + 2))) (244 * n + 7) (S (lpS S n (cfgAt S n (nd S n 9)) + 3))
def cmB (S : qN) (n : Int) : qN := u1 (goS (cmA S n) n (nd S n 9)) (244 * n + 5) (tAS S n (nd S n 9))
def cmS (S : qN) (n : Int) : qN := fun j => if 244 * n + 23 ≤ j ∧ j < 244 * n + 31 then cmB S n (j - 8) else cmB S n j
theorem cpK {S : qN} {n : Int} : (u1 (u1 (u1 (u1 (u1 (u1 (u1 (u1 S (244 * n + 23) (nd S n 15)) (244 * n + 24) (nd S n 16)) (244 * n + 25) (nd S n 17)) (244 * n + 26) (nd S n 18)) (244 * n + 27) (nd S n 19)) (244 * n + 28) (nd S n 20)) (244 * n + 29) (nd S n 21)) (244 * n + 30) (nd S n 22)) = fun j => if 244 * n + 23 ≤ j ∧ j < 244 * n + 31 then S (j - 8) else S j := by
  funext j
  unfold u1 nd
  by_cases h : 244 * n + 23 ≤ j ∧ j < 244 * n + 31
  · rw [if_pos h]
    have : j = 244 * n + 23 ∨ j = 244 * n + 24 ∨ j = 244 * n + 25 ∨ j = 244 * n + 26 ∨ j = 244 * n + 27 ∨ j = 244 * n + 28 ∨ j = 244 * n + 29 ∨ j = 244 * n + 30 := by omega
    rcases this with rfl | rfl | rfl | rfl | rfl | rfl | rfl | rfl <;> (repeat rw [if_neg (by omega)]) <;> (try rw [if_pos rfl]) <;> (congr 1; omega)
  · rw [if_neg h]
    repeat rw [if_neg (by omega)]
/-- COMMIT lies within the log -/
def kOk (S : qN) (n : Int) : Prop := nd S n 4 ≤ nd S n 9 ∧ nd S n 9 ≤ nd S n 4 + nd S n 8
theorem tAS_rng {S : qN} {n i : Int} (hm : smS S) (hn : nOk S n) (h1 : nd S n 4 ≤ i) (h2 : i ≤ nd S n 4 + nd S n 8) : -100000 ≤ tAS S n i ∧ tAS S n i ≤ 100000 := by
  have hn' := hn
  obtain ⟨⟨n1, n2⟩, n3, n4, n5, n6⟩ := hn
  unfold tAS; split
  · exact hm _ (by omega)
  · have := lpS_rng hn' (i := i) (by omega) h2
    exact hm _ (by omega)
theorem tAI_mk {s : qS} {c r : qI} {n i : Int} (h1 : -2147483648 ≤ n) (h2 : n ≤ 2147483647) (h3 : -2147483648 ≤ i) (h4 : i ≤ 2147483647) (hm : smS (r 2199)) (hn : nOk (r 2199) n) (h5 : nd (r 2199) n 4 ≤ i) (h6 : i ≤ nd (r 2199) n 4 + nd (r 2199) n 8) : tAI (mkH s (jn c r)) (Int32.ofInt n) (Int32.ofInt i) = Int32.ofInt (tAS (r 2199) n i) := by
  have hn' := hn
  obtain ⟨⟨n1, n2⟩, n3, n4, n5, n6⟩ := hn
  unfold tAI tAS
  rw [nA_mk h1 h2, nA_mk h1 h2, I_val h3 h4, smn hm (by omega)]
  split
  · rfl
  · rename_i hne
    have := lpS_rng hn' (i := i) (by omega) h6
    rw [lpI_mk h1 h2, I_val (by omega) (by omega), hM_jr (by omega)]
theorem lpB {S : qN} {n i : Int} (hn : nOk S n) (h5 : nd S n 4 ≤ i) (h6 : i ≤ nd S n 4 + nd S n 8) (q : ¬ i = nd S n 4) : inB (Int32.ofInt (lpS S n i)) 11138 := by
  have := lpS_rng hn (i := i) (by omega) h6
  exact inB_I (by omega) (by omega) (by omega)
theorem nOk_u1 {S : qN} {n k v : Int} (h : nOk S n) (h4 : k ≠ 244 * n + 4) (h8 : k ≠ 244 * n + 8) : nOk (u1 S k v) n := by
  unfold nOk at h ⊢
  rw [nd_u1 (Ne.symm h4), nd_u1 (Ne.symm h8)]
  exact h
section MS
variable {l : Launch} {V : qV} {d : Nat} {s : qS} {c r : qI}
set_option maxHeartbeats 2000000 in
set_option maxRecDepth 100000 in
theorem T_M_compacts (hd : 6 ≤ d) (hs : ShMs s) {n : Int} (hn : nOk (r 2199) n) (hm : smS (r 2199)) (hk : kOk (r 2199) n) : T l V mi_M_compacts (rm d) 0 0 [.ref 2198, .int (Int32.ofInt n)] (mkH s (jn c r)) (fun v h' => v = none ∧ h' = mkH s (jn c (uA r 2199 (cmS (r 2199) n)))) := by
  refine T_ev qm_M_compacts [.ref 2198, .int (Int32.ofInt n), .retAddr 0, .retAddr 0, .retAddr 0, .retAddr 0] rfl rfl (Nat.le_of_ble_eq_true rfl) ok_M_compacts (smD_ok (d := d - 1) (by omega)) (fun _ => false) 200 (by omega) (fun K kK => ?_)
  have hc := cfgAt_rng (u := nd (r 2199) n 9) hn
  have hn' := hn
  have hk' := hk
  obtain ⟨⟨n1, n2⟩, n3, n4, n5, n6⟩ := hn
  obtain ⟨k1, k2⟩ := hk
  have ht := tAS_rng hm hn' k1 k2
  have e4 : nd (cmA (r 2199) n) n 4 = nd (r 2199) n 4 := by
    unfold cmA; split
    · rfl
    · rw [nd_u1 (by omega), nd_u1 (by omega)]
  have hcA : ¬ cfgAt (r 2199) n (nd (r 2199) n 9) = -1 → 244 * n + 52 ≤ lpS (r 2199) n (cfgAt (r 2199) n (nd (r 2199) n 9)) ∧ lpS (r 2199) n (cfgAt (r 2199) n (nd (r 2199) n 9)) ≤ 244 * n + 240 := fun q => by
    have := lpS_rng hn' (i := cfgAt (r 2199) n (nd (r 2199) n 9)) (by omega) (by omega)
    omega
  have hnA : nOk (cmA (r 2199) n) n := by
    unfold cmA; split
    · exact hn'
    · exact nOk_u1 (nOk_u1 hn' (by omega) (by omega)) (by omega) (by omega)
  have hmA : smS (cmA (r 2199) n) := by
    unfold cmA; split
    · exact hm
    · rename_i q
      have := hcA q
      exact smS_u1 (smS_u1 hm (hm _ (by omega)).1 (hm _ (by omega)).2) (hm _ (by omega)).1 (hm _ (by omega)).2
  have tail : ∀ x4, G l V mi_M_compacts (rm d) 0 0 (fun v h' => v = none ∧ h' = mkH s (jn c (uA r 2199 (cmS (r 2199) n)))) 0 0 71 [.ref 2198, .int (Int32.ofInt n), .int (Int32.ofInt (nd (r 2199) n 9)), x4, .int (Int32.ofInt (tAS (r 2199) n (nd (r 2199) n 9))), .retAddr 0] [.int (Int32.ofInt (nd (r 2199) n 9)), .int (Int32.ofInt n), .ref 2198] (mkH s (jn c (uA r 2199 (cmA (r 2199) n)))) := by
    intro x4
    refine GCD ok_M_compacts r_M_compacts_71 ⟨by decide, by decide⟩ qm_M_goesUpTo (T_M_goesUpTo (d := d - 1) (by omega) hs (n := n) (i := nd (r 2199) n 9) (by rw [uA_same]; exact hnA) (by rw [uA_same]; exact hmA) (by rw [uA_same, e4]; exact k1) (by omega)) rfl rfl (fun _ => rcM hs) rfl (Nat.le_of_ble_eq_true rfl) (by omega) ?_
    refine G_ev ok_M_compacts (smD_ok (d := d - 1) (by omega)) (fun _ => false) 300 (by omega) (fun K kK => ?_)
    simp (disch := omega) only [ev_s, evN_ap, List.getElem?_cons_zero, List.getElem?_cons_succ, List.set_cons_zero, List.set_cons_succ, Bool.false_eq_true, ↓reduceIte, qrest_n, qrest_1, qrest_2, qrest_3, qrest_4, qrest_5, qrest_6, qtr_i, qtr_r, true_and, and_true, List.length_cons, List.length_nil, Int.cast_ofNat_Int, Int32.toInt_zero, false_implies, true_implies, not_false_eq_true, not_true_eq_false, Option.toList_some, Option.toList_none, List.cons_append, List.nil_append, Nat.reduceBEq, Nat.reduceAdd, Nat.reduceLT, Nat.zero_add, Int.reduceAdd, Int.reduceLE, Int.reduceLT, Int.reduceEq, and_self, Int.reduceNeg, qrok_i, qrok_b0, qrok_b1, qrok_bI, Option.some.injEq, Value.int.injEq, J_bI0, J_bI1, e_0, v_0, e_1, v_1, e_2, v_2, e_3, v_3, e_5, v_5, e_6, v_6, e_13, v_13, e_15, v_15, e_20, v_20, e_24, v_24, e_41, e_44, qspl_z, qspl_s, evC_s, evD_none, evD_v, evD_s, c_0, c_3, b_0, smD_176, sw_M_the, smD_177, sw_M_sets, smD_181, sw_M_logPlace, smD_183, sw_M_termAt, (smD_no (k := 184) rfl), (smD_no (k := 190) rfl), r_M_compacts_0, r_M_compacts_1, r_M_compacts_2, r_M_compacts_4, r_M_compacts_7, r_M_compacts_8, r_M_compacts_9, r_M_compacts_10, r_M_compacts_11, r_M_compacts_14, r_M_compacts_15, r_M_compacts_16, r_M_compacts_17, r_M_compacts_18, r_M_compacts_21, r_M_compacts_23, r_M_compacts_24, r_M_compacts_25, r_M_compacts_28, r_M_compacts_29, r_M_compacts_30, r_M_compacts_32, r_M_compacts_33, r_M_compacts_36, r_M_compacts_37, r_M_compacts_38, r_M_compacts_39, r_M_compacts_42, r_M_compacts_43, r_M_compacts_44, r_M_compacts_45, r_M_compacts_48, r_M_compacts_49, r_M_compacts_50, r_M_compacts_52, r_M_compacts_53, r_M_compacts_56, r_M_compacts_57, r_M_compacts_58, r_M_compacts_59, r_M_compacts_62, r_M_compacts_63, r_M_compacts_64, r_M_compacts_65, r_M_compacts_68, r_M_compacts_69, r_M_compacts_70, r_M_compacts_71, r_M_compacts_74, r_M_compacts_75, r_M_compacts_76, r_M_compacts_77, r_M_compacts_79, r_M_compacts_82, r_M_compacts_83, r_M_compacts_85, r_M_compacts_87, r_M_compacts_89, r_M_compacts_92, r_M_compacts_93, r_M_compacts_94, r_M_compacts_96, r_M_compacts_98, r_M_compacts_99, r_M_compacts_100, r_M_compacts_101, r_M_compacts_103, r_M_compacts_105, r_M_compacts_106, r_M_compacts_109, r_M_compacts_112, r_M_compacts_115, r_M_compacts_118, (shS_o hs), (shS_r_now hs), (shS_k_now hs), nA_mk, lpI_mk, mnI_I, mxI_I, I_val, I_add, I_sub, I_mul, ShM_mk, hs, ndB_I, hM_jr, inB, smv hm, smn hm, bI_z, Bool.or_eq_true, Bool.or_false, Bool.false_or, beq_iff_eq, or_false, false_or, set_jA, uA_uA, uA_same, uA_ne, u1_ne, u1_same, nd_u1, nd_u1s, lpS_u1, n1, n2]
    have e := cpK (S := cmB (r 2199) n) (n := n)
    simp (disch := omega) only [cmB, nd_u1] at e
    have e2 : cmS (r 2199) n = _ := e.symm
    rw [e2]
  simp (disch := omega) only [ev_s, evN_ap, List.getElem?_cons_zero, List.getElem?_cons_succ, List.set_cons_zero, List.set_cons_succ, Bool.false_eq_true, ↓reduceIte, qrest_n, qrest_1, qrest_2, qrest_3, qrest_4, qrest_5, qrest_6, qtr_i, qtr_r, true_and, and_true, List.length_cons, List.length_nil, Int.cast_ofNat_Int, Int32.toInt_zero, false_implies, true_implies, not_false_eq_true, not_true_eq_false, Option.toList_some, Option.toList_none, List.cons_append, List.nil_append, Nat.reduceBEq, Nat.reduceAdd, Nat.reduceLT, Nat.zero_add, Int.reduceAdd, Int.reduceLE, Int.reduceLT, Int.reduceEq, and_self, Int.reduceNeg, qrok_i, qrok_b0, qrok_b1, qrok_bI, Option.some.injEq, Value.int.injEq, J_bI0, J_bI1, e_0, v_0, e_1, v_1, e_2, v_2, e_3, v_3, e_5, v_5, e_6, v_6, e_13, v_13, e_15, v_15, e_20, v_20, e_24, v_24, e_41, e_44, qspl_z, qspl_s, evC_s, evD_none, evD_v, evD_s, c_0, c_3, b_0, smD_176, sw_M_the, smD_177, sw_M_sets, smD_181, sw_M_logPlace, smD_183, sw_M_termAt, (smD_no (k := 184) rfl), (smD_no (k := 190) rfl), r_M_compacts_0, r_M_compacts_1, r_M_compacts_2, r_M_compacts_4, r_M_compacts_7, r_M_compacts_8, r_M_compacts_9, r_M_compacts_10, r_M_compacts_11, r_M_compacts_14, r_M_compacts_15, r_M_compacts_16, r_M_compacts_17, r_M_compacts_18, r_M_compacts_21, r_M_compacts_23, r_M_compacts_24, r_M_compacts_25, r_M_compacts_28, r_M_compacts_29, r_M_compacts_30, r_M_compacts_32, r_M_compacts_33, r_M_compacts_36, r_M_compacts_37, r_M_compacts_38, r_M_compacts_39, r_M_compacts_42, r_M_compacts_43, r_M_compacts_44, r_M_compacts_45, r_M_compacts_48, r_M_compacts_49, r_M_compacts_50, r_M_compacts_52, r_M_compacts_53, r_M_compacts_56, r_M_compacts_57, r_M_compacts_58, r_M_compacts_59, r_M_compacts_62, r_M_compacts_63, r_M_compacts_64, r_M_compacts_65, r_M_compacts_68, r_M_compacts_69, r_M_compacts_70, r_M_compacts_71, r_M_compacts_74, r_M_compacts_75, r_M_compacts_76, r_M_compacts_77, r_M_compacts_79, r_M_compacts_82, r_M_compacts_83, r_M_compacts_85, r_M_compacts_87, r_M_compacts_89, r_M_compacts_92, r_M_compacts_93, r_M_compacts_94, r_M_compacts_96, r_M_compacts_98, r_M_compacts_99, r_M_compacts_100, r_M_compacts_101, r_M_compacts_103, r_M_compacts_105, r_M_compacts_106, r_M_compacts_109, r_M_compacts_112, r_M_compacts_115, r_M_compacts_118, (shS_o hs), (shS_r_now hs), (shS_k_now hs), nA_mk, lpI_mk, mnI_I, mxI_I, I_val, I_add, I_sub, I_mul, ShM_mk, hs, ndB_I, hM_jr, inB, smv hm, smn hm, bI_z, Bool.or_eq_true, Bool.or_false, Bool.false_or, beq_iff_eq, or_false, false_or, set_jA, uA_uA, uA_same, uA_ne, u1_ne, u1_same, nd_u1, nd_u1s, lpS_u1]
  refine ⟨⟨n1, n2⟩, ?_⟩
  refine kK _ _ _ _ (GCD ok_M_compacts r_M_compacts_11 ⟨by decide, by decide⟩ qm_M_configAt (T_configAt (d := d - 1) (by omega) hs hn' hm (by omega)) rfl rfl (fun _ => rcM hs) rfl (Nat.le_of_ble_eq_true rfl) (by omega) ?_)
  refine G_ev ok_M_compacts (smD_ok (d := d - 1) (by omega)) (fun _ => false) 200 (by omega) (fun K kK => ?_)
  by_cases hcf : cfgAt (r 2199) n (nd (r 2199) n 9) = -1
  · simp (disch := first | assumption | omega) only [ev_s, evN_ap, List.getElem?_cons_zero, List.getElem?_cons_succ, List.set_cons_zero, List.set_cons_succ, Bool.false_eq_true, ↓reduceIte, qrest_n, qrest_1, qrest_2, qrest_3, qrest_4, qrest_5, qrest_6, qtr_i, qtr_r, true_and, and_true, List.length_cons, List.length_nil, Int.cast_ofNat_Int, Int32.toInt_zero, false_implies, true_implies, not_false_eq_true, not_true_eq_false, Option.toList_some, Option.toList_none, List.cons_append, List.nil_append, Nat.reduceBEq, Nat.reduceAdd, Nat.reduceLT, Nat.zero_add, Int.reduceAdd, Int.reduceLE, Int.reduceLT, Int.reduceEq, and_self, Int.reduceNeg, qrok_i, qrok_b0, qrok_b1, qrok_bI, Option.some.injEq, Value.int.injEq, J_bI0, J_bI1, e_0, v_0, e_1, v_1, e_2, v_2, e_3, v_3, e_5, v_5, e_6, v_6, e_13, v_13, e_15, v_15, e_20, v_20, e_24, v_24, e_41, e_44, qspl_z, qspl_s, evC_s, evD_none, evD_v, evD_s, c_0, c_3, b_0, smD_176, sw_M_the, smD_177, sw_M_sets, smD_181, sw_M_logPlace, smD_183, sw_M_termAt, (smD_no (k := 184) rfl), (smD_no (k := 190) rfl), r_M_compacts_0, r_M_compacts_1, r_M_compacts_2, r_M_compacts_4, r_M_compacts_7, r_M_compacts_8, r_M_compacts_9, r_M_compacts_10, r_M_compacts_11, r_M_compacts_14, r_M_compacts_15, r_M_compacts_16, r_M_compacts_17, r_M_compacts_18, r_M_compacts_21, r_M_compacts_23, r_M_compacts_24, r_M_compacts_25, r_M_compacts_28, r_M_compacts_29, r_M_compacts_30, r_M_compacts_32, r_M_compacts_33, r_M_compacts_36, r_M_compacts_37, r_M_compacts_38, r_M_compacts_39, r_M_compacts_42, r_M_compacts_43, r_M_compacts_44, r_M_compacts_45, r_M_compacts_48, r_M_compacts_49, r_M_compacts_50, r_M_compacts_52, r_M_compacts_53, r_M_compacts_56, r_M_compacts_57, r_M_compacts_58, r_M_compacts_59, r_M_compacts_62, r_M_compacts_63, r_M_compacts_64, r_M_compacts_65, r_M_compacts_68, r_M_compacts_69, r_M_compacts_70, r_M_compacts_71, r_M_compacts_74, r_M_compacts_75, r_M_compacts_76, r_M_compacts_77, r_M_compacts_79, r_M_compacts_82, r_M_compacts_83, r_M_compacts_85, r_M_compacts_87, r_M_compacts_89, r_M_compacts_92, r_M_compacts_93, r_M_compacts_94, r_M_compacts_96, r_M_compacts_98, r_M_compacts_99, r_M_compacts_100, r_M_compacts_101, r_M_compacts_103, r_M_compacts_105, r_M_compacts_106, r_M_compacts_109, r_M_compacts_112, r_M_compacts_115, r_M_compacts_118, (shS_o hs), (shS_r_now hs), (shS_k_now hs), nA_mk, lpI_mk, mnI_I, mxI_I, I_val, I_add, I_sub, I_mul, ShM_mk, hs, ndB_I, hM_jr, inB, smv hm, smn hm, bI_z, Bool.or_eq_true, Bool.or_false, Bool.false_or, beq_iff_eq, or_false, false_or, set_jA, uA_uA, uA_same, uA_ne, u1_ne, u1_same, nd_u1, nd_u1s, lpS_u1, tAI_mk, hcf]
    refine ⟨⟨⟨n1, n2⟩, fun q => lpB hn' k1 k2 q⟩, kK _ _ _ _ ?_⟩
    have := tail (.int (Int32.ofInt (-1)))
    rw [show cmA (r 2199) n = r 2199 by unfold cmA; rw [if_pos hcf], uA_self] at this
    exact this
  · have hl := hcA hcf
    have h6 := hm (lpS (r 2199) n (cfgAt (r 2199) n (nd (r 2199) n 9)) + 2) (by omega)
    simp (disch := first | assumption | omega) only [ev_s, evN_ap, List.getElem?_cons_zero, List.getElem?_cons_succ, List.set_cons_zero, List.set_cons_succ, Bool.false_eq_true, ↓reduceIte, qrest_n, qrest_1, qrest_2, qrest_3, qrest_4, qrest_5, qrest_6, qtr_i, qtr_r, true_and, and_true, List.length_cons, List.length_nil, Int.cast_ofNat_Int, Int32.toInt_zero, false_implies, true_implies, not_false_eq_true, not_true_eq_false, Option.toList_some, Option.toList_none, List.cons_append, List.nil_append, Nat.reduceBEq, Nat.reduceAdd, Nat.reduceLT, Nat.zero_add, Int.reduceAdd, Int.reduceLE, Int.reduceLT, Int.reduceEq, and_self, Int.reduceNeg, qrok_i, qrok_b0, qrok_b1, qrok_bI, Option.some.injEq, Value.int.injEq, J_bI0, J_bI1, e_0, v_0, e_1, v_1, e_2, v_2, e_3, v_3, e_5, v_5, e_6, v_6, e_13, v_13, e_15, v_15, e_20, v_20, e_24, v_24, e_41, e_44, qspl_z, qspl_s, evC_s, evD_none, evD_v, evD_s, c_0, c_3, b_0, smD_176, sw_M_the, smD_177, sw_M_sets, smD_181, sw_M_logPlace, smD_183, sw_M_termAt, (smD_no (k := 184) rfl), (smD_no (k := 190) rfl), r_M_compacts_0, r_M_compacts_1, r_M_compacts_2, r_M_compacts_4, r_M_compacts_7, r_M_compacts_8, r_M_compacts_9, r_M_compacts_10, r_M_compacts_11, r_M_compacts_14, r_M_compacts_15, r_M_compacts_16, r_M_compacts_17, r_M_compacts_18, r_M_compacts_21, r_M_compacts_23, r_M_compacts_24, r_M_compacts_25, r_M_compacts_28, r_M_compacts_29, r_M_compacts_30, r_M_compacts_32, r_M_compacts_33, r_M_compacts_36, r_M_compacts_37, r_M_compacts_38, r_M_compacts_39, r_M_compacts_42, r_M_compacts_43, r_M_compacts_44, r_M_compacts_45, r_M_compacts_48, r_M_compacts_49, r_M_compacts_50, r_M_compacts_52, r_M_compacts_53, r_M_compacts_56, r_M_compacts_57, r_M_compacts_58, r_M_compacts_59, r_M_compacts_62, r_M_compacts_63, r_M_compacts_64, r_M_compacts_65, r_M_compacts_68, r_M_compacts_69, r_M_compacts_70, r_M_compacts_71, r_M_compacts_74, r_M_compacts_75, r_M_compacts_76, r_M_compacts_77, r_M_compacts_79, r_M_compacts_82, r_M_compacts_83, r_M_compacts_85, r_M_compacts_87, r_M_compacts_89, r_M_compacts_92, r_M_compacts_93, r_M_compacts_94, r_M_compacts_96, r_M_compacts_98, r_M_compacts_99, r_M_compacts_100, r_M_compacts_101, r_M_compacts_103, r_M_compacts_105, r_M_compacts_106, r_M_compacts_109, r_M_compacts_112, r_M_compacts_115, r_M_compacts_118, (shS_o hs), (shS_r_now hs), (shS_k_now hs), nA_mk, lpI_mk, mnI_I, mxI_I, I_val, I_add, I_sub, I_mul, ShM_mk, hs, ndB_I, hM_jr, inB, smv hm, smn hm, bI_z, Bool.or_eq_true, Bool.or_false, Bool.false_or, beq_iff_eq, or_false, false_or, set_jA, uA_uA, uA_same, uA_ne, u1_ne, u1_same, nd_u1, nd_u1s, lpS_u1, tAI_mk, hcf]
    refine ⟨⟨⟨n1, n2⟩, fun q => lpB hn' k1 k2 q⟩, ⟨n1, n2⟩, by omega, ⟨n1, n2⟩, ⟨n1, n2⟩, by omega, ⟨n1, n2⟩, kK _ _ _ _ ?_⟩
    have := tail (.int (Int32.ofInt (cfgAt (r 2199) n (nd (r 2199) n 9))))
    rw [show cmA (r 2199) n = _ by unfold cmA; rw [if_neg hcf]] at this
    exact this
end MS
