/-! what the reference reads: configs, majorities -/
theorem rcM {s : qS} {m : qI} {as : List Value} (hs : ShMs s) : ∃ x as', (Value.ref 2198 :: as) = .ref x :: as' ∧ (hK (mkH s m) x).1 = 9 ∧ 9 < 10 := ⟨2198, as, rfl, by rw [shS_o hs], by decide⟩
def b1 (x : Int32) (k : Int) : Int32 := (x >>> (Int32.ofInt k &&& 31)) &&& Int32.ofInt 1
def bitsI (x : Int32) : Int32 := Int32.ofInt 0 + b1 x 0 + b1 x 1 + b1 x 2 + b1 x 3 + b1 x 4 + b1 x 5 + b1 x 6
noncomputable def sm_M_bits (as : List Value) (h : qH) : Option (Prop × Option Value × qH) := match as with
  | [.int x] => some (True, (some (.int (bitsI x))), h)
  | _ => none
theorem sw_M_bits {h : qH} {x : Int32} : sm_M_bits [.int x] h = some (True, (some (.int (bitsI x))), h) := nrfl rfl
set_option maxHeartbeats 2000000 in
set_option maxRecDepth 100000 in
theorem t_M_bits {l : Launch} {V : qV} {d : Nat} (hd : 4 ≤ d) {h : qH} {x : Int32} (hp : True) : T l V mi_M_bits (rm d) 0 0 [.int x] h (fun v h' => v = (some (.int (bitsI x))) ∧ h' = h) := by
  refine T_ev qm_M_bits [.int x, .retAddr 0, .retAddr 0] rfl rfl (Nat.le_of_ble_eq_true rfl) ok_M_bits (smC_ok (d := d - 1) (by omega)) (fun _ => false) 200 (by omega) (fun K kK => ?_)
  simp (disch := omega) only [ev_s, evN_ap, List.getElem?_cons_zero, List.getElem?_cons_succ, List.set_cons_zero, List.set_cons_succ, Bool.false_eq_true, ↓reduceIte, qrest_n, qrest_1, qrest_2, qrest_3, qrest_4, qrest_5, qrest_6, qtr_i, qtr_r, true_and, and_true, List.length_cons, List.length_nil, Int.cast_ofNat_Int, Int32.toInt_zero, false_implies, true_implies, not_false_eq_true, not_true_eq_false, Option.toList_some, Option.toList_none, List.cons_append, List.nil_append, Nat.reduceBEq, Nat.reduceAdd, Nat.reduceLT, Nat.zero_add, Int.reduceAdd, Int.reduceLE, Int.reduceLT, Int.reduceEq, and_self, Int.reduceNeg, qrok_i, qrok_b0, qrok_b1, qrok_bI, Option.some.injEq, Value.int.injEq, J_bI0, J_bI1, e_0, v_0, e_1, v_1, e_3, v_3, e_5, v_5, e_6, v_6, e_13, v_13, e_15, v_15, e_40, c_3, b_0, b_3, b_7, r_M_bits_0, r_M_bits_1, r_M_bits_2, r_M_bits_3, r_M_bits_4, r_M_bits_5, r_M_bits_7, r_M_bits_10, r_M_bits_11, r_M_bits_12, r_M_bits_13, r_M_bits_14, r_M_bits_15, r_M_bits_16, r_M_bits_17, r_M_bits_18, r_M_bits_21, r_M_bits_24, r_M_bits_25, I_val, I_add, b1, bitsI]
theorem sk_M_bits {l : Launch} {V : qV} {d : Nat} (hd : 4 ≤ d) (as : List Value) (h : qH) (P : Prop) (v : Option Value) (h' : qH) (e : sm_M_bits as h = some (P, v, h')) (hp : P) : ∃ t, qms[173]? = some t ∧ T l V t (rm d) 0 0 as h (fun v' h'' => v' = v ∧ h'' = h') ∧ (t.2.2.2.2.2.2 ≠ 0 → ∃ x as', as = .ref x :: as' ∧ (hK h x).1 = t.2.2.2.2.2.1 ∧ t.2.2.2.2.2.1 < 10) := by
  unfold sm_M_bits at e
  split at e
  · cases e
    exact ⟨_, qm_M_bits, t_M_bits hd hp, fun q => absurd rfl q⟩
  · cases e
noncomputable def smE : qSm := fun a as h => if a = 173 then sm_M_bits as h else smD a as h
theorem smE_ok {l : Launch} {V : qV} {d : Nat} (hd : 4 ≤ d) : smok l V d smE := by
  intro a as h P v h' e hp
  unfold smE at e
  split at e
  · rename_i ha; subst ha; exact sk_M_bits (by omega) _ _ _ _ _ e hp
  exact smD_ok (by omega) _ _ _ _ _ _ e hp
theorem smE_173 {as : List Value} {h : qH} : smE 173 as h = sm_M_bits as h := nrfl (by simp [smE, smD, smC, smB, smA])
theorem smE_169 {as : List Value} {h : qH} : smE 169 as h = sm_M_in as h := nrfl (by simp [smE, smD, smC, smB, smA])
theorem smE_170 {as : List Value} {h : qH} : smE 170 as h = sm_M_min as h := nrfl (by simp [smE, smD, smC, smB, smA])
theorem smE_171 {as : List Value} {h : qH} : smE 171 as h = sm_M_max as h := nrfl (by simp [smE, smD, smC, smB, smA])
theorem smE_172 {as : List Value} {h : qH} : smE 172 as h = sm_M_has as h := nrfl (by simp [smE, smD, smC, smB, smA])
theorem smE_176 {as : List Value} {h : qH} : smE 176 as h = sm_M_the as h := nrfl (by simp [smE, smD, smC, smB, smA])
theorem smE_177 {as : List Value} {h : qH} : smE 177 as h = sm_M_sets as h := nrfl (by simp [smE, smD, smC, smB, smA])
theorem smE_237 {as : List Value} {h : qH} : smE 237 as h = sm_M_breaks as h := nrfl (by simp [smE, smD, smC, smB, smA])
theorem smE_175 {as : List Value} {h : qH} : smE 175 as h = sm_M_isNode as h := nrfl (by simp [smE, smD, smC, smB, smA])
theorem smE_180 {as : List Value} {h : qH} : smE 180 as h = sm_M_lastOf as h := nrfl (by simp [smE, smD, smC, smB, smA])
theorem smE_181 {as : List Value} {h : qH} : smE 181 as h = sm_M_logPlace as h := nrfl (by simp [smE, smD, smC, smB, smA])
theorem smE_225 {as : List Value} {h : qH} : smE 225 as h = sm_M_loses as h := nrfl (by simp [smE, smD, smC, smB, smA])
theorem smE_245 {as : List Value} {h : qH} : smE 245 as h = sm_M_areLinked as h := nrfl (by simp [smE, smD, smC, smB, smA])
theorem smE_178 {as : List Value} {h : qH} : smE 178 as h = sm_M_isUp as h := nrfl (by simp [smE, smD, smC, smB, smA])
theorem smE_182 {as : List Value} {h : qH} : smE 182 as h = sm_M_hasEntry as h := nrfl (by simp [smE, smD, smC, smB, smA])
theorem smE_183 {as : List Value} {h : qH} : smE 183 as h = sm_M_termAt as h := nrfl (by simp [smE, smD, smC, smB, smA])
theorem smE_271 {as : List Value} {h : qH} : smE 271 as h = sm_M_isFull as h := nrfl (by simp [smE, smD, smC, smB, smA])
theorem smE_179 {as : List Value} {h : qH} : smE 179 as h = sm_M_isLeader as h := nrfl (by simp [smE, smD, smC, smB, smA])
theorem smE_248 {as : List Value} {h : qH} : smE 248 as h = sm_M_isNoLess as h := nrfl (by simp [smE, smD, smC, smB, smA])
theorem smE_no {k : Nat} {as : List Value} {h : qH} (hk : List.elem k [173, 169, 170, 171, 172, 176, 177, 237, 175, 180, 181, 225, 245, 178, 182, 183, 271, 179, 248] = false) : smE k as h = none := by
  simp only [List.elem_eq_mem, List.mem_cons, List.not_mem_nil, or_false, not_or, decide_eq_false_iff_not] at hk
  simp [hk, smE, smD, smC, smB, smA, sm0]
def oldS (S : qN) (n : Int) : Int := if cfgAt S n 999 = -1 then nd S n 6 else S (lpS S n (cfgAt S n 999) + 2)
def newS (S : qN) (n : Int) : Int := if cfgAt S n 999 = -1 then nd S n 7 else S (lpS S n (cfgAt S n 999) + 3)
theorem cfgAt_rng {S : qN} {n u : Int} (hn : nOk S n) : cfgAt S n u = -1 ∨ (nd S n 4 + 1 ≤ cfgAt S n u ∧ cfgAt S n u ≤ nd S n 4 + nd S n 8 ∧ cfgAt S n u ≤ u) := by
  obtain ⟨-, n3, n4, n5, n6⟩ := hn
  have := cfgS_le (S := S) (n := n) (by omega) (min u (lastS S n) - nd S n 4).toNat
  unfold cfgAt
  unfold lastS at this ⊢
  omega
theorem lpS_rng {S : qN} {n i : Int} (hn : nOk S n) (h1 : nd S n 4 + 1 ≤ i) (h2 : i ≤ nd S n 4 + nd S n 8) : 244 * n + 52 ≤ lpS S n i ∧ lpS S n i ≤ 244 * n + 240 ∧ 0 ≤ lpS S n i ∧ lpS S n i ≤ 1708 := by
  obtain ⟨⟨n1, n2⟩, n3, n4, n5, n6⟩ := hn
  unfold lpS; omega
noncomputable def andZ (a b : Int) : Int := (Int32.ofInt a &&& Int32.ofInt b).toInt
noncomputable def orZ (a b : Int) : Int := (Int32.ofInt a ||| Int32.ofInt b).toInt
noncomputable def bitsZ (a : Int) : Int := (bitsI (Int32.ofInt a)).toInt
theorem I_and {a b : Int} : Int32.ofInt a &&& Int32.ofInt b = Int32.ofInt (andZ a b) := by unfold andZ; simp
theorem I_or {a b : Int} : Int32.ofInt a ||| Int32.ofInt b = Int32.ofInt (orZ a b) := by unfold orZ; simp
theorem I_bits {a : Int} : bitsI (Int32.ofInt a) = Int32.ofInt (bitsZ a) := by unfold bitsZ; simp
theorem bits_lt : ∀ b : Nat, b < 128 → 0 ≤ bitsZ (b : Int) ∧ bitsZ (b : Int) ≤ 7 := by
  intro b hb
  unfold bitsZ bitsI b1
  revert b
  decide +kernel
theorem and_lt : ∀ a : Nat, a < 128 → ∀ b : Nat, b < 128 → 0 ≤ andZ (a : Int) (b : Int) ∧ andZ (a : Int) (b : Int) ≤ 127 := by
  unfold andZ
  decide +kernel
theorem or_lt : ∀ a : Nat, a < 128 → ∀ b : Nat, b < 128 → 0 ≤ orZ (a : Int) (b : Int) ∧ orZ (a : Int) (b : Int) ≤ 127 := by
  unfold orZ
  decide +kernel
def set7 (a : Int) : Prop := 0 ≤ a ∧ a ≤ 127
theorem bits_rng {a : Int} (h : set7 a) : 0 ≤ bitsZ a ∧ bitsZ a ≤ 7 := by
  obtain ⟨h1, h2⟩ := h
  have := bits_lt a.toNat (by omega)
  rwa [Int.toNat_of_nonneg h1] at this
theorem and_rng {a b : Int} (h : set7 a) (h' : set7 b) : set7 (andZ a b) := by
  obtain ⟨h1, h2⟩ := h
  obtain ⟨h3, h4⟩ := h'
  have := and_lt a.toNat (by omega) b.toNat (by omega)
  rwa [Int.toNat_of_nonneg h1, Int.toNat_of_nonneg h3] at this
theorem or_rng {a b : Int} (h : set7 a) (h' : set7 b) : set7 (orZ a b) := by
  obtain ⟨h1, h2⟩ := h
  obtain ⟨h3, h4⟩ := h'
  have := or_lt a.toNat (by omega) b.toNat (by omega)
  rwa [Int.toNat_of_nonneg h1, Int.toNat_of_nonneg h3] at this
noncomputable def memS (S : qN) (n : Int) : Int := orZ (oldS S n) (newS S n)
noncomputable def mostS (S : qN) (n x : Int) : Prop := bitsZ (oldS S n) < 2 * bitsZ (andZ x (oldS S n)) ∧ (newS S n = 0 ∨ bitsZ (newS S n) < 2 * bitsZ (andZ x (newS S n)))
/-- configs are sets of nodes -/
def cOk (S : qN) (n : Int) : Prop := set7 (oldS S n) ∧ set7 (newS S n)
def heldCfg (S : qN) (n : Int) : Prop := cfgAt S n 999 ≤ nd S n 9
section MS
variable {l : Launch} {V : qV} {d : Nat} {s : qS} {c r : qI}
set_option maxHeartbeats 2000000 in
set_option maxRecDepth 100000 in
theorem T_M_oldOf (hd : 6 ≤ d) (hs : ShMs s) {n : Int} (hn : nOk (r 2199) n) (hm : smS (r 2199)) : T l V mi_M_oldOf (rm d) 0 0 [.ref 2198, .int (Int32.ofInt n)] (mkH s (jn c r)) (fun v h' => v = some (.int (Int32.ofInt (oldS (r 2199) n))) ∧ h' = mkH s (jn c r)) := by
  refine T_ev qm_M_oldOf [.ref 2198, .int (Int32.ofInt n), .retAddr 0] rfl rfl (Nat.le_of_ble_eq_true rfl) ok_M_oldOf (smE_ok (d := d - 1) (by omega)) (fun _ => false) 200 (by omega) (fun K kK => ?_)
  have hc := cfgAt_rng (u := 999) hn
  have hn' := hn
  obtain ⟨⟨n1, n2⟩, n3, n4, n5, n6⟩ := hn
  simp (disch := omega) only [ev_s, evN_ap, List.getElem?_cons_zero, List.getElem?_cons_succ, List.set_cons_zero, List.set_cons_succ, Bool.false_eq_true, ↓reduceIte, qrest_n, qrest_1, qrest_2, qrest_3, qrest_4, qrest_5, qrest_6, qtr_i, qtr_r, true_and, and_true, List.length_cons, List.length_nil, Int.cast_ofNat_Int, Int32.toInt_zero, false_implies, true_implies, not_false_eq_true, not_true_eq_false, Option.toList_some, Option.toList_none, List.cons_append, List.nil_append, Nat.reduceBEq, Nat.reduceAdd, Nat.reduceLT, Nat.zero_add, Int.reduceAdd, Int.reduceLE, Int.reduceLT, Int.reduceEq, and_self, Int.reduceNeg, qrok_i, qrok_b0, qrok_b1, qrok_bI, Option.some.injEq, Value.int.injEq, J_bI0, J_bI1, e_0, v_0, e_1, v_1, e_2, v_2, e_3, v_3, e_6, v_6, e_13, v_13, e_15, v_15, e_20, v_20, e_24, v_24, e_40, e_44, qspl_z, qspl_s, evC_s, evD_none, evD_v, evD_s, c_1, b_0, smE_176, sw_M_the, smE_181, sw_M_logPlace, (smE_no (k := 184) rfl), r_M_oldOf_0, r_M_oldOf_1, r_M_oldOf_2, r_M_oldOf_5, r_M_oldOf_8, r_M_oldOf_9, r_M_oldOf_10, r_M_oldOf_11, r_M_oldOf_14, r_M_oldOf_15, r_M_oldOf_16, r_M_oldOf_18, r_M_oldOf_21, r_M_oldOf_24, r_M_oldOf_25, r_M_oldOf_28, r_M_oldOf_29, r_M_oldOf_30, r_M_oldOf_31, r_M_oldOf_34, r_M_oldOf_35, r_M_oldOf_36, r_M_oldOf_37, (shS_o hs), (shS_r_now hs), (shS_k_now hs), nA_mk, lpI_mk, mnI_I, mxI_I, I_val, I_add, I_sub, I_mul, ShM_mk, hs, ndB_I, hM_jr, inB, smv hm, smn hm, bI_z, Bool.or_eq_true, Bool.or_false, Bool.false_or, beq_iff_eq, or_false, false_or]
  refine kK _ _ _ _ (GCD ok_M_oldOf r_M_oldOf_5 ⟨by decide, by decide⟩ qm_M_configAt (T_configAt (d := d - 1) (by omega) hs hn' hm (by omega)) rfl rfl (fun _ => rcM hs) rfl (Nat.le_of_ble_eq_true rfl) (by omega) ?_)
  refine G_ev ok_M_oldOf (smE_ok (d := d - 1) (by omega)) (fun _ => false) 200 (by omega) (fun K kK => ?_)
  simp (disch := omega) only [ev_s, evN_ap, List.getElem?_cons_zero, List.getElem?_cons_succ, List.set_cons_zero, List.set_cons_succ, Bool.false_eq_true, ↓reduceIte, qrest_n, qrest_1, qrest_2, qrest_3, qrest_4, qrest_5, qrest_6, qtr_i, qtr_r, true_and, and_true, List.length_cons, List.length_nil, Int.cast_ofNat_Int, Int32.toInt_zero, false_implies, true_implies, not_false_eq_true, not_true_eq_false, Option.toList_some, Option.toList_none, List.cons_append, List.nil_append, Nat.reduceBEq, Nat.reduceAdd, Nat.reduceLT, Nat.zero_add, Int.reduceAdd, Int.reduceLE, Int.reduceLT, Int.reduceEq, and_self, Int.reduceNeg, qrok_i, qrok_b0, qrok_b1, qrok_bI, Option.some.injEq, Value.int.injEq, J_bI0, J_bI1, e_0, v_0, e_1, v_1, e_2, v_2, e_3, v_3, e_6, v_6, e_13, v_13, e_15, v_15, e_20, v_20, e_24, v_24, e_40, e_44, qspl_z, qspl_s, evC_s, evD_none, evD_v, evD_s, c_1, b_0, smE_176, sw_M_the, smE_181, sw_M_logPlace, (smE_no (k := 184) rfl), r_M_oldOf_0, r_M_oldOf_1, r_M_oldOf_2, r_M_oldOf_5, r_M_oldOf_8, r_M_oldOf_9, r_M_oldOf_10, r_M_oldOf_11, r_M_oldOf_14, r_M_oldOf_15, r_M_oldOf_16, r_M_oldOf_18, r_M_oldOf_21, r_M_oldOf_24, r_M_oldOf_25, r_M_oldOf_28, r_M_oldOf_29, r_M_oldOf_30, r_M_oldOf_31, r_M_oldOf_34, r_M_oldOf_35, r_M_oldOf_36, r_M_oldOf_37, (shS_o hs), (shS_r_now hs), (shS_k_now hs), nA_mk, lpI_mk, mnI_I, mxI_I, I_val, I_add, I_sub, I_mul, ShM_mk, hs, ndB_I, hM_jr, inB, smv hm, smn hm, bI_z, Bool.or_eq_true, Bool.or_false, Bool.false_or, beq_iff_eq, or_false, false_or]
  refine ⟨fun q => ?_, fun q => ⟨⟨n1, n2⟩, by rw [oldS, if_pos (by omega)]⟩⟩
  have hl := lpS_rng hn' (i := cfgAt (r 2199) n 999) (by omega) (by omega)
  rw [I_val (by omega) (by omega)]
  exact ⟨⟨n1, n2⟩, by omega, by rw [oldS, if_neg q]⟩
set_option maxHeartbeats 2000000 in
set_option maxRecDepth 100000 in
theorem T_M_newOf (hd : 6 ≤ d) (hs : ShMs s) {n : Int} (hn : nOk (r 2199) n) (hm : smS (r 2199)) : T l V mi_M_newOf (rm d) 0 0 [.ref 2198, .int (Int32.ofInt n)] (mkH s (jn c r)) (fun v h' => v = some (.int (Int32.ofInt (newS (r 2199) n))) ∧ h' = mkH s (jn c r)) := by
  refine T_ev qm_M_newOf [.ref 2198, .int (Int32.ofInt n), .retAddr 0] rfl rfl (Nat.le_of_ble_eq_true rfl) ok_M_newOf (smE_ok (d := d - 1) (by omega)) (fun _ => false) 200 (by omega) (fun K kK => ?_)
  have hc := cfgAt_rng (u := 999) hn
  have hn' := hn
  obtain ⟨⟨n1, n2⟩, n3, n4, n5, n6⟩ := hn
  simp (disch := omega) only [ev_s, evN_ap, List.getElem?_cons_zero, List.getElem?_cons_succ, List.set_cons_zero, List.set_cons_succ, Bool.false_eq_true, ↓reduceIte, qrest_n, qrest_1, qrest_2, qrest_3, qrest_4, qrest_5, qrest_6, qtr_i, qtr_r, true_and, and_true, List.length_cons, List.length_nil, Int.cast_ofNat_Int, Int32.toInt_zero, false_implies, true_implies, not_false_eq_true, not_true_eq_false, Option.toList_some, Option.toList_none, List.cons_append, List.nil_append, Nat.reduceBEq, Nat.reduceAdd, Nat.reduceLT, Nat.zero_add, Int.reduceAdd, Int.reduceLE, Int.reduceLT, Int.reduceEq, and_self, Int.reduceNeg, qrok_i, qrok_b0, qrok_b1, qrok_bI, Option.some.injEq, Value.int.injEq, J_bI0, J_bI1, e_0, v_0, e_1, v_1, e_2, v_2, e_3, v_3, e_6, v_6, e_13, v_13, e_15, v_15, e_20, v_20, e_24, v_24, e_40, e_44, qspl_z, qspl_s, evC_s, evD_none, evD_v, evD_s, c_1, b_0, smE_176, sw_M_the, smE_181, sw_M_logPlace, (smE_no (k := 184) rfl), r_M_newOf_0, r_M_newOf_1, r_M_newOf_2, r_M_newOf_5, r_M_newOf_8, r_M_newOf_9, r_M_newOf_10, r_M_newOf_11, r_M_newOf_14, r_M_newOf_15, r_M_newOf_16, r_M_newOf_18, r_M_newOf_21, r_M_newOf_24, r_M_newOf_25, r_M_newOf_28, r_M_newOf_29, r_M_newOf_30, r_M_newOf_31, r_M_newOf_34, r_M_newOf_35, r_M_newOf_36, r_M_newOf_37, (shS_o hs), (shS_r_now hs), (shS_k_now hs), nA_mk, lpI_mk, mnI_I, mxI_I, I_val, I_add, I_sub, I_mul, ShM_mk, hs, ndB_I, hM_jr, inB, smv hm, smn hm, bI_z, Bool.or_eq_true, Bool.or_false, Bool.false_or, beq_iff_eq, or_false, false_or]
  refine kK _ _ _ _ (GCD ok_M_newOf r_M_newOf_5 ⟨by decide, by decide⟩ qm_M_configAt (T_configAt (d := d - 1) (by omega) hs hn' hm (by omega)) rfl rfl (fun _ => rcM hs) rfl (Nat.le_of_ble_eq_true rfl) (by omega) ?_)
  refine G_ev ok_M_newOf (smE_ok (d := d - 1) (by omega)) (fun _ => false) 200 (by omega) (fun K kK => ?_)
  simp (disch := omega) only [ev_s, evN_ap, List.getElem?_cons_zero, List.getElem?_cons_succ, List.set_cons_zero, List.set_cons_succ, Bool.false_eq_true, ↓reduceIte, qrest_n, qrest_1, qrest_2, qrest_3, qrest_4, qrest_5, qrest_6, qtr_i, qtr_r, true_and, and_true, List.length_cons, List.length_nil, Int.cast_ofNat_Int, Int32.toInt_zero, false_implies, true_implies, not_false_eq_true, not_true_eq_false, Option.toList_some, Option.toList_none, List.cons_append, List.nil_append, Nat.reduceBEq, Nat.reduceAdd, Nat.reduceLT, Nat.zero_add, Int.reduceAdd, Int.reduceLE, Int.reduceLT, Int.reduceEq, and_self, Int.reduceNeg, qrok_i, qrok_b0, qrok_b1, qrok_bI, Option.some.injEq, Value.int.injEq, J_bI0, J_bI1, e_0, v_0, e_1, v_1, e_2, v_2, e_3, v_3, e_6, v_6, e_13, v_13, e_15, v_15, e_20, v_20, e_24, v_24, e_40, e_44, qspl_z, qspl_s, evC_s, evD_none, evD_v, evD_s, c_1, b_0, smE_176, sw_M_the, smE_181, sw_M_logPlace, (smE_no (k := 184) rfl), r_M_newOf_0, r_M_newOf_1, r_M_newOf_2, r_M_newOf_5, r_M_newOf_8, r_M_newOf_9, r_M_newOf_10, r_M_newOf_11, r_M_newOf_14, r_M_newOf_15, r_M_newOf_16, r_M_newOf_18, r_M_newOf_21, r_M_newOf_24, r_M_newOf_25, r_M_newOf_28, r_M_newOf_29, r_M_newOf_30, r_M_newOf_31, r_M_newOf_34, r_M_newOf_35, r_M_newOf_36, r_M_newOf_37, (shS_o hs), (shS_r_now hs), (shS_k_now hs), nA_mk, lpI_mk, mnI_I, mxI_I, I_val, I_add, I_sub, I_mul, ShM_mk, hs, ndB_I, hM_jr, inB, smv hm, smn hm, bI_z, Bool.or_eq_true, Bool.or_false, Bool.false_or, beq_iff_eq, or_false, false_or]
  refine ⟨fun q => ?_, fun q => ⟨⟨n1, n2⟩, by rw [newS, if_pos (by omega)]⟩⟩
  have hl := lpS_rng hn' (i := cfgAt (r 2199) n 999) (by omega) (by omega)
  rw [I_val (by omega) (by omega)]
  exact ⟨⟨n1, n2⟩, by omega, by rw [newS, if_neg q]⟩
set_option maxHeartbeats 2000000 in
set_option maxRecDepth 100000 in
theorem T_M_membersOf (hd : 7 ≤ d) (hs : ShMs s) {n : Int} (hn : nOk (r 2199) n) (hm : smS (r 2199)) : T l V mi_M_membersOf (rm d) 0 0 [.ref 2198, .int (Int32.ofInt n)] (mkH s (jn c r)) (fun v h' => v = some (.int (Int32.ofInt (memS (r 2199) n))) ∧ h' = mkH s (jn c r)) := by
  refine T_ev qm_M_membersOf [.ref 2198, .int (Int32.ofInt n)] rfl rfl (Nat.le_of_ble_eq_true rfl) ok_M_membersOf (smE_ok (d := d - 1) (by omega)) (fun _ => false) 200 (by omega) (fun K kK => ?_)
  simp (disch := omega) only [ev_s, evN_ap, List.getElem?_cons_zero, List.getElem?_cons_succ, List.set_cons_zero, List.set_cons_succ, Bool.false_eq_true, ↓reduceIte, qrest_n, qrest_1, qrest_2, qrest_3, qrest_4, qrest_5, qrest_6, qtr_i, qtr_r, true_and, and_true, List.length_cons, List.length_nil, Int.cast_ofNat_Int, Int32.toInt_zero, false_implies, true_implies, not_false_eq_true, not_true_eq_false, Option.toList_some, Option.toList_none, List.cons_append, List.nil_append, Nat.reduceBEq, Nat.reduceAdd, Nat.reduceLT, Nat.zero_add, Int.reduceAdd, Int.reduceLE, Int.reduceLT, Int.reduceEq, and_self, Int.reduceNeg, qrok_i, qrok_b0, qrok_b1, qrok_bI, Option.some.injEq, Value.int.injEq, J_bI0, J_bI1, e_1, v_1, e_2, v_2, e_6, v_6, e_40, e_44, qspl_z, qspl_s, evC_s, evD_none, evD_v, evD_s, b_4, (smE_no (k := 185) rfl), (smE_no (k := 186) rfl), r_M_membersOf_0, r_M_membersOf_1, r_M_membersOf_2, r_M_membersOf_5, r_M_membersOf_6, r_M_membersOf_7, r_M_membersOf_10, r_M_membersOf_11, (shS_o hs), (shS_r_now hs), (shS_k_now hs), nA_mk, lpI_mk, mnI_I, mxI_I, I_val, I_add, I_sub, I_mul, ShM_mk, hs, ndB_I, hM_jr, inB, smv hm, smn hm, bI_z, Bool.or_eq_true, Bool.or_false, Bool.false_or, beq_iff_eq, or_false, false_or]
  refine kK _ _ _ _ (GCD ok_M_membersOf r_M_membersOf_2 ⟨by decide, by decide⟩ qm_M_oldOf (T_M_oldOf (d := d - 1) (by omega) hs hn hm) rfl rfl (fun _ => rcM hs) rfl (Nat.le_of_ble_eq_true rfl) (by omega) ?_)
  refine G_ev ok_M_membersOf (smE_ok (d := d - 1) (by omega)) (fun _ => false) 200 (by omega) (fun K kK => ?_)
  simp (disch := omega) only [ev_s, evN_ap, List.getElem?_cons_zero, List.getElem?_cons_succ, List.set_cons_zero, List.set_cons_succ, Bool.false_eq_true, ↓reduceIte, qrest_n, qrest_1, qrest_2, qrest_3, qrest_4, qrest_5, qrest_6, qtr_i, qtr_r, true_and, and_true, List.length_cons, List.length_nil, Int.cast_ofNat_Int, Int32.toInt_zero, false_implies, true_implies, not_false_eq_true, not_true_eq_false, Option.toList_some, Option.toList_none, List.cons_append, List.nil_append, Nat.reduceBEq, Nat.reduceAdd, Nat.reduceLT, Nat.zero_add, Int.reduceAdd, Int.reduceLE, Int.reduceLT, Int.reduceEq, and_self, Int.reduceNeg, qrok_i, qrok_b0, qrok_b1, qrok_bI, Option.some.injEq, Value.int.injEq, J_bI0, J_bI1, e_1, v_1, e_2, v_2, e_6, v_6, e_40, e_44, qspl_z, qspl_s, evC_s, evD_none, evD_v, evD_s, b_4, (smE_no (k := 185) rfl), (smE_no (k := 186) rfl), r_M_membersOf_0, r_M_membersOf_1, r_M_membersOf_2, r_M_membersOf_5, r_M_membersOf_6, r_M_membersOf_7, r_M_membersOf_10, r_M_membersOf_11, (shS_o hs), (shS_r_now hs), (shS_k_now hs), nA_mk, lpI_mk, mnI_I, mxI_I, I_val, I_add, I_sub, I_mul, ShM_mk, hs, ndB_I, hM_jr, inB, smv hm, smn hm, bI_z, Bool.or_eq_true, Bool.or_false, Bool.false_or, beq_iff_eq, or_false, false_or]
  refine kK _ _ _ _ (GCD ok_M_membersOf r_M_membersOf_7 ⟨by decide, by decide⟩ qm_M_newOf (T_M_newOf (d := d - 1) (by omega) hs hn hm) rfl rfl (fun _ => rcM hs) rfl (Nat.le_of_ble_eq_true rfl) (by omega) ?_)
  refine G_ev ok_M_membersOf (smE_ok (d := d - 1) (by omega)) (fun _ => false) 200 (by omega) (fun K kK => ?_)
  simp (disch := omega) only [ev_s, evN_ap, List.getElem?_cons_zero, List.getElem?_cons_succ, List.set_cons_zero, List.set_cons_succ, Bool.false_eq_true, ↓reduceIte, qrest_n, qrest_1, qrest_2, qrest_3, qrest_4, qrest_5, qrest_6, qtr_i, qtr_r, true_and, and_true, List.length_cons, List.length_nil, Int.cast_ofNat_Int, Int32.toInt_zero, false_implies, true_implies, not_false_eq_true, not_true_eq_false, Option.toList_some, Option.toList_none, List.cons_append, List.nil_append, Nat.reduceBEq, Nat.reduceAdd, Nat.reduceLT, Nat.zero_add, Int.reduceAdd, Int.reduceLE, Int.reduceLT, Int.reduceEq, and_self, Int.reduceNeg, qrok_i, qrok_b0, qrok_b1, qrok_bI, Option.some.injEq, Value.int.injEq, J_bI0, J_bI1, e_1, v_1, e_2, v_2, e_6, v_6, e_40, e_44, qspl_z, qspl_s, evC_s, evD_none, evD_v, evD_s, b_4, (smE_no (k := 185) rfl), (smE_no (k := 186) rfl), r_M_membersOf_0, r_M_membersOf_1, r_M_membersOf_2, r_M_membersOf_5, r_M_membersOf_6, r_M_membersOf_7, r_M_membersOf_10, r_M_membersOf_11, (shS_o hs), (shS_r_now hs), (shS_k_now hs), nA_mk, lpI_mk, mnI_I, mxI_I, I_val, I_add, I_sub, I_mul, ShM_mk, hs, ndB_I, hM_jr, inB, smv hm, smn hm, bI_z, Bool.or_eq_true, Bool.or_false, Bool.false_or, beq_iff_eq, or_false, false_or, I_or, memS]
set_option maxHeartbeats 2000000 in
set_option maxRecDepth 100000 in
theorem T_M_isHeldConfig (hd : 6 ≤ d) (hs : ShMs s) {n : Int} (hn : nOk (r 2199) n) (hm : smS (r 2199)) : T l V mi_M_isHeldConfig (rm d) 0 0 [.ref 2198, .int (Int32.ofInt n)] (mkH s (jn c r)) (fun v h' => v = some (.int (bI (heldCfg (r 2199) n))) ∧ h' = mkH s (jn c r)) := by
  refine T_ev qm_M_isHeldConfig [.ref 2198, .int (Int32.ofInt n)] rfl rfl (Nat.le_of_ble_eq_true rfl) ok_M_isHeldConfig (smE_ok (d := d - 1) (by omega)) (fun _ => false) 200 (by omega) (fun K kK => ?_)
  have hc := cfgAt_rng (u := 999) hn
  have hn' := hn
  obtain ⟨⟨n1, n2⟩, n3, n4, n5, n6⟩ := hn
  simp (disch := omega) only [ev_s, evN_ap, List.getElem?_cons_zero, List.getElem?_cons_succ, List.set_cons_zero, List.set_cons_succ, Bool.false_eq_true, ↓reduceIte, qrest_n, qrest_1, qrest_2, qrest_3, qrest_4, qrest_5, qrest_6, qtr_i, qtr_r, true_and, and_true, List.length_cons, List.length_nil, Int.cast_ofNat_Int, Int32.toInt_zero, false_implies, true_implies, not_false_eq_true, not_true_eq_false, Option.toList_some, Option.toList_none, List.cons_append, List.nil_append, Nat.reduceBEq, Nat.reduceAdd, Nat.reduceLT, Nat.zero_add, Int.reduceAdd, Int.reduceLE, Int.reduceLT, Int.reduceEq, and_self, Int.reduceNeg, qrok_i, qrok_b0, qrok_b1, qrok_bI, Option.some.injEq, Value.int.injEq, J_bI0, J_bI1, e_0, v_0, e_1, v_1, e_2, v_2, e_13, v_13, e_15, v_15, e_40, e_44, qspl_z, qspl_s, evC_s, evD_none, evD_v, evD_s, c_4, smE_176, sw_M_the, (smE_no (k := 184) rfl), r_M_isHeldConfig_0, r_M_isHeldConfig_1, r_M_isHeldConfig_2, r_M_isHeldConfig_5, r_M_isHeldConfig_8, r_M_isHeldConfig_9, r_M_isHeldConfig_10, r_M_isHeldConfig_12, r_M_isHeldConfig_15, r_M_isHeldConfig_18, r_M_isHeldConfig_19, r_M_isHeldConfig_22, r_M_isHeldConfig_23, (shS_o hs), (shS_r_now hs), (shS_k_now hs), nA_mk, lpI_mk, mnI_I, mxI_I, I_val, I_add, I_sub, I_mul, ShM_mk, hs, ndB_I, hM_jr, inB, smv hm, smn hm, bI_z, Bool.or_eq_true, Bool.or_false, Bool.false_or, beq_iff_eq, or_false, false_or]
  refine kK _ _ _ _ (GCD ok_M_isHeldConfig r_M_isHeldConfig_5 ⟨by decide, by decide⟩ qm_M_configAt (T_configAt (d := d - 1) (by omega) hs hn' hm (by omega)) rfl rfl (fun _ => rcM hs) rfl (Nat.le_of_ble_eq_true rfl) (by omega) ?_)
  refine G_ev ok_M_isHeldConfig (smE_ok (d := d - 1) (by omega)) (fun _ => false) 200 (by omega) (fun K kK => ?_)
  simp (disch := omega) only [ev_s, evN_ap, List.getElem?_cons_zero, List.getElem?_cons_succ, List.set_cons_zero, List.set_cons_succ, Bool.false_eq_true, ↓reduceIte, qrest_n, qrest_1, qrest_2, qrest_3, qrest_4, qrest_5, qrest_6, qtr_i, qtr_r, true_and, and_true, List.length_cons, List.length_nil, Int.cast_ofNat_Int, Int32.toInt_zero, false_implies, true_implies, not_false_eq_true, not_true_eq_false, Option.toList_some, Option.toList_none, List.cons_append, List.nil_append, Nat.reduceBEq, Nat.reduceAdd, Nat.reduceLT, Nat.zero_add, Int.reduceAdd, Int.reduceLE, Int.reduceLT, Int.reduceEq, and_self, Int.reduceNeg, qrok_i, qrok_b0, qrok_b1, qrok_bI, Option.some.injEq, Value.int.injEq, J_bI0, J_bI1, e_0, v_0, e_1, v_1, e_2, v_2, e_13, v_13, e_15, v_15, e_40, e_44, qspl_z, qspl_s, evC_s, evD_none, evD_v, evD_s, c_4, smE_176, sw_M_the, (smE_no (k := 184) rfl), r_M_isHeldConfig_0, r_M_isHeldConfig_1, r_M_isHeldConfig_2, r_M_isHeldConfig_5, r_M_isHeldConfig_8, r_M_isHeldConfig_9, r_M_isHeldConfig_10, r_M_isHeldConfig_12, r_M_isHeldConfig_15, r_M_isHeldConfig_18, r_M_isHeldConfig_19, r_M_isHeldConfig_22, r_M_isHeldConfig_23, (shS_o hs), (shS_r_now hs), (shS_k_now hs), nA_mk, lpI_mk, mnI_I, mxI_I, I_val, I_add, I_sub, I_mul, ShM_mk, hs, ndB_I, hM_jr, inB, smv hm, smn hm, bI_z, Bool.or_eq_true, Bool.or_false, Bool.false_or, beq_iff_eq, or_false, false_or, heldCfg]
  clear kK
  omega
set_option maxHeartbeats 2000000 in
set_option maxRecDepth 100000 in
theorem T_M_isMost (hd : 7 ≤ d) (hs : ShMs s) {n x : Int} (hn : nOk (r 2199) n) (hm : smS (r 2199)) (hc : cOk (r 2199) n) (hx : set7 x) : T l V mi_M_isMost (rm d) 0 0 [.ref 2198, .int (Int32.ofInt n), .int (Int32.ofInt x)] (mkH s (jn c r)) (fun v h' => v = some (.int (bI (mostS (r 2199) n x))) ∧ h' = mkH s (jn c r)) := by
  refine T_ev qm_M_isMost [.ref 2198, .int (Int32.ofInt n), .int (Int32.ofInt x), .retAddr 0, .retAddr 0] rfl rfl (Nat.le_of_ble_eq_true rfl) ok_M_isMost (smE_ok (d := d - 1) (by omega)) (fun _ => false) 200 (by omega) (fun K kK => ?_)
  have q1 := bits_rng hc.1
  have q2 := bits_rng hc.2
  have q3 := bits_rng (and_rng hx hc.1)
  have q4 := bits_rng (and_rng hx hc.2)
  have q5 := hc.2
  unfold set7 at q5
  simp (disch := omega) only [ev_s, evN_ap, List.getElem?_cons_zero, List.getElem?_cons_succ, List.set_cons_zero, List.set_cons_succ, Bool.false_eq_true, ↓reduceIte, qrest_n, qrest_1, qrest_2, qrest_3, qrest_4, qrest_5, qrest_6, qtr_i, qtr_r, true_and, and_true, List.length_cons, List.length_nil, Int.cast_ofNat_Int, Int32.toInt_zero, false_implies, true_implies, not_false_eq_true, not_true_eq_false, Option.toList_some, Option.toList_none, List.cons_append, List.nil_append, Nat.reduceBEq, Nat.reduceAdd, Nat.reduceLT, Nat.zero_add, Int.reduceAdd, Int.reduceLE, Int.reduceLT, Int.reduceEq, and_self, Int.reduceNeg, qrok_i, qrok_b0, qrok_b1, qrok_bI, Option.some.injEq, Value.int.injEq, J_bI0, J_bI1, e_0, v_0, e_1, v_1, e_2, v_2, e_3, v_3, e_6, v_6, e_13, v_13, e_14, v_14, e_15, v_15, e_40, e_44, e_45, qspl_z, qspl_s, evC_s, evD_none, evD_v, evD_s, c_0, c_5, b_2, b_3, smE_173, sw_M_bits, (smE_no (k := 185) rfl), (smE_no (k := 186) rfl), r_M_isMost_0, r_M_isMost_1, r_M_isMost_2, r_M_isMost_5, r_M_isMost_6, r_M_isMost_7, r_M_isMost_8, r_M_isMost_11, r_M_isMost_13, r_M_isMost_14, r_M_isMost_15, r_M_isMost_16, r_M_isMost_17, r_M_isMost_20, r_M_isMost_21, r_M_isMost_22, r_M_isMost_25, r_M_isMost_28, r_M_isMost_30, r_M_isMost_33, r_M_isMost_34, r_M_isMost_35, r_M_isMost_37, r_M_isMost_38, r_M_isMost_41, r_M_isMost_42, r_M_isMost_44, r_M_isMost_47, r_M_isMost_50, r_M_isMost_51, r_M_isMost_54, r_M_isMost_55, (shS_o hs), (shS_r_now hs), (shS_k_now hs), nA_mk, lpI_mk, mnI_I, mxI_I, I_val, I_add, I_sub, I_mul, ShM_mk, hs, ndB_I, hM_jr, inB, smv hm, smn hm, bI_z, Bool.or_eq_true, Bool.or_false, Bool.false_or, beq_iff_eq, or_false, false_or]
  refine kK _ _ _ _ (GCD ok_M_isMost r_M_isMost_2 ⟨by decide, by decide⟩ qm_M_oldOf (T_M_oldOf (d := d - 1) (by omega) hs hn hm) rfl rfl (fun _ => rcM hs) rfl (Nat.le_of_ble_eq_true rfl) (by omega) ?_)
  refine G_ev ok_M_isMost (smE_ok (d := d - 1) (by omega)) (fun _ => false) 200 (by omega) (fun K kK => ?_)
  simp (disch := omega) only [ev_s, evN_ap, List.getElem?_cons_zero, List.getElem?_cons_succ, List.set_cons_zero, List.set_cons_succ, Bool.false_eq_true, ↓reduceIte, qrest_n, qrest_1, qrest_2, qrest_3, qrest_4, qrest_5, qrest_6, qtr_i, qtr_r, true_and, and_true, List.length_cons, List.length_nil, Int.cast_ofNat_Int, Int32.toInt_zero, false_implies, true_implies, not_false_eq_true, not_true_eq_false, Option.toList_some, Option.toList_none, List.cons_append, List.nil_append, Nat.reduceBEq, Nat.reduceAdd, Nat.reduceLT, Nat.zero_add, Int.reduceAdd, Int.reduceLE, Int.reduceLT, Int.reduceEq, and_self, Int.reduceNeg, qrok_i, qrok_b0, qrok_b1, qrok_bI, Option.some.injEq, Value.int.injEq, J_bI0, J_bI1, e_0, v_0, e_1, v_1, e_2, v_2, e_3, v_3, e_6, v_6, e_13, v_13, e_14, v_14, e_15, v_15, e_40, e_44, e_45, qspl_z, qspl_s, evC_s, evD_none, evD_v, evD_s, c_0, c_5, b_2, b_3, smE_173, sw_M_bits, (smE_no (k := 185) rfl), (smE_no (k := 186) rfl), r_M_isMost_0, r_M_isMost_1, r_M_isMost_2, r_M_isMost_5, r_M_isMost_6, r_M_isMost_7, r_M_isMost_8, r_M_isMost_11, r_M_isMost_13, r_M_isMost_14, r_M_isMost_15, r_M_isMost_16, r_M_isMost_17, r_M_isMost_20, r_M_isMost_21, r_M_isMost_22, r_M_isMost_25, r_M_isMost_28, r_M_isMost_30, r_M_isMost_33, r_M_isMost_34, r_M_isMost_35, r_M_isMost_37, r_M_isMost_38, r_M_isMost_41, r_M_isMost_42, r_M_isMost_44, r_M_isMost_47, r_M_isMost_50, r_M_isMost_51, r_M_isMost_54, r_M_isMost_55, (shS_o hs), (shS_r_now hs), (shS_k_now hs), nA_mk, lpI_mk, mnI_I, mxI_I, I_val, I_add, I_sub, I_mul, ShM_mk, hs, ndB_I, hM_jr, inB, smv hm, smn hm, bI_z, Bool.or_eq_true, Bool.or_false, Bool.false_or, beq_iff_eq, or_false, false_or]
  refine kK _ _ _ _ (GCD ok_M_isMost r_M_isMost_8 ⟨by decide, by decide⟩ qm_M_newOf (T_M_newOf (d := d - 1) (by omega) hs hn hm) rfl rfl (fun _ => rcM hs) rfl (Nat.le_of_ble_eq_true rfl) (by omega) ?_)
  refine G_ev ok_M_isMost (smE_ok (d := d - 1) (by omega)) (fun _ => false) 200 (by omega) (fun K kK => ?_)
  simp (disch := omega) only [ev_s, evN_ap, List.getElem?_cons_zero, List.getElem?_cons_succ, List.set_cons_zero, List.set_cons_succ, Bool.false_eq_true, ↓reduceIte, qrest_n, qrest_1, qrest_2, qrest_3, qrest_4, qrest_5, qrest_6, qtr_i, qtr_r, true_and, and_true, List.length_cons, List.length_nil, Int.cast_ofNat_Int, Int32.toInt_zero, false_implies, true_implies, not_false_eq_true, not_true_eq_false, Option.toList_some, Option.toList_none, List.cons_append, List.nil_append, Nat.reduceBEq, Nat.reduceAdd, Nat.reduceLT, Nat.zero_add, Int.reduceAdd, Int.reduceLE, Int.reduceLT, Int.reduceEq, and_self, Int.reduceNeg, qrok_i, qrok_b0, qrok_b1, qrok_bI, Option.some.injEq, Value.int.injEq, J_bI0, J_bI1, e_0, v_0, e_1, v_1, e_2, v_2, e_3, v_3, e_6, v_6, e_13, v_13, e_14, v_14, e_15, v_15, e_40, e_44, e_45, qspl_z, qspl_s, evC_s, evD_none, evD_v, evD_s, c_0, c_5, b_2, b_3, smE_173, sw_M_bits, (smE_no (k := 185) rfl), (smE_no (k := 186) rfl), r_M_isMost_0, r_M_isMost_1, r_M_isMost_2, r_M_isMost_5, r_M_isMost_6, r_M_isMost_7, r_M_isMost_8, r_M_isMost_11, r_M_isMost_13, r_M_isMost_14, r_M_isMost_15, r_M_isMost_16, r_M_isMost_17, r_M_isMost_20, r_M_isMost_21, r_M_isMost_22, r_M_isMost_25, r_M_isMost_28, r_M_isMost_30, r_M_isMost_33, r_M_isMost_34, r_M_isMost_35, r_M_isMost_37, r_M_isMost_38, r_M_isMost_41, r_M_isMost_42, r_M_isMost_44, r_M_isMost_47, r_M_isMost_50, r_M_isMost_51, r_M_isMost_54, r_M_isMost_55, (shS_o hs), (shS_r_now hs), (shS_k_now hs), nA_mk, lpI_mk, mnI_I, mxI_I, I_val, I_add, I_sub, I_mul, ShM_mk, hs, ndB_I, hM_jr, inB, smv hm, smn hm, bI_z, Bool.or_eq_true, Bool.or_false, Bool.false_or, beq_iff_eq, or_false, false_or, I_and, I_bits, mostS]
  clear kK
  omega
end MS
