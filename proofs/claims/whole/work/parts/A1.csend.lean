/-! the class's world: answers; what is told of snapshots and entries -/
def anM (S M : qN) (k a b w : Int) : qN := u1 (u1 (u1 (mB S (M 1) (M 0) k) 6 a) 7 b) 10 w
theorem anF_ok {R : Int} {S M : qN} (h : OK R S) (hM : MOK R M) {k a b w : Int} (hk : (k = 1 ∧ (a = 0 ∨ a = 1)) ∨ (k = 3 ∧ (a = 0 ∨ a = 1) ∧ (0 ≤ b ∧ b ≤ 1000) ∧ (a = 1 → b ≤ 999)) ∨ (k = 5 ∧ 0 ≤ a ∧ a ≤ 999)) (hb : 0 ≤ b ∧ b ≤ 1000) (hw : 0 ≤ w ∧ w ≤ R) : MOK R (anM S M k a b w) := by
  have hR := OK_R h
  obtain ⟨m0, m1, m2, -⟩ := hM.1
  have h1 := (OK_n h m1).1.2.1
  unfold anM
  refine ⟨?_, ?_⟩
  · have v0 : (u1 (u1 (u1 (mB S (M 1) (M 0) k) 6 a) 7 b) 10 w) 0 = M 1 := by simp [mB, u1]
    have v1 : (u1 (u1 (u1 (mB S (M 1) (M 0) k) 6 a) 7 b) 10 w) 1 = M 0 := by simp [mB, u1]
    have v2 : (u1 (u1 (u1 (mB S (M 1) (M 0) k) 6 a) 7 b) 10 w) 2 = k := by simp [mB, u1]
    have v3 : (u1 (u1 (u1 (mB S (M 1) (M 0) k) 6 a) 7 b) 10 w) 3 = nd S (M 1) 1 := by simp [mB, u1]
    have v5 : (u1 (u1 (u1 (mB S (M 1) (M 0) k) 6 a) 7 b) 10 w) 5 = 0 := by simp [mB, u1]
    have v10 : (u1 (u1 (u1 (mB S (M 1) (M 0) k) 6 a) 7 b) 10 w) 10 = w := by simp [mB, u1]
    unfold MOKa
    rw [v0, v1, v2, v3, v5, v10]
    omega
  · have v2 : (u1 (u1 (u1 (mB S (M 1) (M 0) k) 6 a) 7 b) 10 w) 2 = k := by simp [mB, u1]
    have v6 : (u1 (u1 (u1 (mB S (M 1) (M 0) k) 6 a) 7 b) 10 w) 6 = a := by simp [mB, u1]
    have v7 : (u1 (u1 (u1 (mB S (M 1) (M 0) k) 6 a) 7 b) 10 w) 7 = b := by simp [mB, u1]
    unfold MOKb
    rw [v2, v6, v7]
    refine ⟨fun q => by omega, fun q => by omega, fun q => by omega, fun q => by omega, fun q => by omega, fun q => by omega⟩
/-- the spare message is not in the box, nor in hand -/
theorem MsC_sp {R : Int} {s : qS} {w : Nat} {S : qN} {g g' : qI} (ho : OK R S) (hS : ShW s w) (hg : ∀ a, (∀ i, i < 4 → a ≠ bx s w (min (S 11133) 160) + i) → g' a = g a) (h7 : g' (bx s w (min (S 11133) 160)) 7 = g (bx s w (min (S 11133) 160)) 7 ∨ g' (bx s w (min (S 11133) 160)) 7 = 0 ∨ g' (bx s w (min (S 11133) 160)) 7 = 1) (hm : MsC s w g S) : MsC s w g' S := by
  have h160 := OK_160 ho
  have hbo := (hS.2.1.1 (min (S 11133) 160) (by omega) (by omega)).1
  refine ⟨fun m m0 m1 => ?_, fun o ho' => ?_⟩
  rotate_left
  · by_cases q : o = bx s w (min (S 11133) 160)
    · rw [q]
      rcases h7 with h7 | h7
      · rw [h7]; exact hm.2 _ hbo
      · exact h7
    · have := hg o (fun i hi => by
        have := MO_ne ho' hbo q (i := 0) (j := i) (by omega) hi
        omega)
      rw [this]; exact hm.2 o ho'
  have hbm := (hS.2.1.1 m m0 (by omega)).1
  have hne : bx s w m ≠ bx s w (min (S 11133) 160) := hS.2.1.2.2 m _ m0 (by omega) (by omega)
  obtain ⟨a1, a2⟩ := hm.1 m m0 m1
  have hx : ∀ i, i < 4 → g' (bx s w m + i) = g (bx s w m + i) := fun i hi => hg _ (fun j hj => MO_ne hbm hbo hne hi hj)
  refine ⟨MgC_g hx a1, ?_⟩
  have h0 := hx 0 (by omega)
  rw [Nat.add_zero] at h0
  rw [h0, a2]
theorem FrM_sp {R : Int} {s : qS} {w : Nat} {S : qN} {g g' : qI} (ho : OK R S) (hS : ShW s w) (hg : ∀ a, (∀ i, i < 4 → a ≠ bx s w (min (S 11133) 160) + i) → g' a = g a) : FrM s w g g' := by
  have h160 := OK_160 ho
  have hbo := (hS.2.1.1 (min (S 11133) 160) (by omega) (by omega)).1
  have hni := (hS.2.1.1 (min (S 11133) 160) (by omega) (by omega)).2
  intro a ha _ _
  refine hg a (fun i hi => ?_)
  have h1 := MO_in hbo hi
  rcases ha with q | q | q
  · omega
  · omega
  · have := MO_ne hbo hS.2.1.2.1 hni hi (j := a - inh s w) (by omega)
    omega
theorem bg_off {g : qI} {o a : Nat} {n t k v : Int} (h : a ≠ o) : bgC g o n t k v a = g a := by
  unfold bgC
  rw [up_f h, up_f h, up_f h, up_f h, up_f h]
/-- a snapshot told -/
def snG (g : qI) (o : Nat) (S : qN) (n : Int) : qI := fun a k => if a = o + 2 ∧ 0 ≤ k ∧ k ≤ 3 then nd S n (4 + k) else if a = o + 3 ∧ 0 ≤ k ∧ k < 8 then nd S n (23 + k) else g a k
/-- entries told: the first j -/
noncomputable def enG (g : qI) (o : Nat) (S : qN) (n i j : Int) : qI := fun a k => if a = o + 1 ∧ 0 ≤ k ∧ k < j then enS S n (i + k) else if a = o ∧ k = 11 then j else g a k
noncomputable def be0 (g : qI) (o : Nat) (S : qN) (n i : Int) : qI := up (up (up (up g o 5 (i - 1)) o 6 (tCS S n (i - 1))) o 8 (nd S n 9)) o 9 (nd S n 13)
theorem mkC_at {w a : Nat} {S : qN} {g g' : qI} {k : Int} (h : g' a k = g a k) : mkC w S g' a k = mkC w S g a k := by
  unfold mkC
  rw [h]
section CS
variable {l : Launch} {V : qV} {d : Nat} {s : qS} {w : Nat} {S : qN} {c g r : qI} {R n : Int} {Q : Option Value → qH → Prop}
theorem cpy_ko {o : Nat} (hw : 8 ≤ w ∧ w ≤ 1462) (hn : 0 ≤ n ∧ n ≤ 6) (ho : isMO w o) : cpyM (mkH s (jn (mkC w S g) r)) (ndA w n 3) 0 (o + 3) 0 8 = mkH s (jn (mkC w S (fun a k => if a = o + 3 ∧ 0 ≤ k ∧ k < 8 then nd S n (23 + k) else g a k)) r) := by
  have hof := MO_off ho (i := 3) (by omega)
  rw [cpy_c (ndA_lt hw hn (by omega)) (MO_lt hw ho (by omega)).1]
  refine congrArg (fun c => mkH s (jn c r)) ?_
  funext a k
  unfold cp
  by_cases h : a = o + 3 ∧ 0 ≤ k ∧ k < 0 + 8
  · rw [if_pos h, h.1, mkC_o hof, if_pos ⟨rfl, by omega, by omega⟩, mkC_N hn (by omega), ndC_3, if_pos (by omega)]
    congr 1; omega
  · rw [if_neg h]
    by_cases ha : a = o + 3
    · subst ha
      rw [mkC_o hof, mkC_o hof, if_neg (by omega)]
    · exact (mkC_at (by rw [if_neg (by omega)])).symm
set_option maxHeartbeats 2000000 in
set_option maxRecDepth 100000 in
theorem C_World_answer (hd : 7 ≤ d) (hw : 8 ≤ w ∧ w ≤ 1462) (hS : ShW s w) {n y i z : Int} {o : Nat} {M : qN} {a b k : Int} (hn : 0 ≤ n ∧ n ≤ 6) (ho : OK R S) (hL : CLw g r) (hm : MsC s w g S) (hio : o = inh s w) (h1 : M 1 = n) (hM : MOK R M) (hg : MgC g o M) (hy : y = 0 ∨ y = 1) (hk : (M 2 = 0 ∧ k = 1 ∧ a = y) ∨ (M 2 = 2 ∧ k = 3 ∧ a = y ∧ b = i) ∨ (M 2 = 4 ∧ k = 5 ∧ a = i)) (hF : MOK R (anM S M k a b z)) : T l V mi_World_answer (rm d) 0 0 [.ref w, .ref (ndA w n 0), .ref o, .int (Int32.ofInt y), .int (Int32.ofInt i), .int (Int32.ofInt z)] (mkH s (jn (mkC w S g) r)) (fun v h' => v = none ∧ ∃ g', h' = mkH s (jn (mkC w (anS (lwR r) S M k a b z) g') r) ∧ FrM s w g g' ∧ MsC s w g' (anS (lwR r) S M k a b z)) := by
  refine T_ev qm_World_answer [.ref w, .ref (ndA w n 0), .ref o, .int (Int32.ofInt y), .int (Int32.ofInt i), .int (Int32.ofInt z), .retAddr 0] rfl rfl (Nat.le_of_ble_eq_true rfl) ok_World_answer (smL_ok (d := d - 1) (by omega)) (fun _ => false) 200 (by omega) (fun K kK => ?_)
  have h160 := OK_160 ho
  have hbo := (hS.2.1.1 (min (S 11133) 160) (by omega) (by omega)).1
  have hio2 : isMO w o := by rw [hio]; exact hS.2.1.2.1
  have hm1 := hM.1
  unfold MOKa at hm1
  obtain ⟨⟨e0, e1, e2, e3, e11⟩, -⟩ := hg
  subst h1
  simp (disch := omega) only [ev_s, evN_ap, List.getElem?_cons_zero, List.getElem?_cons_succ, List.set_cons_zero, List.set_cons_succ, Bool.false_eq_true, ↓reduceIte, qrest_n, qrest_1, qrest_2, qrest_3, qrest_4, qrest_5, qrest_6, qtr_i, qtr_r, true_and, and_true, List.length_cons, List.length_nil, Int.cast_ofNat_Int, Int32.toInt_zero, false_implies, true_implies, not_false_eq_true, not_true_eq_false, Option.toList_some, Option.toList_none, List.cons_append, List.nil_append, Nat.reduceBEq, Nat.reduceEqDiff, Bool.or_self, or_self, Nat.reduceAdd, Nat.reduceLT, Nat.zero_add, Int.reduceAdd, Int.reduceLE, Int.reduceLT, Int.reduceEq, and_self, Int.reduceNeg, qrok_i, qrok_b0, qrok_b1, qrok_bI, Option.some.injEq, Value.int.injEq, J_bI0, J_bI1, Classical.not_not, Int.zero_add, Int.add_zero, Int.sub_zero, false_and, and_false, and_true, true_and, e_0, v_0, e_1, v_1, e_2, v_2, e_4, v_4, e_6, v_6, e_19, v_19, e_21, v_21, e_22, v_22, e_41, e_44, qspl_z, qspl_s, evC_s, evD_none, evD_v, evD_s, b_0, (smL_no (k := 85) rfl), (smL_no (k := 86) rfl), r_World_answer_0, r_World_answer_1, r_World_answer_2, r_World_answer_3, r_World_answer_6, r_World_answer_7, r_World_answer_10, r_World_answer_11, r_World_answer_12, r_World_answer_15, r_World_answer_17, r_World_answer_19, r_World_answer_20, r_World_answer_23, r_World_answer_25, r_World_answer_27, r_World_answer_30, r_World_answer_32, r_World_answer_34, r_World_answer_37, r_World_answer_38, r_World_answer_40, r_World_answer_43, sv_k hS, sv_0 hS, sv_1 hS, sv_k1 hS, sv_n hS, sv_2 hS, sv_k2 hS, sv_b, sv_4, sv_5 hS, sv_k7 hS, sv_r hS, sv_kr hS, sv_7 hS, sv_k8 hS, sv_10 hS, sv_k9 hS, sv_11 hS, sv_k10 hS, sn_k hS, sn_4 hS, sn_k1 hS, sn_6 hS, sn_k2 hS, sn_24 hS, sn_k3 hS, sn_9 hS, sn_k4 hS, sn_13 hS, sn_k5 hS, sn_14 hS, sn_k6 hS, sn_15 hS, sn_k7 hS, sl_k hS, sl_2 hS, sl_k4 hS, sl_3 hS, sl_k5 hS, sl_4 hS, sl_k6 hS, sl_5 hS, sl_k7 hS, rn_0, rn_1, rn_2, rn_3, rn_5, rn_7, rn_8, rn_10, rn_11, rn_12, rn_16, rn_17, rn_log, rn_20, rn_21, rn_22, rn_23, rn_sk, rn_key, rn_next, rn_match, rn_heard, rw_3, rw_6, rw_8, rw_9, rw_12, rw_13, rw_14, rw_15, rw_he, rw_ld, rw_cu, rr_0, rr_1, rr_2, rr_3, rr_4, rr_5, su_2, su_8, su_10, su_12, su_16, su_17, su_20, su_21, su_22, su_23, su_sk, su_key, su_next, su_match, su_heard, su_3m, su_3, su_11m, su_11, su_7, sw_3, sw_8, sw_12, sw_13, sw_14, sw_15, sw_ld, sw_cu, sr_0, sr_5, I_val, I_add, I_sub, I_mul, inB, beq_iff_eq, or_false, false_or, u1_ne, u1_same, nd_u1, nd_u1s, lpS_u1, Bool.or_eq_true, Bool.or_false, Bool.false_or, bI_z, mnI_I, mxI_I, sg_k hS hio2, rv_ hw hio2, e0, e2]
  refine kK _ _ _ _ (GCD ok_World_answer r_World_answer_12 ⟨by decide, by decide⟩ qm_World_spare (C_World_spare (d := d - 1) (by omega) hw hS hn ho) rfl rfl (fun _ => by first | exact rcN hS (by omega) | exact rcW hS | exact rcG hS (by assumption) | exact rcL hS | exact rcN2 hS (by omega) | exact rcG2 hS (by assumption)) rfl (Nat.le_of_ble_eq_true rfl) (by omega) ?_)
  refine G_ev ok_World_answer (smL_ok (d := d - 1) (by omega)) (fun _ => false) 200 (by omega) (fun K kK => ?_)
  have hb1 : ∀ v : Int, (v = 0 ∨ v = 1) → (Int32.ofInt v = 0 ∨ Int32.ofInt v = 1) := fun v hv => by rcases hv with rfl | rfl; exact Or.inl rfl; exact Or.inr rfl
  simp (disch := omega) only [ev_s, evN_ap, List.getElem?_cons_zero, List.getElem?_cons_succ, List.set_cons_zero, List.set_cons_succ, Bool.false_eq_true, ↓reduceIte, qrest_n, qrest_1, qrest_2, qrest_3, qrest_4, qrest_5, qrest_6, qtr_i, qtr_r, true_and, and_true, List.length_cons, List.length_nil, Int.cast_ofNat_Int, Int32.toInt_zero, false_implies, true_implies, not_false_eq_true, not_true_eq_false, Option.toList_some, Option.toList_none, List.cons_append, List.nil_append, Nat.reduceBEq, Nat.reduceEqDiff, Bool.or_self, or_self, Nat.reduceAdd, Nat.reduceLT, Nat.zero_add, Int.reduceAdd, Int.reduceLE, Int.reduceLT, Int.reduceEq, and_self, Int.reduceNeg, qrok_i, qrok_b0, qrok_b1, qrok_bI, Option.some.injEq, Value.int.injEq, J_bI0, J_bI1, Classical.not_not, Int.zero_add, Int.add_zero, Int.sub_zero, false_and, and_false, and_true, true_and, e_0, v_0, e_1, v_1, e_2, v_2, e_4, v_4, e_6, v_6, e_19, v_19, e_21, v_21, e_22, v_22, e_41, e_44, qspl_z, qspl_s, evC_s, evD_none, evD_v, evD_s, b_0, (smL_no (k := 85) rfl), (smL_no (k := 86) rfl), r_World_answer_0, r_World_answer_1, r_World_answer_2, r_World_answer_3, r_World_answer_6, r_World_answer_7, r_World_answer_10, r_World_answer_11, r_World_answer_12, r_World_answer_15, r_World_answer_17, r_World_answer_19, r_World_answer_20, r_World_answer_23, r_World_answer_25, r_World_answer_27, r_World_answer_30, r_World_answer_32, r_World_answer_34, r_World_answer_37, r_World_answer_38, r_World_answer_40, r_World_answer_43, sv_k hS, sv_0 hS, sv_1 hS, sv_k1 hS, sv_n hS, sv_2 hS, sv_k2 hS, sv_b, sv_4, sv_5 hS, sv_k7 hS, sv_r hS, sv_kr hS, sv_7 hS, sv_k8 hS, sv_10 hS, sv_k9 hS, sv_11 hS, sv_k10 hS, sn_k hS, sn_4 hS, sn_k1 hS, sn_6 hS, sn_k2 hS, sn_24 hS, sn_k3 hS, sn_9 hS, sn_k4 hS, sn_13 hS, sn_k5 hS, sn_14 hS, sn_k6 hS, sn_15 hS, sn_k7 hS, sl_k hS, sl_2 hS, sl_k4 hS, sl_3 hS, sl_k5 hS, sl_4 hS, sl_k6 hS, sl_5 hS, sl_k7 hS, rn_0, rn_1, rn_2, rn_3, rn_5, rn_7, rn_8, rn_10, rn_11, rn_12, rn_16, rn_17, rn_log, rn_20, rn_21, rn_22, rn_23, rn_sk, rn_key, rn_next, rn_match, rn_heard, rw_3, rw_6, rw_8, rw_9, rw_12, rw_13, rw_14, rw_15, rw_he, rw_ld, rw_cu, rr_0, rr_1, rr_2, rr_3, rr_4, rr_5, su_2, su_8, su_10, su_12, su_16, su_17, su_20, su_21, su_22, su_23, su_sk, su_key, su_next, su_match, su_heard, su_3m, su_3, su_11m, su_11, su_7, sw_3, sw_8, sw_12, sw_13, sw_14, sw_15, sw_ld, sw_cu, sr_0, sr_5, I_val, I_add, I_sub, I_mul, inB, beq_iff_eq, or_false, false_or, u1_ne, u1_same, nd_u1, nd_u1s, lpS_u1, Bool.or_eq_true, Bool.or_false, Bool.false_or, bI_z, mnI_I, mxI_I, sg_k hS hbo, uv_ hw hbo, hb1 y hy]
  generalize hG : up (up (up (bgC g (bx s w (min (S 11133) 160)) (M 1) (M 0) (M 2 + 1) (nd S (M 1) 1)) (bx s w (min (S 11133) 160)) 7 y) (bx s w (min (S 11133) 160)) 5 i) (bx s w (min (S 11133) 160)) 9 z = g2
  have hoff : ∀ a, (∀ i, i < 4 → a ≠ bx s w (min (S 11133) 160) + i) → g2 a = g a := by
    intro a ha
    have := ha 0 (by omega)
    rw [← hG, up_f (by omega), up_f (by omega), up_f (by omega), bg_off (by omega)]
  have hfr := FrM_sp ho hS hoff
  have hMg : MgC g2 (bx s w (min (S 11133) 160)) (anM S M k a b z) := by
    have f : ∀ k', g2 (bx s w (min (S 11133) 160)) k' = if k' = 9 then z else if k' = 5 then i else if k' = 7 then y else if k' = 11 then 0 else if k' = 3 then nd S (M 1) 1 else if k' = 2 then M 2 + 1 else if k' = 1 then M 0 else if k' = 0 then M 1 else g (bx s w (min (S 11133) 160)) k' := by
      intro k'
      rw [← hG]
      simp only [bgC, up]
      simp
    unfold MgC anM
    simp only [f, mB, u1]
    rcases hk with ⟨q1, q2, q3⟩ | ⟨q1, q2, q3, q4⟩ | ⟨q1, q2, q3⟩ <;> (subst q2; rw [q1]; simp; try omega)
  refine kK _ _ _ _ (GCQ ok_World_answer r_World_answer_40 ⟨by decide, by decide⟩ qm_World_post (C_World_post (F := anM S M k a b z) (d := d - 1) (by omega) hw hS hF ho (CLw_fr hw.1 hL hfr) (MsC_sp ho hS hoff (Or.inr (by rw [← hG]; simp [bgC, up]; exact hy)) hm) rfl hMg (by simp [anM, mB, u1])) rfl rfl (fun _ => by first | exact rcN hS (by omega) | exact rcW hS | exact rcG hS (by assumption) | exact rcL hS | exact rcN2 hS (by omega) | exact rcG2 hS (by assumption)) rfl (Nat.le_of_ble_eq_true rfl) (by omega) (fun v1 h1 q1 => ?_))
  obtain ⟨rfl, g3, rfl, f3, m3⟩ := q1
  refine G_ev ok_World_answer (smL_ok (d := d - 1) (by omega)) (fun _ => false) 200 (by omega) (fun K kK => ?_)
  simp (disch := omega) only [ev_s, evN_ap, List.getElem?_cons_zero, List.getElem?_cons_succ, List.set_cons_zero, List.set_cons_succ, Bool.false_eq_true, ↓reduceIte, qrest_n, qrest_1, qrest_2, qrest_3, qrest_4, qrest_5, qrest_6, qtr_i, qtr_r, true_and, and_true, List.length_cons, List.length_nil, Int.cast_ofNat_Int, Int32.toInt_zero, false_implies, true_implies, not_false_eq_true, not_true_eq_false, Option.toList_some, Option.toList_none, List.cons_append, List.nil_append, Nat.reduceBEq, Nat.reduceEqDiff, Bool.or_self, or_self, Nat.reduceAdd, Nat.reduceLT, Nat.zero_add, Int.reduceAdd, Int.reduceLE, Int.reduceLT, Int.reduceEq, and_self, Int.reduceNeg, qrok_i, qrok_b0, qrok_b1, qrok_bI, Option.some.injEq, Value.int.injEq, J_bI0, J_bI1, Classical.not_not, Int.zero_add, Int.add_zero, Int.sub_zero, false_and, and_false, and_true, true_and, e_0, v_0, e_1, v_1, e_2, v_2, e_4, v_4, e_6, v_6, e_19, v_19, e_21, v_21, e_22, v_22, e_41, e_44, qspl_z, qspl_s, evC_s, evD_none, evD_v, evD_s, b_0, (smL_no (k := 85) rfl), (smL_no (k := 86) rfl), r_World_answer_0, r_World_answer_1, r_World_answer_2, r_World_answer_3, r_World_answer_6, r_World_answer_7, r_World_answer_10, r_World_answer_11, r_World_answer_12, r_World_answer_15, r_World_answer_17, r_World_answer_19, r_World_answer_20, r_World_answer_23, r_World_answer_25, r_World_answer_27, r_World_answer_30, r_World_answer_32, r_World_answer_34, r_World_answer_37, r_World_answer_38, r_World_answer_40, r_World_answer_43, sv_k hS, sv_0 hS, sv_1 hS, sv_k1 hS, sv_n hS, sv_2 hS, sv_k2 hS, sv_b, sv_4, sv_5 hS, sv_k7 hS, sv_r hS, sv_kr hS, sv_7 hS, sv_k8 hS, sv_10 hS, sv_k9 hS, sv_11 hS, sv_k10 hS, sn_k hS, sn_4 hS, sn_k1 hS, sn_6 hS, sn_k2 hS, sn_24 hS, sn_k3 hS, sn_9 hS, sn_k4 hS, sn_13 hS, sn_k5 hS, sn_14 hS, sn_k6 hS, sn_15 hS, sn_k7 hS, sl_k hS, sl_2 hS, sl_k4 hS, sl_3 hS, sl_k5 hS, sl_4 hS, sl_k6 hS, sl_5 hS, sl_k7 hS, rn_0, rn_1, rn_2, rn_3, rn_5, rn_7, rn_8, rn_10, rn_11, rn_12, rn_16, rn_17, rn_log, rn_20, rn_21, rn_22, rn_23, rn_sk, rn_key, rn_next, rn_match, rn_heard, rw_3, rw_6, rw_8, rw_9, rw_12, rw_13, rw_14, rw_15, rw_he, rw_ld, rw_cu, rr_0, rr_1, rr_2, rr_3, rr_4, rr_5, su_2, su_8, su_10, su_12, su_16, su_17, su_20, su_21, su_22, su_23, su_sk, su_key, su_next, su_match, su_heard, su_3m, su_3, su_11m, su_11, su_7, sw_3, sw_8, sw_12, sw_13, sw_14, sw_15, sw_ld, sw_cu, sr_0, sr_5, I_val, I_add, I_sub, I_mul, inB, beq_iff_eq, or_false, false_or, u1_ne, u1_same, nd_u1, nd_u1s, lpS_u1, Bool.or_eq_true, Bool.or_false, Bool.false_or, bI_z, mnI_I, mxI_I]
  exact ⟨g3, rfl, FrM_tr hfr f3, m3⟩
set_option maxHeartbeats 2000000 in
set_option maxRecDepth 100000 in
theorem C_Snap_takeAllT (hd : 3 ≤ d) (hw : 8 ≤ w ∧ w ≤ 1462) (hS : ShW s w) {o : Nat} (hn : 0 ≤ n ∧ n ≤ 6) (hbo : isMO w o) : T l V mi_Snap_takeAll (rm d) 0 0 [.ref (o+2), .ref (ndA w n 2)] (mkH s (jn (mkC w S g) r)) (fun v h' => v = none ∧ h' = mkH s (jn (mkC w S (snG g o S n)) r)) := by
  refine T_ev qm_Snap_takeAll [.ref (o+2), .ref (ndA w n 2)] rfl rfl (Nat.le_of_ble_eq_true rfl) ok_Snap_takeAll (smL_ok (d := d - 1) (by omega)) (fun _ => false) 200 (by omega) (fun K kK => ?_)
  simp (disch := omega) only [ev_s, evN_ap, List.getElem?_cons_zero, List.getElem?_cons_succ, List.set_cons_zero, List.set_cons_succ, Bool.false_eq_true, ↓reduceIte, qrest_n, qrest_1, qrest_2, qrest_3, qrest_4, qrest_5, qrest_6, qtr_i, qtr_r, true_and, and_true, List.length_cons, List.length_nil, Int.cast_ofNat_Int, Int32.toInt_zero, false_implies, true_implies, not_false_eq_true, not_true_eq_false, Option.toList_some, Option.toList_none, List.cons_append, List.nil_append, Nat.reduceBEq, Nat.reduceEqDiff, Bool.or_self, or_self, Nat.reduceAdd, Nat.reduceLT, Nat.zero_add, Int.reduceAdd, Int.reduceLE, Int.reduceLT, Int.reduceEq, and_self, Int.reduceNeg, qrok_i, qrok_b0, qrok_b1, qrok_bI, Option.some.injEq, Value.int.injEq, J_bI0, J_bI1, Classical.not_not, Int.zero_add, Int.add_zero, Int.sub_zero, false_and, and_false, and_true, true_and, e_0, v_0, e_2, v_2, e_19, v_19, e_20, v_20, e_21, v_21, e_33, v_33, e_41, r_Snap_takeAll_0, r_Snap_takeAll_1, r_Snap_takeAll_2, r_Snap_takeAll_5, r_Snap_takeAll_8, r_Snap_takeAll_9, r_Snap_takeAll_10, r_Snap_takeAll_13, r_Snap_takeAll_16, r_Snap_takeAll_17, r_Snap_takeAll_18, r_Snap_takeAll_21, r_Snap_takeAll_24, r_Snap_takeAll_25, r_Snap_takeAll_26, r_Snap_takeAll_29, r_Snap_takeAll_32, r_Snap_takeAll_33, r_Snap_takeAll_36, r_Snap_takeAll_37, r_Snap_takeAll_38, r_Snap_takeAll_41, r_Snap_takeAll_42, r_Snap_takeAll_44, r_Snap_takeAll_47, sv_k hS, sv_0 hS, sv_1 hS, sv_k1 hS, sv_n hS, sv_2 hS, sv_k2 hS, sv_b, sv_4, sv_5 hS, sv_k7 hS, sv_r hS, sv_kr hS, sv_7 hS, sv_k8 hS, sv_10 hS, sv_k9 hS, sv_11 hS, sv_k10 hS, sn_k hS, sn_4 hS, sn_k1 hS, sn_6 hS, sn_k2 hS, sn_24 hS, sn_k3 hS, sn_9 hS, sn_k4 hS, sn_13 hS, sn_k5 hS, sn_14 hS, sn_k6 hS, sn_15 hS, sn_k7 hS, sl_k hS, sl_2 hS, sl_k4 hS, sl_3 hS, sl_k5 hS, sl_4 hS, sl_k6 hS, sl_5 hS, sl_k7 hS, rn_0, rn_1, rn_2, rn_3, rn_5, rn_7, rn_8, rn_10, rn_11, rn_12, rn_16, rn_17, rn_log, rn_20, rn_21, rn_22, rn_23, rn_sk, rn_key, rn_next, rn_match, rn_heard, rw_3, rw_6, rw_8, rw_9, rw_12, rw_13, rw_14, rw_15, rw_he, rw_ld, rw_cu, rr_0, rr_1, rr_2, rr_3, rr_4, rr_5, su_2, su_8, su_10, su_12, su_16, su_17, su_20, su_21, su_22, su_23, su_sk, su_key, su_next, su_match, su_heard, su_3m, su_3, su_11m, su_11, su_7, sw_3, sw_8, sw_12, sw_13, sw_14, sw_15, sw_ld, sw_cu, sr_0, sr_5, I_val, I_add, I_sub, I_mul, inB, beq_iff_eq, or_false, false_or, u1_ne, u1_same, nd_u1, nd_u1s, lpS_u1, Bool.or_eq_true, Bool.or_false, Bool.false_or, bI_z, mnI_I, mxI_I, sg_k2 hS hbo, sg_k3 hS hbo, sg_24 hS hbo, rv_i hw hbo, uv_i hw hbo, cpy_ko hw hn hbo]
  repeat' (first | with_reducible apply And.intro | intro _)
  all_goals (try clear kK)
  all_goals first | omega | ((refine congrArg (fun c => mkH s (jn (mkC w S c) r)) ?_; funext a k; simp only [snG, up]; grind)) | trivial
end CS
