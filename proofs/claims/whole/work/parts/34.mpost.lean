/-! the law as the row's steps see it; timers, posts -/
/-- d, l, e, x of the law by the facts -/
abbrev qL : Type := qN → Int × Int × Int × Prop
noncomputable def lwR (r : qI) : qL := fun F => (lwV r F 100 0 9 0, lwV r F 108 0 10 0, lwV r F 101 4 40 8, lxV r F 120)
def LwOK (L : qL) : Prop := ∀ F, (0 ≤ (L F).1 ∧ (L F).1 ≤ 9) ∧ (0 ≤ (L F).2.1 ∧ (L F).2.1 ≤ 10) ∧ (4 ≤ (L F).2.2.1 ∧ (L F).2.2.1 ≤ 40)
theorem lwF_rng {r : qI} {F : qN} {x lo hi wo : Int} (h : lo ≤ hi) (h2 : lo ≤ wo ∧ wo ≤ hi) : ∀ (j : Nat) (q : Int), lo ≤ lwF r F x lo hi wo j q ∧ lwF r F x lo hi wo j q ≤ hi
  | 0, q => by rw [lwF]; exact h2
  | j + 1, q => by
    rw [lwF]; split
    · unfold clm; split
      · omega
      · split <;> omega
    · exact lwF_rng h h2 j (q + 1)
theorem lwR_ok {r : qI} : LwOK (lwR r) := fun F => ⟨lwF_rng (by omega) (by omega) _ _, lwF_rng (by omega) (by omega) _ _, lwF_rng (by omega) (by omega) _ _⟩
theorem lwF_c {r r' : qI} {F F' : qN} {x lo hi wo : Int} (h1 : ∀ a, 2211 ≤ a → a ≤ 2215 → r' a = r a) (hL : ∀ q, 0 ≤ q → q < r 2198 15 → LOKq r q) (hx : x ≠ 120) (hf : ∀ i, 0 ≤ i → i ≤ 6 → F' i = F i) : ∀ (j : Nat) (q : Int), 0 ≤ q → q + j ≤ r 2198 15 → lwF r' F' x lo hi wo j q = lwF r F x lo hi wo j q
  | 0, q, q0, hq => by rw [lwF, lwF]
  | j + 1, q, q0, hq => by
    have ih := lwF_c (lo := lo) (hi := hi) (wo := wo) h1 hL hx hf j (q + 1) (by omega) (by omega)
    obtain ⟨b1, b2, b3, D, B, b4⟩ := hL q q0 (by omega)
    rw [lwF, lwF, ih]
    unfold rkq rkV
    rw [h1 2211 (by omega) (by omega), h1 2212 (by omega) (by omega), h1 2213 (by omega) (by omega), h1 2214 (by omega) (by omega), h1 2215 (by omega) (by omega)]
    rw [rkE_F (F := F') (F' := F) b4.2.2.2 hf _ _ _ _ (Int.le_refl _)]
    by_cases hx2 : r 2212 q = x
    · obtain ⟨D', B', b3⟩ := b3.resolve_left (by omega)
      rw [rkE_F (F := F') (F' := F) b3.2.2.2 hf _ _ _ _ (Int.le_refl _)]
    · rw [if_neg (fun z => hx2 z.1), if_neg (fun z => hx2 z.1)]
theorem lxF_c {r r' : qI} {F F' : qN} {x : Int} (h1 : ∀ a, 2211 ≤ a → a ≤ 2215 → r' a = r a) (hL : ∀ q, 0 ≤ q → q < r 2198 15 → LOKq r q) (hf : ∀ i, 0 ≤ i → i ≤ 6 → F' i = F i) : ∀ (j : Nat) (q : Int), 0 ≤ q → q + j ≤ r 2198 15 → lxF r' F' x j q = lxF r F x j q
  | 0, q, q0, hq => by rw [lxF, lxF]
  | j + 1, q, q0, hq => by
    have ih := lxF_c (x := x) h1 hL hf j (q + 1) (by omega) (by omega)
    obtain ⟨b1, b2, b3, D, B, b4⟩ := hL q q0 (by omega)
    rw [lxF, lxF, ih]
    unfold rkq rkV
    rw [h1 2211 (by omega) (by omega), h1 2212 (by omega) (by omega), h1 2214 (by omega) (by omega), h1 2215 (by omega) (by omega)]
    rw [rkE_F (F := F') (F' := F) b4.2.2.2 hf _ _ _ _ (Int.le_refl _)]
theorem lwR_c {r r' : qI} {F F' : qN} (h1 : ∀ a, 2211 ≤ a → a ≤ 2215 → r' a = r a) (h2 : r' 2198 15 = r 2198 15) (hL : LOK r) (hf : ∀ i, 0 ≤ i → i ≤ 6 → F' i = F i) : lwR r' F' = lwR r F := by
  unfold lwR lwV lxV
  have := hL.1.1
  rw [h2, lwF_c h1 hL.2 (by omega) hf _ _ (by omega) (by omega), lwF_c h1 hL.2 (by omega) hf _ _ (by omega) (by omega), lwF_c h1 hL.2 (by omega) hf _ _ (by omega) (by omega), lxF_c h1 hL.2 hf _ _ (by omega) (by omega)]
theorem lwR_F {r : qI} {F F' : qN} (hL : LOK r) (hf : ∀ i, 0 ≤ i → i ≤ 6 → F' i = F i) : lwR r F' = lwR r F := lwR_c (fun _ _ _ => rfl) rfl hL hf
theorem Rx_a {r r' : qI} (h : Rx r r') {a : Nat} (ha : a ≠ 2199 ∧ a ≠ 2202 ∧ a ≠ 2216 ∧ a ≠ 2217 ∧ a ≠ 2198) : r' a = r a := h.1 a ha.1 ha.2.1 ha.2.2.1 ha.2.2.2.1 ha.2.2.2.2
theorem Rx_lw {r r' : qI} (h : Rx r r') (hL : LOK r) : lwR r' = lwR r := by
  funext F
  exact lwR_c (fun a a1 a2 => Rx_a h (by omega)) (h.2.1 15 (by omega)) hL (fun _ _ _ => rfl)
theorem Rx_LOK {r r' : qI} (h : Rx r r') (hL : LOK r) : LOK r' := by
  unfold LOK LOKq
  rw [h.2.1 15 (by omega), Rx_a h (a := 2211) (by omega), Rx_a h (a := 2212) (by omega), Rx_a h (a := 2213) (by omega), Rx_a h (a := 2214) (by omega), Rx_a h (a := 2215) (by omega)]
  exact hL
/-- the facts of a draw -/
def fcS (S : qN) (n a b : Int) : qN := fclS S (fun _ => 0) n a b
theorem fcl_fc {S F : qN} {n a b : Int} : ∀ i, 0 ≤ i → i ≤ 6 → fclS S F n a b i = fcS S n a b i := by
  intro i i0 i6
  unfold fcS fclS u1
  repeat (split; rfl)
  omega
def rnS (S : qN) : qN := u1 S 11132 (rndS S)
/-- it sets its timer -/
noncomputable def tmS (L : qL) (S : qN) (n : Int) : qN := u1 (rnS S) (244 * n + 10) ((L (fcS S n n 6)).2.2.1 + rndS S % 10)
/-- mail as it is begun -/
def mB (S : qN) (x y z : Int) : qN := u1 (u1 (u1 (u1 (fun _ => 0) 0 x) 1 y) 2 z) 3 (nd S x 1)
/-- mail is posted -/
noncomputable def poS (L : qL) (S F : qN) : qN :=
  @ite _ ((L (fcS S (F 0) (F 1) (F 2))).2.2.2 ∨ rndS S % 10 < (L (fcS S (F 0) (F 1) (F 2))).2.1 ∨ S 11133 = 160) (Classical.propDecidable _)
    (u1 (rnS S) 11137 (min 99999 (S 11137 + 1)))
    (u1 (cpN (rnS S) (u1 F 4 (S 11131 + 1 + (L (fcS S (F 0) (F 1) (F 2))).1)) (1708 + 27 * S 11133) 0 27) 11133 (S 11133 + 1))
theorem cpN_c {F G G' : qN} {a b k : Int} (h : ∀ j, b ≤ j → j < b + k → G j = G' j) : cpN F G a b k = cpN F G' a b k := by
  funext j; unfold cpN; split
  · exact h _ (by omega) (by omega)
  · rfl
theorem poS_c {L : qL} {S F F' : qN} (h : ∀ j, 0 ≤ j → j < 27 → F j = F' j) : poS L S F = poS L S F' := by
  unfold poS
  rw [h 0 (by omega) (by omega), h 1 (by omega) (by omega), h 2 (by omega) (by omega), cpN_c (G' := u1 F' 4 (S 11131 + 1 + (L (fcS S (F' 0) (F' 1) (F' 2))).1)) (fun j j0 j1 => by unfold u1; rw [h j j0 (by omega)])]
theorem rnd_rng {S : qN} : 0 ≤ rndS S ∧ rndS S ≤ 65535 := by unfold rndS; omega
section MS
variable {l : Launch} {V : qV} {d : Nat} {s : qS} {c r : qI} {R : Int}
theorem feR_x {n a b : Int} : Rx r (feR r n a b) := by
  unfold feR
  exact Rx_tr (Rx_2199 (fun j j1 j2 => u1_ne (by omega))) (Rx_w (by omega))
theorem feR_S {n a b : Int} : feR r n a b 2199 = rnS (r 2199) := by
  unfold feR rnS; rw [uA_ne (by omega), uA_same]
theorem feR_F {n a b : Int} : feR r n a b 2217 = fclS (r 2199) (r 2217) n a b := by
  unfold feR; rw [uA_same]
theorem w_x {st : qN} : Rx r (uA r 2216 st) := Rx_w (by omega)
set_option maxHeartbeats 2000000 in
set_option maxRecDepth 100000 in
theorem T_M_setsTimer (hd : 11 ≤ d) (hs : ShMs s) {n : Int} (hn : 0 ≤ n ∧ n ≤ 6) (ho : OK R (r 2199)) (hL : LOK r) : TR l V d mi_M_setsTimer [.ref 2198, .int (Int32.ofInt n)] s c r none (tmS (lwR r) (r 2199) n) := by
  refine T_ev qm_M_setsTimer [.ref 2198, .int (Int32.ofInt n), .retAddr 0] rfl rfl (Nat.le_of_ble_eq_true rfl) ok_M_setsTimer (smE_ok (d := d - 1) (by omega)) (fun _ => false) 200 (by omega) (fun K kK => ?_)
  have hm := OK_sm ho
  have e := feR_S (r := r) (n := n) (a := n) (b := 6)
  have ht := (OK_n ho hn).1.2.1.1
  have q1 := rnd_rng (S := r 2199)
  have hx := feR_x (r := r) (n := n) (a := n) (b := 6)
  have hw : lwV (feR r n n 6) (feR r n n 6 2217) 101 4 40 8 = (lwR r (fcS (r 2199) n n 6)).2.2.1 := by
    have := lwR_c (r := r) (r' := feR r n n 6) (F := fcS (r 2199) n n 6) (F' := feR r n n 6 2217) (fun a a1 a2 => Rx_a hx (by omega)) (hx.2.1 15 (by omega)) hL (by rw [feR_F]; exact fcl_fc)
    rw [← this]; rfl
  have hw2 := (lwR_ok (r := r) (fcS (r 2199) n n 6)).2.2
  simp (disch := omega) only [ev_s, evN_ap, List.getElem?_cons_zero, List.getElem?_cons_succ, List.set_cons_zero, List.set_cons_succ, Bool.false_eq_true, ↓reduceIte, qrest_n, qrest_1, qrest_2, qrest_3, qrest_4, qrest_5, qrest_6, qtr_i, qtr_r, true_and, and_true, List.length_cons, List.length_nil, Int.cast_ofNat_Int, Int32.toInt_zero, false_implies, true_implies, not_false_eq_true, not_true_eq_false, Option.toList_some, Option.toList_none, List.cons_append, List.nil_append, Nat.reduceBEq, Nat.reduceEqDiff, Bool.or_self, or_self, Nat.reduceAdd, Nat.reduceLT, Nat.zero_add, Int.reduceAdd, Int.reduceLE, Int.reduceLT, Int.reduceEq, and_self, Int.reduceNeg, qrok_i, qrok_b0, qrok_b1, qrok_bI, Option.some.injEq, Value.int.injEq, J_bI0, J_bI1, Classical.not_not, Int.zero_add, Int.add_zero, Int.sub_zero, false_and, and_false, and_true, true_and, e_0, v_0, e_1, v_1, e_2, v_2, e_3, v_3, e_6, v_6, e_41, e_44, qspl_z, qspl_s, evC_s, evD_none, evD_v, evD_s, b_0, smE_177, sw_M_sets, (smE_no (k := 220) rfl), (smE_no (k := 222) rfl), r_M_setsTimer_0, r_M_setsTimer_1, r_M_setsTimer_2, r_M_setsTimer_3, r_M_setsTimer_5, r_M_setsTimer_8, r_M_setsTimer_9, r_M_setsTimer_10, r_M_setsTimer_11, r_M_setsTimer_13, r_M_setsTimer_14, r_M_setsTimer_16, r_M_setsTimer_17, r_M_setsTimer_19, r_M_setsTimer_21, r_M_setsTimer_24, r_M_setsTimer_25, r_M_setsTimer_26, r_M_setsTimer_29, (shS_o hs), (shS_r_now hs), (shS_k_now hs), nA_mk, lpI_mk, mnI_I, mxI_I, I_val, I_add, I_sub, I_mul, ShM_mk, hs, ndB_I, hM_jr, inB, smv hm, smn hm, bI_z, Bool.or_eq_true, Bool.or_false, Bool.false_or, beq_iff_eq, or_false, false_or, set_jA, uA_uA, uA_same, uA_ne, u1_ne, u1_same, nd_u1, nd_u1s, lpS_u1]
  refine kK _ _ _ _ (GCD ok_M_setsTimer r_M_setsTimer_5 ⟨by decide, by decide⟩ qm_M_feels (T_M_feels (d := d - 1) (by omega) hs hn hm (OK_xOk ho) ht) rfl rfl (fun _ => rcM hs) rfl (Nat.le_of_ble_eq_true rfl) (by omega) ?_)
  refine G_ev ok_M_setsTimer (smE_ok (d := d - 1) (by omega)) (fun _ => false) 200 (by omega) (fun K kK => ?_)
  simp (disch := omega) only [ev_s, evN_ap, List.getElem?_cons_zero, List.getElem?_cons_succ, List.set_cons_zero, List.set_cons_succ, Bool.false_eq_true, ↓reduceIte, qrest_n, qrest_1, qrest_2, qrest_3, qrest_4, qrest_5, qrest_6, qtr_i, qtr_r, true_and, and_true, List.length_cons, List.length_nil, Int.cast_ofNat_Int, Int32.toInt_zero, false_implies, true_implies, not_false_eq_true, not_true_eq_false, Option.toList_some, Option.toList_none, List.cons_append, List.nil_append, Nat.reduceBEq, Nat.reduceEqDiff, Bool.or_self, or_self, Nat.reduceAdd, Nat.reduceLT, Nat.zero_add, Int.reduceAdd, Int.reduceLE, Int.reduceLT, Int.reduceEq, and_self, Int.reduceNeg, qrok_i, qrok_b0, qrok_b1, qrok_bI, Option.some.injEq, Value.int.injEq, J_bI0, J_bI1, Classical.not_not, Int.zero_add, Int.add_zero, Int.sub_zero, false_and, and_false, and_true, true_and, e_0, v_0, e_1, v_1, e_2, v_2, e_3, v_3, e_6, v_6, e_41, e_44, qspl_z, qspl_s, evC_s, evD_none, evD_v, evD_s, b_0, smE_177, sw_M_sets, (smE_no (k := 220) rfl), (smE_no (k := 222) rfl), r_M_setsTimer_0, r_M_setsTimer_1, r_M_setsTimer_2, r_M_setsTimer_3, r_M_setsTimer_5, r_M_setsTimer_8, r_M_setsTimer_9, r_M_setsTimer_10, r_M_setsTimer_11, r_M_setsTimer_13, r_M_setsTimer_14, r_M_setsTimer_16, r_M_setsTimer_17, r_M_setsTimer_19, r_M_setsTimer_21, r_M_setsTimer_24, r_M_setsTimer_25, r_M_setsTimer_26, r_M_setsTimer_29, (shS_o hs), (shS_r_now hs), (shS_k_now hs), nA_mk, lpI_mk, mnI_I, mxI_I, I_val, I_add, I_sub, I_mul, ShM_mk, hs, ndB_I, hM_jr, inB, smv hm, smn hm, bI_z, Bool.or_eq_true, Bool.or_false, Bool.false_or, beq_iff_eq, or_false, false_or, set_jA, uA_uA, uA_same, uA_ne, u1_ne, u1_same, nd_u1, nd_u1s, lpS_u1]
  refine kK _ _ _ _ (GCQ ok_M_setsTimer r_M_setsTimer_21 ⟨by decide, by decide⟩ qm_M_byLaw (T_M_byLaw (d := d - 1) (by omega) hs (Rx_LOK hx hL) (x := 101) (by omega) (lo := 4) (hi := 40) (wo := 8) (by omega)) rfl rfl (fun _ => rcM hs) rfl (Nat.le_of_ble_eq_true rfl) (by omega) (fun v1 h1 q1 => ?_))
  obtain ⟨rfl, st1, rfl⟩ := q1
  refine G_ev ok_M_setsTimer (smE_ok (d := d - 1) (by omega)) (fun _ => false) 200 (by omega) (fun K kK => ?_)
  rw [hw]
  have e2 : uA (feR r n n 6) 2216 st1 2199 = rnS (r 2199) := by rw [uA_ne (by omega), e]
  simp (disch := omega) only [ev_s, evN_ap, List.getElem?_cons_zero, List.getElem?_cons_succ, List.set_cons_zero, List.set_cons_succ, Bool.false_eq_true, ↓reduceIte, qrest_n, qrest_1, qrest_2, qrest_3, qrest_4, qrest_5, qrest_6, qtr_i, qtr_r, true_and, and_true, List.length_cons, List.length_nil, Int.cast_ofNat_Int, Int32.toInt_zero, false_implies, true_implies, not_false_eq_true, not_true_eq_false, Option.toList_some, Option.toList_none, List.cons_append, List.nil_append, Nat.reduceBEq, Nat.reduceEqDiff, Bool.or_self, or_self, Nat.reduceAdd, Nat.reduceLT, Nat.zero_add, Int.reduceAdd, Int.reduceLE, Int.reduceLT, Int.reduceEq, and_self, Int.reduceNeg, qrok_i, qrok_b0, qrok_b1, qrok_bI, Option.some.injEq, Value.int.injEq, J_bI0, J_bI1, Classical.not_not, Int.zero_add, Int.add_zero, Int.sub_zero, false_and, and_false, and_true, true_and, e_0, v_0, e_1, v_1, e_2, v_2, e_3, v_3, e_6, v_6, e_41, e_44, qspl_z, qspl_s, evC_s, evD_none, evD_v, evD_s, b_0, smE_177, sw_M_sets, (smE_no (k := 220) rfl), (smE_no (k := 222) rfl), r_M_setsTimer_0, r_M_setsTimer_1, r_M_setsTimer_2, r_M_setsTimer_3, r_M_setsTimer_5, r_M_setsTimer_8, r_M_setsTimer_9, r_M_setsTimer_10, r_M_setsTimer_11, r_M_setsTimer_13, r_M_setsTimer_14, r_M_setsTimer_16, r_M_setsTimer_17, r_M_setsTimer_19, r_M_setsTimer_21, r_M_setsTimer_24, r_M_setsTimer_25, r_M_setsTimer_26, r_M_setsTimer_29, (shS_o hs), (shS_r_now hs), (shS_k_now hs), nA_mk, lpI_mk, mnI_I, mxI_I, I_val, I_add, I_sub, I_mul, ShM_mk, hs, ndB_I, hM_jr, inB, smv hm, smn hm, bI_z, Bool.or_eq_true, Bool.or_false, Bool.false_or, beq_iff_eq, or_false, false_or, set_jA, uA_uA, uA_same, uA_ne, u1_ne, u1_same, nd_u1, nd_u1s, lpS_u1]
  refine ⟨hn, _, rfl, ?_, ?_⟩
  · rw [uA_same, e]; rfl
  · refine Rx_tr (Rx_tr hx w_x) (Rx_2199 (fun j j1 j2 => ?_))
    rw [e2, e, u1_ne (by omega)]
end MS
