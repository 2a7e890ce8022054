/-! the class's face: ticks -/
section Fr
variable {s s' : qS} {w w' : Nat} {c c' g : qI} {S : qN} {L : qL}
theorem ShT_fr (h : FrS w s s') (hw : 8 ≤ w) (hT : ShT s w') : ShT s' w' := by
  obtain ⟨f1, f2, f3⟩ := h
  have k : ∀ a, kd s' a = kd s a := fun a => by unfold kd; rw [f2]
  unfold ShT at hT ⊢
  rw [k, k, f3 2 0 (by omega) (by omega), f3 2 1 (by omega) (by omega), f3 2 2 (by omega) (by omega), f3 2 3 (by omega) (by omega), f3 2 5 (by omega) (by omega), f3 2 7 (by omega) (by omega), f3 2 8 (by omega) (by omega)]
  exact hT
theorem ShW_fr (h : FrS w s s') (hw : 8 ≤ w) (hw' : 8 ≤ w') (hww : w + 727 ≤ w' ∨ w' + 727 ≤ w) (hS : ShW s w') : ShW s' w' := by
  obtain ⟨f1, f2, f3⟩ := h
  have k : ∀ a, kd s' a = kd s a := fun a => by unfold kd; rw [f2]
  have f : ∀ x i, (x < w ∨ w + 727 ≤ x) → rf s' x i = rf s x i := fun x i q => f3 x i (by omega) (by omega)
  obtain ⟨⟨v1, v2, ⟨v3, v3'⟩, v4, ⟨v5, v5'⟩, ⟨v6, v6'⟩, v7, ⟨v8, v8'⟩, ⟨v9, v9'⟩, ⟨v10, v10'⟩, v11, v12⟩, ⟨b1, b2, b3⟩, ⟨l1, ⟨l2, l2'⟩, ⟨l3, l3'⟩, ⟨l4, l4'⟩, l5, l5'⟩⟩ := hS
  have eb : ∀ i, bx s' w' i = bx s w' i := fun i => f _ _ (by omega)
  have ei : inh s' w' = inh s w' := f _ _ (by omega)
  refine ⟨⟨by rw [k]; exact v1, by rw [f _ _ (by omega)]; exact v2, ⟨by rw [f _ _ (by omega)]; exact v3, by rw [k]; exact v3'⟩, fun n a b => by rw [f _ _ (by omega)]; exact v4 n a b, ⟨by rw [f _ _ (by omega)]; exact v5, by rw [k]; exact v5'⟩, ⟨by rw [f _ _ (by omega)]; exact v6, by rw [k]; exact v6'⟩, fun i a b => ⟨by rw [f _ _ (by omega)]; exact (v7 i a b).1, by rw [k]; exact (v7 i a b).2⟩, ⟨by rw [f _ _ (by omega)]; exact v8, by rw [k]; exact v8'⟩, ⟨by rw [f _ _ (by omega)]; exact v9, by rw [k]; exact v9'⟩, ⟨by rw [f _ _ (by omega)]; exact v10, by rw [k]; exact v10'⟩, fun n a b => ?_, fun o ho => ?_⟩, ⟨fun i a b => by rw [eb, ei]; exact b1 i a b, by rw [ei]; exact b2, fun i j a b e => by rw [eb, eb]; exact b3 i j a b e⟩, ⟨by rw [k]; exact l1, ⟨by rw [f _ _ (by omega)]; exact l2, by rw [k]; exact l2'⟩, ⟨by rw [f _ _ (by omega)]; exact l3, by rw [k]; exact l3'⟩, ⟨by rw [f _ _ (by omega)]; exact l4, by rw [k]; exact l4'⟩, by rw [f _ _ (by omega)]; exact l5, by rw [k]; exact l5'⟩⟩
  · have v := v11 n a b
    unfold ShN at v ⊢
    simp only [k]
    rw [f _ _ (by unfold ndA; omega), f _ _ (by unfold ndA; omega), f _ _ (by unfold ndA; omega), f _ _ (by unfold ndA; omega), f _ _ (by unfold ndA; omega), f _ _ (by unfold ndA; omega), f _ _ (by unfold ndA; omega)]
    exact v
  · have v := v12 o ho
    have hx := MO_x ho
    unfold ShG at v ⊢
    simp only [k]
    rw [f _ _ (by omega), f _ _ (by omega), f _ _ (by omega)]
    exact v
theorem bx_fr (h : FrS w s s') (hww : w + 727 ≤ w' ∨ w' + 727 ≤ w) {i : Int} : bx s' w' i = bx s w' i := h.2.2 _ _ (by omega) (by omega)
/-- a world's memory is told by its own cells -/
theorem Hd_c (h : mkC w S c = c) (hc : ∀ a, w ≤ a → a < w + 727 → c' a = c a) : mkC w S c' = c' := by
  have src : ∀ a k, mkC w S c a k = c a k := fun a k => by rw [h]
  funext a k
  refine mk_cases (w := w) (P := fun a => mkC w S c' a k = c' a k) ?_ ?_ ?_ ?_ ?_ ?_ ?_ a
  · intro n p h1 h2 h3
    have := src (ndA w n p) k
    rw [mkC_N ⟨h1, h2⟩ h3] at this ⊢
    rw [hc _ (by unfold ndA; omega) (by unfold ndA; omega)]; exact this
  · intro i h1 h2
    have := src (rdA w i) k
    rw [mkC_R ⟨h1, h2⟩] at this ⊢
    rw [hc _ (by unfold rdA; omega) (by unfold rdA; omega)]; exact this
  · have := src w k
    rw [mkC_w] at this ⊢
    rw [hc _ (by omega) (by omega)]; exact this
  · have := src (w + 8) k
    rw [mkC_8] at this ⊢
    rw [hc _ (by omega) (by omega)]; exact this
  · have := src (w + 9) k
    rw [mkC_9] at this ⊢
    rw [hc _ (by omega) (by omega)]; exact this
  · have := src (w + 10) k
    rw [mkC_10] at this ⊢
    rw [hc _ (by omega) (by omega)]; exact this
  · intro a h
    rw [mkC_o h]
theorem BG_c (h : BG w c) (hc : ∀ a, w ≤ a → a < w + 727 → c' a = c a) : BG w c' := fun o ho => by
  have := MO_x ho
  rw [hc o (by omega) (by omega)]; exact h o ho
theorem MsC_c {R : Int} (hS : ShW s w) (ho : OK R S) (hb : ∀ i, bx s' w i = bx s w i) (h : MsC s w c S) (hc : ∀ a, w ≤ a → a < w + 727 → c' a = c a) : MsC s' w c' S := by
  have h160 := OK_160 ho
  refine ⟨fun m m0 m1 => ?_, BG_c h.2 hc⟩
  obtain ⟨a1, a2⟩ := h.1 m m0 m1
  have hx := MO_x (mo_bx hS (i := m) (by omega))
  rw [hb]
  refine ⟨MgC_g (fun i hi => hc _ (by omega) (by omega)) a1, ?_⟩
  rw [hc _ (by omega) (by omega)]; exact a2
theorem ts_9 : ∀ (j : Nat) (S : qN), ¬ S 11131 < 9999 → tsS L j S = S
  | 0, _, _ => rfl
  | j + 1, S, h => by
    rw [tsS, otS, if_neg h]
    exact ts_9 j S h
end Fr
section CS
variable {l : Launch} {V : qV} {d : Nat} {s : qS} {w : Nat} {S : qN} {c g r : qI} {R n i v : Int} {Q : Option Value → qH → Prop} {I : qN → Prop}
theorem LT_ticks (hd : 20 ≤ d) (hw : 8 ≤ w ∧ w ≤ 1462) (hI : SafI (lwR r) I) {s0 : qS} {g0 : qI} {n b : Int} (hn : 0 ≤ n ∧ n ≤ 200) : ∀ (j : Nat) (i : Int) (s : qS) (S : qN) (g : qI), i + j = n → 0 ≤ i → RSt S → I S → CLw g r → ShW s w → ShT s w → MsC s w g S → FrO w g0 g → FrS w s0 s →
    (∀ s' g' x3 x4, FrS w s0 s' → FrO w g0 g' → ShW s' w → ShT s' w → MsC s' w g' (tsS (lwR r) j S) → I (tsS (lwR r) j S) → RSt (tsS (lwR r) j S) → G l V mi_T_ticks (rm d) 0 0 Q 0 0 46 [.ref 2, .int (Int32.ofInt n), .int (Int32.ofInt b), x3, x4] [] (mkH s' (jn (mkC w (tsS (lwR r) j S) g') r))) →
    G l V mi_T_ticks (rm d) 0 0 Q 0 0 22 [.ref 2, .int (Int32.ofInt n), .int (Int32.ofInt b), .int (Int32.ofInt 1), .int (Int32.ofInt i)] [] (mkH s (jn (mkC w S g) r)) := by
  intro j
  induction j with
  | zero =>
    intro i s S g hj h0 ho hi hL hS hT hm hf hs hQ
    have e : i = n := by omega
    subst e
    refine G_ev ok_T_ticks (smL_ok (d := d - 1) (by omega)) (fun pc => pc == 22 || pc == 46) 200 (by omega) (fun K kK => ?_)
    simp (disch := omega) only [ev_s, evN_ap, List.getElem?_cons_zero, List.getElem?_cons_succ, List.set_cons_zero, List.set_cons_succ, Bool.false_eq_true, ↓reduceIte, qrest_n, qrest_1, qrest_2, qrest_3, qrest_4, qrest_5, qrest_6, qtr_i, qtr_r, true_and, and_true, List.length_cons, List.length_nil, Int.cast_ofNat_Int, Int32.toInt_zero, false_implies, true_implies, not_false_eq_true, not_true_eq_false, Option.toList_some, Option.toList_none, List.cons_append, List.nil_append, Nat.reduceBEq, Nat.reduceEqDiff, Bool.or_self, or_self, Nat.reduceAdd, Nat.reduceLT, Nat.zero_add, Int.reduceAdd, Int.reduceLE, Int.reduceLT, Int.reduceEq, and_self, Int.reduceNeg, qrok_i, qrok_b0, qrok_b1, qrok_bI, Option.some.injEq, Value.int.injEq, J_bI0, J_bI1, Classical.not_not, Int.zero_add, Int.add_zero, Int.sub_zero, false_and, and_false, and_true, true_and, e_0, v_0, e_1, v_1, e_2, v_2, e_3, v_3, e_5, v_5, e_6, v_6, e_13, v_13, e_14, v_14, e_15, v_15, e_19, v_19, e_20, v_20, e_40, e_44, e_45, qspl_z, qspl_s, evC_s, evD_none, evD_v, evD_s, c_0, c_1, c_3, b_1, (smL_no (k := 80) rfl), smL_154, sw_T_isTickCount, r_T_ticks_0, r_T_ticks_1, r_T_ticks_4, r_T_ticks_7, r_T_ticks_8, r_T_ticks_9, r_T_ticks_10, r_T_ticks_13, r_T_ticks_16, r_T_ticks_17, r_T_ticks_18, r_T_ticks_19, r_T_ticks_20, r_T_ticks_22, r_T_ticks_24, r_T_ticks_25, r_T_ticks_28, r_T_ticks_29, r_T_ticks_32, r_T_ticks_33, r_T_ticks_36, r_T_ticks_39, r_T_ticks_40, r_T_ticks_43, r_T_ticks_46, r_T_ticks_47, r_T_ticks_50, r_T_ticks_53, r_T_ticks_54, r_T_ticks_55, sv_k hS, sv_0 hS, sv_1 hS, sv_k1 hS, sv_n hS, sv_2 hS, sv_k2 hS, sv_b, sv_4, sv_5 hS, sv_k7 hS, sv_r hS, sv_kr hS, sv_7 hS, sv_k8 hS, sv_10 hS, sv_k9 hS, sv_11 hS, sv_k10 hS, sn_k hS, sn_4 hS, sn_k1 hS, sn_6 hS, sn_k2 hS, sn_24 hS, sn_k3 hS, sn_9 hS, sn_k4 hS, sn_13 hS, sn_k5 hS, sn_14 hS, sn_k6 hS, sn_15 hS, sn_k7 hS, sl_k hS, sl_2 hS, sl_k4 hS, sl_3 hS, sl_k5 hS, sl_4 hS, sl_k6 hS, sl_5 hS, sl_k7 hS, rn_0, rn_1, rn_2, rn_3, rn_5, rn_7, rn_8, rn_10, rn_11, rn_12, rn_16, rn_17, rn_log, rn_20, rn_21, rn_22, rn_23, rn_sk, rn_key, rn_next, rn_match, rn_heard, rw_3, rw_6, rw_8, rw_9, rw_12, rw_13, rw_14, rw_15, rw_he, rw_ld, rw_cu, rr_0, rr_1, rr_2, rr_3, rr_4, rr_5, su_2, su_8, su_10, su_12, su_16, su_17, su_20, su_21, su_22, su_23, su_sk, su_key, su_next, su_match, su_heard, su_3m, su_3, su_11m, su_11, su_7, sw_3, sw_8, sw_12, sw_13, sw_14, sw_15, sw_ld, sw_cu, sr_0, sr_5, I_val, I_add, I_sub, I_mul, inB, beq_iff_eq, or_false, false_or, u1_ne, u1_same, nd_u1, nd_u1s, lpS_u1, Bool.or_eq_true, Bool.or_false, Bool.false_or, bI_z, mnI_I, mxI_I]
    repeat' (first | with_reducible apply And.intro | intro _)
    all_goals try (clear kK; omega)
    all_goals first | omega | exact kK _ _ _ _ (hQ s g _ _ hs hf hS hT hm hi ho)
  | succ j ih =>
    intro i s S g hj h0 ho hi hL hS hT hm hf hs hQ
    have hR := RSt_R ho
    have g9 := (OK_g ho.1).1
    refine G_ev ok_T_ticks (smL_ok (d := d - 1) (by omega)) (fun pc => pc == 22 || pc == 46) 200 (by omega) (fun K kK => ?_)
    simp (disch := omega) only [ev_s, evN_ap, List.getElem?_cons_zero, List.getElem?_cons_succ, List.set_cons_zero, List.set_cons_succ, Bool.false_eq_true, ↓reduceIte, qrest_n, qrest_1, qrest_2, qrest_3, qrest_4, qrest_5, qrest_6, qtr_i, qtr_r, true_and, and_true, List.length_cons, List.length_nil, Int.cast_ofNat_Int, Int32.toInt_zero, false_implies, true_implies, not_false_eq_true, not_true_eq_false, Option.toList_some, Option.toList_none, List.cons_append, List.nil_append, Nat.reduceBEq, Nat.reduceEqDiff, Bool.or_self, or_self, Nat.reduceAdd, Nat.reduceLT, Nat.zero_add, Int.reduceAdd, Int.reduceLE, Int.reduceLT, Int.reduceEq, and_self, Int.reduceNeg, qrok_i, qrok_b0, qrok_b1, qrok_bI, Option.some.injEq, Value.int.injEq, J_bI0, J_bI1, Classical.not_not, Int.zero_add, Int.add_zero, Int.sub_zero, false_and, and_false, and_true, true_and, e_0, v_0, e_1, v_1, e_2, v_2, e_3, v_3, e_5, v_5, e_6, v_6, e_13, v_13, e_14, v_14, e_15, v_15, e_19, v_19, e_20, v_20, e_40, e_44, e_45, qspl_z, qspl_s, evC_s, evD_none, evD_v, evD_s, c_0, c_1, c_3, b_1, (smL_no (k := 80) rfl), smL_154, sw_T_isTickCount, r_T_ticks_0, r_T_ticks_1, r_T_ticks_4, r_T_ticks_7, r_T_ticks_8, r_T_ticks_9, r_T_ticks_10, r_T_ticks_13, r_T_ticks_16, r_T_ticks_17, r_T_ticks_18, r_T_ticks_19, r_T_ticks_20, r_T_ticks_22, r_T_ticks_24, r_T_ticks_25, r_T_ticks_28, r_T_ticks_29, r_T_ticks_32, r_T_ticks_33, r_T_ticks_36, r_T_ticks_39, r_T_ticks_40, r_T_ticks_43, r_T_ticks_46, r_T_ticks_47, r_T_ticks_50, r_T_ticks_53, r_T_ticks_54, r_T_ticks_55, sv_k hS, sv_0 hS, sv_1 hS, sv_k1 hS, sv_n hS, sv_2 hS, sv_k2 hS, sv_b, sv_4, sv_5 hS, sv_k7 hS, sv_r hS, sv_kr hS, sv_7 hS, sv_k8 hS, sv_10 hS, sv_k9 hS, sv_11 hS, sv_k10 hS, sn_k hS, sn_4 hS, sn_k1 hS, sn_6 hS, sn_k2 hS, sn_24 hS, sn_k3 hS, sn_9 hS, sn_k4 hS, sn_13 hS, sn_k5 hS, sn_14 hS, sn_k6 hS, sn_15 hS, sn_k7 hS, sl_k hS, sl_2 hS, sl_k4 hS, sl_3 hS, sl_k5 hS, sl_4 hS, sl_k6 hS, sl_5 hS, sl_k7 hS, rn_0, rn_1, rn_2, rn_3, rn_5, rn_7, rn_8, rn_10, rn_11, rn_12, rn_16, rn_17, rn_log, rn_20, rn_21, rn_22, rn_23, rn_sk, rn_key, rn_next, rn_match, rn_heard, rw_3, rw_6, rw_8, rw_9, rw_12, rw_13, rw_14, rw_15, rw_he, rw_ld, rw_cu, rr_0, rr_1, rr_2, rr_3, rr_4, rr_5, su_2, su_8, su_10, su_12, su_16, su_17, su_20, su_21, su_22, su_23, su_sk, su_key, su_next, su_match, su_heard, su_3m, su_3, su_11m, su_11, su_7, sw_3, sw_8, sw_12, sw_13, sw_14, sw_15, sw_ld, sw_cu, sr_0, sr_5, I_val, I_add, I_sub, I_mul, inB, beq_iff_eq, or_false, false_or, u1_ne, u1_same, nd_u1, nd_u1s, lpS_u1, Bool.or_eq_true, Bool.or_false, Bool.false_or, bI_z, mnI_I, mxI_I, st_k hT, st_1 hT]
    repeat' (first | with_reducible apply And.intro | intro _)
    all_goals try (clear kK; omega)
    all_goals try omega
    refine kK _ _ _ _ (GCQ ok_T_ticks r_T_ticks_36 ⟨by decide, by decide⟩ qm_World_passTick (C_World_passTick (d := d - 1) (by omega) hw hS hI ho.1 ho.2 hR hi hL hm) rfl rfl (fun _ => rcW hS) rfl (Nat.le_of_ble_eq_true rfl) (by omega) (fun v1 h1 q1 => ?_))
    by_cases z : S 11131 < 9999
    · obtain ⟨rfl, s1, g1, rfl, f1, w1, o1, m1, i1⟩ := q1.2 z
      have e : tsS (lwR r) (j + 1) S = tsS (lwR r) j (tkS (lwR r) S) := by rw [tsS, otS, if_pos z]
      rw [e] at hQ
      have g := ih (i + 1) s1 (tkS (lwR r) S) g1 (by omega) (by omega) (RSt_tk ho lwR_ok z) i1 (CLw_c hL (o1 3 (by omega) (by omega) (by omega)) (o1 4 (by omega) (by omega) (by omega)) (o1 5 (by omega) (by omega) (by omega))) w1 (ShT_fr f1 hw.1 hT) m1 (FrO_tr hf o1) (FrS_tr hs f1) hQ
      refine G_ev ok_T_ticks (smL_ok (d := d - 1) (by omega)) (fun pc => pc == 22 || pc == 46) 200 (by omega) (fun K kK => ?_)
      simp (disch := omega) only [ev_s, evN_ap, List.getElem?_cons_zero, List.getElem?_cons_succ, List.set_cons_zero, List.set_cons_succ, Bool.false_eq_true, ↓reduceIte, qrest_n, qrest_1, qrest_2, qrest_3, qrest_4, qrest_5, qrest_6, qtr_i, qtr_r, true_and, and_true, List.length_cons, List.length_nil, Int.cast_ofNat_Int, Int32.toInt_zero, false_implies, true_implies, not_false_eq_true, not_true_eq_false, Option.toList_some, Option.toList_none, List.cons_append, List.nil_append, Nat.reduceBEq, Nat.reduceEqDiff, Bool.or_self, or_self, Nat.reduceAdd, Nat.reduceLT, Nat.zero_add, Int.reduceAdd, Int.reduceLE, Int.reduceLT, Int.reduceEq, and_self, Int.reduceNeg, qrok_i, qrok_b0, qrok_b1, qrok_bI, Option.some.injEq, Value.int.injEq, J_bI0, J_bI1, Classical.not_not, Int.zero_add, Int.add_zero, Int.sub_zero, false_and, and_false, and_true, true_and, e_0, v_0, e_1, v_1, e_2, v_2, e_3, v_3, e_5, v_5, e_6, v_6, e_13, v_13, e_14, v_14, e_15, v_15, e_19, v_19, e_20, v_20, e_40, e_44, e_45, qspl_z, qspl_s, evC_s, evD_none, evD_v, evD_s, c_0, c_1, c_3, b_1, (smL_no (k := 80) rfl), smL_154, sw_T_isTickCount, r_T_ticks_0, r_T_ticks_1, r_T_ticks_4, r_T_ticks_7, r_T_ticks_8, r_T_ticks_9, r_T_ticks_10, r_T_ticks_13, r_T_ticks_16, r_T_ticks_17, r_T_ticks_18, r_T_ticks_19, r_T_ticks_20, r_T_ticks_22, r_T_ticks_24, r_T_ticks_25, r_T_ticks_28, r_T_ticks_29, r_T_ticks_32, r_T_ticks_33, r_T_ticks_36, r_T_ticks_39, r_T_ticks_40, r_T_ticks_43, r_T_ticks_46, r_T_ticks_47, r_T_ticks_50, r_T_ticks_53, r_T_ticks_54, r_T_ticks_55, sv_k hS, sv_0 hS, sv_1 hS, sv_k1 hS, sv_n hS, sv_2 hS, sv_k2 hS, sv_b, sv_4, sv_5 hS, sv_k7 hS, sv_r hS, sv_kr hS, sv_7 hS, sv_k8 hS, sv_10 hS, sv_k9 hS, sv_11 hS, sv_k10 hS, sn_k hS, sn_4 hS, sn_k1 hS, sn_6 hS, sn_k2 hS, sn_24 hS, sn_k3 hS, sn_9 hS, sn_k4 hS, sn_13 hS, sn_k5 hS, sn_14 hS, sn_k6 hS, sn_15 hS, sn_k7 hS, sl_k hS, sl_2 hS, sl_k4 hS, sl_3 hS, sl_k5 hS, sl_4 hS, sl_k6 hS, sl_5 hS, sl_k7 hS, rn_0, rn_1, rn_2, rn_3, rn_5, rn_7, rn_8, rn_10, rn_11, rn_12, rn_16, rn_17, rn_log, rn_20, rn_21, rn_22, rn_23, rn_sk, rn_key, rn_next, rn_match, rn_heard, rw_3, rw_6, rw_8, rw_9, rw_12, rw_13, rw_14, rw_15, rw_he, rw_ld, rw_cu, rr_0, rr_1, rr_2, rr_3, rr_4, rr_5, su_2, su_8, su_10, su_12, su_16, su_17, su_20, su_21, su_22, su_23, su_sk, su_key, su_next, su_match, su_heard, su_3m, su_3, su_11m, su_11, su_7, sw_3, sw_8, sw_12, sw_13, sw_14, sw_15, sw_ld, sw_cu, sr_0, sr_5, I_val, I_add, I_sub, I_mul, inB, beq_iff_eq, or_false, false_or, u1_ne, u1_same, nd_u1, nd_u1s, lpS_u1, Bool.or_eq_true, Bool.or_false, Bool.false_or, bI_z, mnI_I, mxI_I]
      repeat' (first | with_reducible apply And.intro | intro _)
      all_goals try (clear kK; omega)
      all_goals first | omega | exact kK _ _ _ _ g
    · obtain ⟨rfl, rfl⟩ := q1.1 (by omega)
      rw [ts_9 (j + 1) S z] at hQ
      refine G_ev ok_T_ticks (smL_ok (d := d - 1) (by omega)) (fun pc => pc == 46) 200 (by omega) (fun K kK => ?_)
      simp (disch := omega) only [ev_s, evN_ap, List.getElem?_cons_zero, List.getElem?_cons_succ, List.set_cons_zero, List.set_cons_succ, Bool.false_eq_true, ↓reduceIte, qrest_n, qrest_1, qrest_2, qrest_3, qrest_4, qrest_5, qrest_6, qtr_i, qtr_r, true_and, and_true, List.length_cons, List.length_nil, Int.cast_ofNat_Int, Int32.toInt_zero, false_implies, true_implies, not_false_eq_true, not_true_eq_false, Option.toList_some, Option.toList_none, List.cons_append, List.nil_append, Nat.reduceBEq, Nat.reduceEqDiff, Bool.or_self, or_self, Nat.reduceAdd, Nat.reduceLT, Nat.zero_add, Int.reduceAdd, Int.reduceLE, Int.reduceLT, Int.reduceEq, and_self, Int.reduceNeg, qrok_i, qrok_b0, qrok_b1, qrok_bI, Option.some.injEq, Value.int.injEq, J_bI0, J_bI1, Classical.not_not, Int.zero_add, Int.add_zero, Int.sub_zero, false_and, and_false, and_true, true_and, e_0, v_0, e_1, v_1, e_2, v_2, e_3, v_3, e_5, v_5, e_6, v_6, e_13, v_13, e_14, v_14, e_15, v_15, e_19, v_19, e_20, v_20, e_40, e_44, e_45, qspl_z, qspl_s, evC_s, evD_none, evD_v, evD_s, c_0, c_1, c_3, b_1, (smL_no (k := 80) rfl), smL_154, sw_T_isTickCount, r_T_ticks_0, r_T_ticks_1, r_T_ticks_4, r_T_ticks_7, r_T_ticks_8, r_T_ticks_9, r_T_ticks_10, r_T_ticks_13, r_T_ticks_16, r_T_ticks_17, r_T_ticks_18, r_T_ticks_19, r_T_ticks_20, r_T_ticks_22, r_T_ticks_24, r_T_ticks_25, r_T_ticks_28, r_T_ticks_29, r_T_ticks_32, r_T_ticks_33, r_T_ticks_36, r_T_ticks_39, r_T_ticks_40, r_T_ticks_43, r_T_ticks_46, r_T_ticks_47, r_T_ticks_50, r_T_ticks_53, r_T_ticks_54, r_T_ticks_55, sv_k hS, sv_0 hS, sv_1 hS, sv_k1 hS, sv_n hS, sv_2 hS, sv_k2 hS, sv_b, sv_4, sv_5 hS, sv_k7 hS, sv_r hS, sv_kr hS, sv_7 hS, sv_k8 hS, sv_10 hS, sv_k9 hS, sv_11 hS, sv_k10 hS, sn_k hS, sn_4 hS, sn_k1 hS, sn_6 hS, sn_k2 hS, sn_24 hS, sn_k3 hS, sn_9 hS, sn_k4 hS, sn_13 hS, sn_k5 hS, sn_14 hS, sn_k6 hS, sn_15 hS, sn_k7 hS, sl_k hS, sl_2 hS, sl_k4 hS, sl_3 hS, sl_k5 hS, sl_4 hS, sl_k6 hS, sl_5 hS, sl_k7 hS, rn_0, rn_1, rn_2, rn_3, rn_5, rn_7, rn_8, rn_10, rn_11, rn_12, rn_16, rn_17, rn_log, rn_20, rn_21, rn_22, rn_23, rn_sk, rn_key, rn_next, rn_match, rn_heard, rw_3, rw_6, rw_8, rw_9, rw_12, rw_13, rw_14, rw_15, rw_he, rw_ld, rw_cu, rr_0, rr_1, rr_2, rr_3, rr_4, rr_5, su_2, su_8, su_10, su_12, su_16, su_17, su_20, su_21, su_22, su_23, su_sk, su_key, su_next, su_match, su_heard, su_3m, su_3, su_11m, su_11, su_7, sw_3, sw_8, sw_12, sw_13, sw_14, sw_15, sw_ld, sw_cu, sr_0, sr_5, I_val, I_add, I_sub, I_mul, inB, beq_iff_eq, or_false, false_or, u1_ne, u1_same, nd_u1, nd_u1s, lpS_u1, Bool.or_eq_true, Bool.or_false, Bool.false_or, bI_z, mnI_I, mxI_I]
      repeat' (first | with_reducible apply And.intro | intro _)
      all_goals try (clear kK; omega)
      all_goals first | omega | exact kK _ _ _ _ (hQ s g _ _ hs hf hS hT hm hi ho)
set_option maxHeartbeats 2000000 in
set_option maxRecDepth 100000 in
theorem C_T_ticks (hd : 21 ≤ d) (hw : 8 ≤ w ∧ w ≤ 1462) (hS : ShW s w) {n : Int} (hT : ShT s w) (hI : SafI (lwR r) I) (hb : -2147483648 ≤ n ∧ n ≤ 2147483647) (ho : RSt S) (hi : I S) (hL : CLw g r) (hm : MsC s w g S) : T l V mi_T_ticks (rm d) 0 0 [.ref (2), .int (Int32.ofInt n)] (mkH s (jn (mkC w S g) r)) (fun v h' => v = some (.int (Int32.ofInt (if 1 ≤ n ∧ n ≤ 200 then hcnt (tsS (lwR r) n.toNat S) - hcnt S else -1))) ∧ ∃ s' c', h' = mkH s' (jn c' r) ∧ KS s w g s' c' (rtk (lwR r) S n) ∧ I (rtk (lwR r) S n)) := by
  refine T_ev qm_T_ticks [.ref (2), .int (Int32.ofInt n), .retAddr 0, .retAddr 0, .retAddr 0] rfl rfl (Nat.le_of_ble_eq_true rfl) ok_T_ticks (smL_ok (d := d - 1) (by omega)) (fun pc => pc == 22) 200 (by omega) (fun K kK => ?_)
  by_cases q : 1 ≤ n ∧ n ≤ 200
  · have e0 : rtk (lwR r) S n = tsS (lwR r) n.toNat S := by unfold rtk; rw [if_pos q]
    rw [if_pos q, e0]
    rw [if_pos q, e0] at kK
    have rg := hc_rg (S := S)
    have rg2 := hc_rg (S := tsS (lwR r) n.toNat S)
    have g := LT_ticks (l := l) (V := V) (d := d) (r := r) (I := I) (g0 := g) (s0 := s) (n := n) (b := hcnt S) (Q := fun v h' => v = some (.int (Int32.ofInt (hcnt (tsS (lwR r) n.toNat S) - hcnt S))) ∧ ∃ s' c', h' = mkH s' (jn c' r) ∧ KS s w g s' c' (tsS (lwR r) n.toNat S) ∧ I (tsS (lwR r) n.toNat S)) (by omega) hw hI (by omega) n.toNat 0 s S g (by omega) (by omega) ho hi hL hS hT hm FrO_rf FrS_rf (fun s' g' x3 x4 a1 a2 a3 a4 a5 a6 a7 => by
      have h := KS_O hw.1 a3 a7.1 a2 a5 a1
      refine G_ev ok_T_ticks (smL_ok (d := d - 1) (by omega)) (fun _ => false) 200 (by omega) (fun K kK => ?_)
      simp (disch := omega) only [ev_s, evN_ap, List.getElem?_cons_zero, List.getElem?_cons_succ, List.set_cons_zero, List.set_cons_succ, Bool.false_eq_true, ↓reduceIte, qrest_n, qrest_1, qrest_2, qrest_3, qrest_4, qrest_5, qrest_6, qtr_i, qtr_r, true_and, and_true, List.length_cons, List.length_nil, Int.cast_ofNat_Int, Int32.toInt_zero, false_implies, true_implies, not_false_eq_true, not_true_eq_false, Option.toList_some, Option.toList_none, List.cons_append, List.nil_append, Nat.reduceBEq, Nat.reduceEqDiff, Bool.or_self, or_self, Nat.reduceAdd, Nat.reduceLT, Nat.zero_add, Int.reduceAdd, Int.reduceLE, Int.reduceLT, Int.reduceEq, and_self, Int.reduceNeg, qrok_i, qrok_b0, qrok_b1, qrok_bI, Option.some.injEq, Value.int.injEq, J_bI0, J_bI1, Classical.not_not, Int.zero_add, Int.add_zero, Int.sub_zero, false_and, and_false, and_true, true_and, e_0, v_0, e_1, v_1, e_2, v_2, e_3, v_3, e_5, v_5, e_6, v_6, e_13, v_13, e_14, v_14, e_15, v_15, e_19, v_19, e_20, v_20, e_40, e_44, e_45, qspl_z, qspl_s, evC_s, evD_none, evD_v, evD_s, c_0, c_1, c_3, b_1, (smL_no (k := 80) rfl), smL_154, sw_T_isTickCount, r_T_ticks_0, r_T_ticks_1, r_T_ticks_4, r_T_ticks_7, r_T_ticks_8, r_T_ticks_9, r_T_ticks_10, r_T_ticks_13, r_T_ticks_16, r_T_ticks_17, r_T_ticks_18, r_T_ticks_19, r_T_ticks_20, r_T_ticks_22, r_T_ticks_24, r_T_ticks_25, r_T_ticks_28, r_T_ticks_29, r_T_ticks_32, r_T_ticks_33, r_T_ticks_36, r_T_ticks_39, r_T_ticks_40, r_T_ticks_43, r_T_ticks_46, r_T_ticks_47, r_T_ticks_50, r_T_ticks_53, r_T_ticks_54, r_T_ticks_55, sv_k hS, sv_0 hS, sv_1 hS, sv_k1 hS, sv_n hS, sv_2 hS, sv_k2 hS, sv_b, sv_4, sv_5 hS, sv_k7 hS, sv_r hS, sv_kr hS, sv_7 hS, sv_k8 hS, sv_10 hS, sv_k9 hS, sv_11 hS, sv_k10 hS, sn_k hS, sn_4 hS, sn_k1 hS, sn_6 hS, sn_k2 hS, sn_24 hS, sn_k3 hS, sn_9 hS, sn_k4 hS, sn_13 hS, sn_k5 hS, sn_14 hS, sn_k6 hS, sn_15 hS, sn_k7 hS, sl_k hS, sl_2 hS, sl_k4 hS, sl_3 hS, sl_k5 hS, sl_4 hS, sl_k6 hS, sl_5 hS, sl_k7 hS, rn_0, rn_1, rn_2, rn_3, rn_5, rn_7, rn_8, rn_10, rn_11, rn_12, rn_16, rn_17, rn_log, rn_20, rn_21, rn_22, rn_23, rn_sk, rn_key, rn_next, rn_match, rn_heard, rw_3, rw_6, rw_8, rw_9, rw_12, rw_13, rw_14, rw_15, rw_he, rw_ld, rw_cu, rr_0, rr_1, rr_2, rr_3, rr_4, rr_5, su_2, su_8, su_10, su_12, su_16, su_17, su_20, su_21, su_22, su_23, su_sk, su_key, su_next, su_match, su_heard, su_3m, su_3, su_11m, su_11, su_7, sw_3, sw_8, sw_12, sw_13, sw_14, sw_15, sw_ld, sw_cu, sr_0, sr_5, I_val, I_add, I_sub, I_mul, inB, beq_iff_eq, or_false, false_or, u1_ne, u1_same, nd_u1, nd_u1s, lpS_u1, Bool.or_eq_true, Bool.or_false, Bool.false_or, bI_z, mnI_I, mxI_I, st_k a4, st_1 a4, sv_k a3]
      repeat' (first | with_reducible apply And.intro | intro _)
      all_goals try (clear kK; omega)
      all_goals first | omega | rfl | exact ⟨s', _, rfl, h, a6⟩)
    simp (disch := omega) only [ev_s, evN_ap, List.getElem?_cons_zero, List.getElem?_cons_succ, List.set_cons_zero, List.set_cons_succ, Bool.false_eq_true, ↓reduceIte, qrest_n, qrest_1, qrest_2, qrest_3, qrest_4, qrest_5, qrest_6, qtr_i, qtr_r, true_and, and_true, List.length_cons, List.length_nil, Int.cast_ofNat_Int, Int32.toInt_zero, false_implies, true_implies, not_false_eq_true, not_true_eq_false, Option.toList_some, Option.toList_none, List.cons_append, List.nil_append, Nat.reduceBEq, Nat.reduceEqDiff, Bool.or_self, or_self, Nat.reduceAdd, Nat.reduceLT, Nat.zero_add, Int.reduceAdd, Int.reduceLE, Int.reduceLT, Int.reduceEq, and_self, Int.reduceNeg, qrok_i, qrok_b0, qrok_b1, qrok_bI, Option.some.injEq, Value.int.injEq, J_bI0, J_bI1, Classical.not_not, Int.zero_add, Int.add_zero, Int.sub_zero, false_and, and_false, and_true, true_and, e_0, v_0, e_1, v_1, e_2, v_2, e_3, v_3, e_5, v_5, e_6, v_6, e_13, v_13, e_14, v_14, e_15, v_15, e_19, v_19, e_20, v_20, e_40, e_44, e_45, qspl_z, qspl_s, evC_s, evD_none, evD_v, evD_s, c_0, c_1, c_3, b_1, (smL_no (k := 80) rfl), smL_154, sw_T_isTickCount, r_T_ticks_0, r_T_ticks_1, r_T_ticks_4, r_T_ticks_7, r_T_ticks_8, r_T_ticks_9, r_T_ticks_10, r_T_ticks_13, r_T_ticks_16, r_T_ticks_17, r_T_ticks_18, r_T_ticks_19, r_T_ticks_20, r_T_ticks_22, r_T_ticks_24, r_T_ticks_25, r_T_ticks_28, r_T_ticks_29, r_T_ticks_32, r_T_ticks_33, r_T_ticks_36, r_T_ticks_39, r_T_ticks_40, r_T_ticks_43, r_T_ticks_46, r_T_ticks_47, r_T_ticks_50, r_T_ticks_53, r_T_ticks_54, r_T_ticks_55, sv_k hS, sv_0 hS, sv_1 hS, sv_k1 hS, sv_n hS, sv_2 hS, sv_k2 hS, sv_b, sv_4, sv_5 hS, sv_k7 hS, sv_r hS, sv_kr hS, sv_7 hS, sv_k8 hS, sv_10 hS, sv_k9 hS, sv_11 hS, sv_k10 hS, sn_k hS, sn_4 hS, sn_k1 hS, sn_6 hS, sn_k2 hS, sn_24 hS, sn_k3 hS, sn_9 hS, sn_k4 hS, sn_13 hS, sn_k5 hS, sn_14 hS, sn_k6 hS, sn_15 hS, sn_k7 hS, sl_k hS, sl_2 hS, sl_k4 hS, sl_3 hS, sl_k5 hS, sl_4 hS, sl_k6 hS, sl_5 hS, sl_k7 hS, rn_0, rn_1, rn_2, rn_3, rn_5, rn_7, rn_8, rn_10, rn_11, rn_12, rn_16, rn_17, rn_log, rn_20, rn_21, rn_22, rn_23, rn_sk, rn_key, rn_next, rn_match, rn_heard, rw_3, rw_6, rw_8, rw_9, rw_12, rw_13, rw_14, rw_15, rw_he, rw_ld, rw_cu, rr_0, rr_1, rr_2, rr_3, rr_4, rr_5, su_2, su_8, su_10, su_12, su_16, su_17, su_20, su_21, su_22, su_23, su_sk, su_key, su_next, su_match, su_heard, su_3m, su_3, su_11m, su_11, su_7, sw_3, sw_8, sw_12, sw_13, sw_14, sw_15, sw_ld, sw_cu, sr_0, sr_5, I_val, I_add, I_sub, I_mul, inB, beq_iff_eq, or_false, false_or, u1_ne, u1_same, nd_u1, nd_u1s, lpS_u1, Bool.or_eq_true, Bool.or_false, Bool.false_or, bI_z, mnI_I, mxI_I, st_k hT, st_1 hT]
    repeat' (first | with_reducible apply And.intro | intro _)
    all_goals try (clear kK; omega)
    all_goals first | omega | exact kK _ _ _ _ g
  · have e0 : rtk (lwR r) S n = S := by unfold rtk; rw [if_neg q]
    rw [if_neg q, e0]
    rw [if_neg q, e0] at kK
    have g := KS_rf hw.1 hS ho.1 hm
    simp (disch := omega) only [ev_s, evN_ap, List.getElem?_cons_zero, List.getElem?_cons_succ, List.set_cons_zero, List.set_cons_succ, Bool.false_eq_true, ↓reduceIte, qrest_n, qrest_1, qrest_2, qrest_3, qrest_4, qrest_5, qrest_6, qtr_i, qtr_r, true_and, and_true, List.length_cons, List.length_nil, Int.cast_ofNat_Int, Int32.toInt_zero, false_implies, true_implies, not_false_eq_true, not_true_eq_false, Option.toList_some, Option.toList_none, List.cons_append, List.nil_append, Nat.reduceBEq, Nat.reduceEqDiff, Bool.or_self, or_self, Nat.reduceAdd, Nat.reduceLT, Nat.zero_add, Int.reduceAdd, Int.reduceLE, Int.reduceLT, Int.reduceEq, and_self, Int.reduceNeg, qrok_i, qrok_b0, qrok_b1, qrok_bI, Option.some.injEq, Value.int.injEq, J_bI0, J_bI1, Classical.not_not, Int.zero_add, Int.add_zero, Int.sub_zero, false_and, and_false, and_true, true_and, e_0, v_0, e_1, v_1, e_2, v_2, e_3, v_3, e_5, v_5, e_6, v_6, e_13, v_13, e_14, v_14, e_15, v_15, e_19, v_19, e_20, v_20, e_40, e_44, e_45, qspl_z, qspl_s, evC_s, evD_none, evD_v, evD_s, c_0, c_1, c_3, b_1, (smL_no (k := 80) rfl), smL_154, sw_T_isTickCount, r_T_ticks_0, r_T_ticks_1, r_T_ticks_4, r_T_ticks_7, r_T_ticks_8, r_T_ticks_9, r_T_ticks_10, r_T_ticks_13, r_T_ticks_16, r_T_ticks_17, r_T_ticks_18, r_T_ticks_19, r_T_ticks_20, r_T_ticks_22, r_T_ticks_24, r_T_ticks_25, r_T_ticks_28, r_T_ticks_29, r_T_ticks_32, r_T_ticks_33, r_T_ticks_36, r_T_ticks_39, r_T_ticks_40, r_T_ticks_43, r_T_ticks_46, r_T_ticks_47, r_T_ticks_50, r_T_ticks_53, r_T_ticks_54, r_T_ticks_55, sv_k hS, sv_0 hS, sv_1 hS, sv_k1 hS, sv_n hS, sv_2 hS, sv_k2 hS, sv_b, sv_4, sv_5 hS, sv_k7 hS, sv_r hS, sv_kr hS, sv_7 hS, sv_k8 hS, sv_10 hS, sv_k9 hS, sv_11 hS, sv_k10 hS, sn_k hS, sn_4 hS, sn_k1 hS, sn_6 hS, sn_k2 hS, sn_24 hS, sn_k3 hS, sn_9 hS, sn_k4 hS, sn_13 hS, sn_k5 hS, sn_14 hS, sn_k6 hS, sn_15 hS, sn_k7 hS, sl_k hS, sl_2 hS, sl_k4 hS, sl_3 hS, sl_k5 hS, sl_4 hS, sl_k6 hS, sl_5 hS, sl_k7 hS, rn_0, rn_1, rn_2, rn_3, rn_5, rn_7, rn_8, rn_10, rn_11, rn_12, rn_16, rn_17, rn_log, rn_20, rn_21, rn_22, rn_23, rn_sk, rn_key, rn_next, rn_match, rn_heard, rw_3, rw_6, rw_8, rw_9, rw_12, rw_13, rw_14, rw_15, rw_he, rw_ld, rw_cu, rr_0, rr_1, rr_2, rr_3, rr_4, rr_5, su_2, su_8, su_10, su_12, su_16, su_17, su_20, su_21, su_22, su_23, su_sk, su_key, su_next, su_match, su_heard, su_3m, su_3, su_11m, su_11, su_7, sw_3, sw_8, sw_12, sw_13, sw_14, sw_15, sw_ld, sw_cu, sr_0, sr_5, I_val, I_add, I_sub, I_mul, inB, beq_iff_eq, or_false, false_or, u1_ne, u1_same, nd_u1, nd_u1s, lpS_u1, Bool.or_eq_true, Bool.or_false, Bool.false_or, bI_z, mnI_I, mxI_I, st_k hT, st_1 hT]
    repeat' (first | with_reducible apply And.intro | intro _)
    all_goals (try clear kK)
    all_goals first | omega | exact ⟨s, _, rfl, g, hi⟩ | exact rfl | trivial
end CS
