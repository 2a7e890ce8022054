/-! the class: snapshots are taken over -/
section In
variable {R : Int} {T M : qN} {n : Int} {w : Nat} {g F : qI}
theorem in_fin (hn : 0 ≤ n ∧ n ≤ 6) (ho : OK R T) (hi : nd T n 9 < M 6) (hM : 0 ≤ M 6) (hout : ∀ a k, (∀ p, p < 8 → a ≠ ndA w n p) → F a k = mkC w T g a k)
    (h0 : ∀ k, F (ndA w n 0) k = if k = 5 then nd (inS T M n) n 8 else if k = 8 then M 6 else mkC w T g (ndA w n 0) k)
    (h1 : ∀ k, F (ndA w n 1) k = if 0 ≤ k ∧ k < nd (inS T M n) n 8 then mkC w T g (ndA w n 1) (k + (M 6 - nd T n 4)) else mkC w T g (ndA w n 1) k)
    (h2 : ∀ k, F (ndA w n 2) k = if k = 0 then M 6 else if k = 1 then M 7 else if k = 2 then M 8 else if k = 3 then M 9 else mkC w T g (ndA w n 2) k)
    (h3 : ∀ k, F (ndA w n 3) k = if 0 ≤ k ∧ k < 8 then M (11 + k) else mkC w T g (ndA w n 3) k)
    (h4 : ∀ k, F (ndA w n 4) k = if 0 ≤ k ∧ k < 8 then M (11 + k) else mkC w T g (ndA w n 4) k)
    (h5 : ∀ p k, 5 ≤ p → p < 8 → F (ndA w n p) k = mkC w T g (ndA w n p) k) : F = mkC w (inS T M n) (mkC w T g) := by
  obtain ⟨-, n3, n4, n5, n6⟩ := OK_nOk ho hn
  obtain ⟨k1, k2⟩ := OK_kOk ho hn
  have o : ∀ e, 0 ≤ e → e < 52 → ¬ (15 ≤ e ∧ e < 31) → e < 4 ∨ 10 ≤ e → nd (inS T M n) n e = nd T n e := fun e a b c d => inS_o ⟨a, b⟩ c d
  have in8 := in1_8 ho hn (i := M 6) (t := M 7)
  have e8 : nd (inS T M n) n 8 = max 0 (nd (in1 T n (M 6) (M 7)) n 8 - (M 6 - nd T n 4)) := inS_8
  refine mk_node hn (fun j hj => inS_off ho hn (by omega) (by omega)) hout (fun p k hp => ?_)
  have hp8 : p = 0 ∨ p = 1 ∨ p = 2 ∨ p = 3 ∨ p = 4 ∨ p = 5 ∨ p = 6 ∨ p = 7 := by omega
  rcases hp8 with rfl | rfl | rfl | rfl | rfl | rfl | rfl | rfl
  · rw [h0, mkC_N hn hp]
    generalize g (ndA w n 0) k = x
    simp only [ndC]
    rw [o 0 (by omega) (by omega) (by omega) (by omega), o 1 (by omega) (by omega) (by omega) (by omega), o 2 (by omega) (by omega) (by omega) (by omega), o 3 (by omega) (by omega) (by omega) (by omega), inS_9, o 10 (by omega) (by omega) (by omega) (by omega), o 11 (by omega) (by omega) (by omega) (by omega), o 12 (by omega) (by omega) (by omega) (by omega), o 13 (by omega) (by omega) (by omega) (by omega), o 14 (by omega) (by omega) (by omega) (by omega)]
    generalize nd (inS T M n) n 8 = y
    grind (splits := 60)
  · rw [h1]
    by_cases hk : 0 ≤ k ∧ k < nd (inS T M n) n 8
    · rw [if_pos hk, mkC_N hn hp, ndC_1, ndC_1, if_pos (by omega), if_pos (by omega)]
      have l2 : lpS T n (M 6 + 1 + k) = 244 * n + (52 + 4 * (k + (M 6 - nd T n 4))) := by unfold lpS; omega
      have t : ∀ q, 0 ≤ q ∧ q < 4 → nd (inS T M n) n (52 + 4 * k + q) = nd T n (52 + 4 * (k + (M 6 - nd T n 4)) + q) := by
        intro q hq
        have := (inS_en (M := M) ho hn (by omega) hk hq).1
        rw [this, l2]
        show T _ = T _
        congr 1; omega
      have t0 := t 0 (by omega)
      rw [Int.add_zero, Int.add_zero] at t0
      simp only [pk]
      rw [t0, t 1 (by omega), t 2 (by omega), t 3 (by omega)]
    · rw [if_neg hk, ndC_1, if_neg (by omega)]
  · rw [h2, mkC_N hn hp]
    simp only [ndC_2]
    rw [inS_4, inS_5, inS_6, inS_7]
  · rw [h3, mkC_N hn hp]
    simp only [ndC_3]
    by_cases hk : 0 ≤ k ∧ k < 8
    · simp only [if_pos hk]
      rw [inS_e (by omega), if_pos (by omega)]; congr 1; omega
    · simp only [if_neg hk]
  · rw [h4, mkC_N hn hp]
    simp only [ndC_4]
    by_cases hk : 0 ≤ k ∧ k < 8
    · simp only [if_pos hk]
      rw [inS_e (by omega), if_neg (by omega), if_pos (by omega)]; congr 1; omega
    · simp only [if_neg hk]
  all_goals
    rw [h5 _ _ (by omega) (by omega), mkC_N hn hp]
    simp only [ndC]
    rw [o 3 (by omega) (by omega) (by omega) (by omega)]
    by_cases hk : 0 ≤ k ∧ k < 7
    · have a1 := o (31 + k) (by omega) (by omega) (by omega) (by omega)
      have a2 := o (38 + k) (by omega) (by omega) (by omega) (by omega)
      have a3 := o (45 + k) (by omega) (by omega) (by omega) (by omega)
      grind (splits := 60)
    · simp [hk]
end In
section CS
variable {l : Launch} {V : qV} {d : Nat} {s : qS} {w : Nat} {S : qN} {c g r : qI} {R n : Int} {Q : Option Value → qH → Prop}
def stC (c : qI) (a a' b b' : Nat) : qI := cp (up (up (up (up c a 0 (c b 0)) a 1 (c b 1)) a 2 (c b 2)) a 3 (c b 3)) b' 0 a' 0 8
theorem C_snapR (hd : 3 ≤ d) {a a' b b' : Nat} (h1 : ∀ m, hK (mkH s m) a = (6, 0)) (h2 : ∀ m, hR (mkH s m) a 4 = a') (h3 : ∀ m, hK (mkH s m) a' = (100, 8)) (h4 : ∀ m, hK (mkH s m) b = (6, 0)) (h5 : ∀ m, hR (mkH s m) b 4 = b') (h6 : ∀ m, hK (mkH s m) b' = (100, 8)) (hl : a < 2198 ∧ a' < 2198 ∧ b < 2198 ∧ b' < 2198) (hab : a ≠ b) : T l V mi_Snap_takeAll (rm d) 0 0 [.ref a, .ref b] (mkH s (jn c r)) (fun v h' => v = none ∧ h' = mkH s (jn (stC c a a' b b') r)) := by
  refine T_ev qm_Snap_takeAll [.ref a, .ref b] rfl rfl (Nat.le_of_ble_eq_true rfl) ok_Snap_takeAll (smL_ok (d := d - 1) (by omega)) (fun _ => false) 200 (by omega) (fun K kK => ?_)
  have rb : ∀ (c : qI) k, hM (mkH s (jn c r)) b k = Int32.ofInt (c b k) := fun c k => hM_c hl.2.2.1
  have sa : ∀ (c : qI) k v, setM (mkH s (jn c r)) a k (Int32.ofInt v) = mkH s (jn (up c a k v) r) := fun c k v => set_c hl.1
  have ca : ∀ (c : qI), cpyM (mkH s (jn c r)) b' 0 a' 0 8 = mkH s (jn (cp c b' 0 a' 0 8) r) := fun c => cpy_c hl.2.2.2 hl.2.1
  have ub : ∀ (c : qI) k v j, up c a k v b j = c b j := fun c k v j => up_ne (Or.inl (Ne.symm hab))
  simp (disch := omega) only [ev_s, evN_ap, List.getElem?_cons_zero, List.getElem?_cons_succ, List.set_cons_zero, List.set_cons_succ, Bool.false_eq_true, ↓reduceIte, qrest_n, qrest_1, qrest_2, qrest_3, qrest_4, qrest_5, qrest_6, qtr_i, qtr_r, true_and, and_true, List.length_cons, List.length_nil, Int.cast_ofNat_Int, Int32.toInt_zero, false_implies, true_implies, not_false_eq_true, not_true_eq_false, Option.toList_some, Option.toList_none, List.cons_append, List.nil_append, Nat.reduceBEq, Nat.reduceEqDiff, Bool.or_self, or_self, Nat.reduceAdd, Nat.reduceLT, Nat.zero_add, Int.reduceAdd, Int.reduceLE, Int.reduceLT, Int.reduceEq, and_self, Int.reduceNeg, qrok_i, qrok_b0, qrok_b1, qrok_bI, Option.some.injEq, Value.int.injEq, J_bI0, J_bI1, Classical.not_not, Int.zero_add, Int.add_zero, Int.sub_zero, false_and, and_false, and_true, true_and, e_0, v_0, e_2, v_2, e_19, v_19, e_20, v_20, e_21, v_21, e_33, v_33, e_41, r_Snap_takeAll_0, r_Snap_takeAll_1, r_Snap_takeAll_2, r_Snap_takeAll_5, r_Snap_takeAll_8, r_Snap_takeAll_9, r_Snap_takeAll_10, r_Snap_takeAll_13, r_Snap_takeAll_16, r_Snap_takeAll_17, r_Snap_takeAll_18, r_Snap_takeAll_21, r_Snap_takeAll_24, r_Snap_takeAll_25, r_Snap_takeAll_26, r_Snap_takeAll_29, r_Snap_takeAll_32, r_Snap_takeAll_33, r_Snap_takeAll_36, r_Snap_takeAll_37, r_Snap_takeAll_38, r_Snap_takeAll_41, r_Snap_takeAll_42, r_Snap_takeAll_44, r_Snap_takeAll_47, h1, h2, h3, h4, h5, h6, rb, sa, ca, ub, I_val, stC]
  repeat' (first | with_reducible apply And.intro | intro _)
  all_goals try (clear kK; omega)
  all_goals first | omega | rfl | trivial
set_option maxHeartbeats 2000000 in
set_option maxRecDepth 100000 in
theorem C_Node_install (hd : 5 ≤ d) (hw : 8 ≤ w ∧ w ≤ 1462) (hS : ShW s w) {n : Int} {M : qN} {o : Nat} (hn : 0 ≤ n ∧ n ≤ 6) (ho : OK R S) (hio : isMO w o) (hg : MgC g o M) (hMo : MOK R M) (hk : M 2 = 4) (hi : nd S n 9 < M 6) : T l V mi_Node_install (rm d) 0 0 [.ref (ndA w n 0), .ref (o+2)] (mkH s (jn (mkC w S g) r)) (fun v h' => v = none ∧ ∃ g', h' = mkH s (jn (mkC w (inS S M n) g') r) ∧ FrN w g g') := by
  refine T_ev qm_Node_install [.ref (ndA w n 0), .ref (o+2), .retAddr 0] rfl rfl (Nat.le_of_ble_eq_true rfl) ok_Node_install (smL_ok (d := d - 1) (by omega)) (fun pc => pc == 48) 200 (by omega) (fun K kK => ?_)
  obtain ⟨-, n3, n4, n5, n6⟩ := OK_nOk ho hn
  obtain ⟨k1, k2⟩ := OK_kOk ho hn
  obtain ⟨-, -, -, -, -, ez, -⟩ := hg
  obtain ⟨z0, z1, z2, z3, z9, zk⟩ := ez hk
  have m2 := hMo.2.2.2.2.2.1 hk
  have hlt2 := (MO_lt hw hio (i := 2) (by omega)).1
  have hlt3 := (MO_lt hw hio (i := 3) (by omega)).1
  have key : ∀ (x2 : Value) (i m' : Int), nd S n 4 ≤ i → i ≤ 2000 → m' = nd S n 8 - min (i - nd S n 4) (nd S n 8) → m' = nd (inS S M n) n 8 → (m' = 0 ∨ i = M 6) → G l V mi_Node_install (rm d) 0 0 (fun v h' => v = none ∧ ∃ g', h' = mkH s (jn (mkC w (inS S M n) g') r) ∧ FrN w g g') 0 0 48 [.ref (ndA w n 0), .ref (o + 2), x2] [.int (Int32.ofInt i), .ref (ndA w n 0)] (mkH s (jn (mkC w S g) r)) := by
    intro x2 i m' hi1 hi2 hm' hm8 hor
    refine (GCD ok_Node_install r_Node_install_48 ⟨by decide, by decide⟩ qm_Node_dropUpTo (C_dropUpTo (d := d - 1) (c := mkC w S g) (b := nd S n 4) (m := nd S n 8) (i := i) (by omega) hw hS hn (by rw [mkC_N hn (by omega)]; simp [ndC]) (by rw [mkC_N hn (by omega)]; simp [ndC]) (by omega) (by omega) (by omega)) rfl rfl (fun _ => by first | exact rcN hS (by omega) | exact rcW hS | exact rcG hS (by assumption) | exact rcL hS | exact rcN2 hS (by omega) | exact rcG2 hS (by assumption)) rfl (Nat.le_of_ble_eq_true rfl) (by omega) ?_)
    have D2 : ∀ k, drC (mkC w S g) w n (min (i - nd S n 4) (nd S n 8)) (nd S n 8) (o + 2) k = g (o + 2) k := by
      intro k
      have this := MO_off hio (i := 2) (by omega)
      have h0 : o + 2 ≠ ndA w n 0 := fun q => ndA_off (w := w) (p := 0) hn (by omega) (q ▸ this)
      have h1 : o + 2 ≠ ndA w n 1 := fun q => ndA_off (w := w) (p := 1) hn (by omega) (q ▸ this)
      simp only [drC, drL, h1, false_and, if_false]
      rw [up_ne (Or.inl h0), mkC_o this]
    have D3 : ∀ k, drC (mkC w S g) w n (min (i - nd S n 4) (nd S n 8)) (nd S n 8) (o + 3) k = g (o + 3) k := by
      intro k
      have this := MO_off hio (i := 3) (by omega)
      have h0 : o + 3 ≠ ndA w n 0 := fun q => ndA_off (w := w) (p := 0) hn (by omega) (q ▸ this)
      have h1 : o + 3 ≠ ndA w n 1 := fun q => ndA_off (w := w) (p := 1) hn (by omega) (q ▸ this)
      simp only [drC, drL, h1, false_and, if_false]
      rw [up_ne (Or.inl h0), mkC_o this]
    generalize hD : drC (mkC w S g) w n (min (i - nd S n 4) (nd S n 8)) (nd S n 8) = D at D2 D3 ⊢
    refine G_ev ok_Node_install (smL_ok (d := d - 1) (by omega)) (fun _ => false) 200 (by omega) (fun K kK => ?_)
    simp (disch := omega) only [ev_s, evN_ap, List.getElem?_cons_zero, List.getElem?_cons_succ, List.set_cons_zero, List.set_cons_succ, Bool.false_eq_true, ↓reduceIte, qrest_n, qrest_1, qrest_2, qrest_3, qrest_4, qrest_5, qrest_6, qtr_i, qtr_r, true_and, and_true, List.length_cons, List.length_nil, Int.cast_ofNat_Int, Int32.toInt_zero, false_implies, true_implies, not_false_eq_true, not_true_eq_false, Option.toList_some, Option.toList_none, List.cons_append, List.nil_append, Nat.reduceBEq, Nat.reduceEqDiff, Bool.or_self, or_self, Nat.reduceAdd, Nat.reduceLT, Nat.zero_add, Int.reduceAdd, Int.reduceLE, Int.reduceLT, Int.reduceEq, and_self, Int.reduceNeg, qrok_i, qrok_b0, qrok_b1, qrok_bI, Option.some.injEq, Value.int.injEq, J_bI0, J_bI1, Classical.not_not, Int.zero_add, Int.add_zero, Int.sub_zero, false_and, and_false, and_true, true_and, e_0, v_0, e_1, v_1, e_2, v_2, e_3, v_3, e_13, v_13, e_14, v_14, e_15, v_15, e_19, v_19, e_20, v_20, e_21, v_21, e_33, v_33, e_41, e_44, qspl_z, qspl_s, evC_s, evD_none, evD_v, evD_s, c_0, c_1, smL_34, sw_Node_last, smL_35, sw_Node_entry, smL_36, sw_Node_termAt, (smL_no (k := 47) rfl), (smL_no (k := 77) rfl), r_Node_install_0, r_Node_install_1, r_Node_install_2, r_Node_install_5, r_Node_install_8, r_Node_install_11, r_Node_install_12, r_Node_install_13, r_Node_install_16, r_Node_install_19, r_Node_install_20, r_Node_install_23, r_Node_install_26, r_Node_install_27, r_Node_install_30, r_Node_install_31, r_Node_install_32, r_Node_install_33, r_Node_install_34, r_Node_install_37, r_Node_install_38, r_Node_install_41, r_Node_install_44, r_Node_install_45, r_Node_install_48, r_Node_install_51, r_Node_install_52, r_Node_install_55, r_Node_install_56, r_Node_install_59, r_Node_install_60, r_Node_install_61, r_Node_install_64, r_Node_install_67, r_Node_install_68, r_Node_install_71, r_Node_install_72, r_Node_install_73, r_Node_install_76, r_Node_install_77, r_Node_install_79, r_Node_install_82, sv_k hS, sv_0 hS, sv_1 hS, sv_k1 hS, sv_n hS, sv_2 hS, sv_k2 hS, sv_b, sv_4, sv_5 hS, sv_k7 hS, sv_r hS, sv_kr hS, sv_7 hS, sv_k8 hS, sv_10 hS, sv_k9 hS, sv_11 hS, sv_k10 hS, sn_k hS, sn_4 hS, sn_k1 hS, sn_6 hS, sn_k2 hS, sn_24 hS, sn_k3 hS, sn_9 hS, sn_k4 hS, sn_13 hS, sn_k5 hS, sn_14 hS, sn_k6 hS, sn_15 hS, sn_k7 hS, sl_k hS, sl_2 hS, sl_k4 hS, sl_3 hS, sl_k5 hS, sl_4 hS, sl_k6 hS, sl_5 hS, sl_k7 hS, hM_cN, set_cN, cpy_cN, I_val, I_add, I_sub, I_mul, inB, beq_iff_eq, or_false, false_or, Bool.or_eq_true, Bool.or_false, Bool.false_or, bI_z, mnJ, mxJ]
    refine kK _ _ _ _ (GCD ok_Node_install r_Node_install_56 ⟨by decide, by decide⟩ qm_Snap_takeAll (C_snapR (d := d - 1) (a := ndA w n 2) (a' := ndA w n 3) (b := o + 2) (b' := o + 3) (by omega) (fun m => sn_k2 hS hn) (fun m => sn_24 hS hn) (fun m => sn_k3 hS hn) (fun m => sg_k2 hS hio) (fun m => sg_24 hS hio) (fun m => sg_k3 hS hio) ⟨ndA_lt hw hn (by omega), ndA_lt hw hn (by omega), hlt2, hlt3⟩ (fun q => ndA_off (w := w) (p := 2) hn (by omega) (q ▸ MO_off hio (i := 2) (by omega)))) rfl rfl (fun _ => by first | exact rcN hS (by omega) | exact rcW hS | exact rcG hS (by assumption) | exact rcL hS | exact rcN2 hS (by omega) | exact rcG2 hS (by assumption)) rfl (Nat.le_of_ble_eq_true rfl) (by omega) ?_)
    have ne : ∀ (q p : Nat), q < 4 → p < 8 → o + q ≠ ndA w n p := fun q p hq hp e => ndA_off (w := w) hn hp (e ▸ MO_off hio hq)
    have E2 : ∀ k, stC D (ndA w n 2) (ndA w n 3) (o + 2) (o + 3) (o + 2) k = g (o + 2) k := by
      intro k
      unfold stC cp up
      rw [if_neg (fun q => ne 2 3 (by omega) (by omega) q.1), if_neg (fun q => ne 2 2 (by omega) (by omega) q.1), if_neg (fun q => ne 2 2 (by omega) (by omega) q.1), if_neg (fun q => ne 2 2 (by omega) (by omega) q.1), if_neg (fun q => ne 2 2 (by omega) (by omega) q.1), D2]
    have E3 : ∀ k, stC D (ndA w n 2) (ndA w n 3) (o + 2) (o + 3) (o + 3) k = g (o + 3) k := by
      intro k
      unfold stC cp up
      rw [if_neg (fun q => ne 3 3 (by omega) (by omega) q.1), if_neg (fun q => ne 3 2 (by omega) (by omega) q.1), if_neg (fun q => ne 3 2 (by omega) (by omega) q.1), if_neg (fun q => ne 3 2 (by omega) (by omega) q.1), if_neg (fun q => ne 3 2 (by omega) (by omega) q.1), D3]
    have Ep : ∀ p k, p < 8 → p ≠ 2 → p ≠ 3 → stC D (ndA w n 2) (ndA w n 3) (o + 2) (o + 3) (ndA w n p) k = D (ndA w n p) k := by
      intro p k h1 h2 h3
      simp [stC, cp, up, ndA_eq, h2, h3]
    have Eo : ∀ a k, a ≠ ndA w n 2 → a ≠ ndA w n 3 → stC D (ndA w n 2) (ndA w n 3) (o + 2) (o + 3) a k = D a k := by
      intro a k h2 h3
      simp [stC, cp, up, h2, h3]
    have Es2 : ∀ k, stC D (ndA w n 2) (ndA w n 3) (o + 2) (o + 3) (ndA w n 2) k = if k = 0 then M 6 else if k = 1 then M 7 else if k = 2 then M 8 else if k = 3 then M 9 else D (ndA w n 2) k := by
      intro k
      unfold stC cp up
      rw [if_neg (fun q => by rw [ndA_eq] at q; omega), D2, D2, D2, D2, z0, z1, z2, z3]
      simp only [ndA_eq]
      grind
    have Es3 : ∀ k, stC D (ndA w n 2) (ndA w n 3) (o + 2) (o + 3) (ndA w n 3) k = if 0 ≤ k ∧ k < 8 then M (11 + k) else D (ndA w n 3) k := by
      intro k
      unfold stC cp
      by_cases hk : 0 ≤ k ∧ k < 8
      · rw [if_pos ⟨rfl, by omega, by omega⟩, if_pos hk]
        simp only [up]
        rw [if_neg (fun q => ne 3 2 (by omega) (by omega) q.1), if_neg (fun q => ne 3 2 (by omega) (by omega) q.1), if_neg (fun q => ne 3 2 (by omega) (by omega) q.1), if_neg (fun q => ne 3 2 (by omega) (by omega) q.1), D3, ← zk k hk.1 hk.2]
        congr 1; omega
      · rw [if_neg (by omega), if_neg hk]
        simp [up, ndA_eq]
    generalize stC D (ndA w n 2) (ndA w n 3) (o + 2) (o + 3) = E at *
    have r2 : ∀ (c : qI) k, hM (mkH s (jn c r)) (o + 2) k = Int32.ofInt (c (o + 2) k) := fun c k => hM_c hlt2
    have uo : ∀ (c : qI) k v j, up c (ndA w n 0) k v (o + 2) j = c (o + 2) j := fun c k v j => up_ne (Or.inl (ne 2 0 (by omega) (by omega)))
    have ck : ∀ (c : qI), cpyM (mkH s (jn c r)) (o + 3) 0 (ndA w n 4) 0 8 = mkH s (jn (cp c (o + 3) 0 (ndA w n 4) 0 8) r) := fun c => cpy_c hlt3 (ndA_lt hw hn (by omega))
    refine G_ev ok_Node_install (smL_ok (d := d - 1) (by omega)) (fun _ => false) 200 (by omega) (fun K kK => ?_)
    simp (disch := omega) only [ev_s, evN_ap, List.getElem?_cons_zero, List.getElem?_cons_succ, List.set_cons_zero, List.set_cons_succ, Bool.false_eq_true, ↓reduceIte, qrest_n, qrest_1, qrest_2, qrest_3, qrest_4, qrest_5, qrest_6, qtr_i, qtr_r, true_and, and_true, List.length_cons, List.length_nil, Int.cast_ofNat_Int, Int32.toInt_zero, false_implies, true_implies, not_false_eq_true, not_true_eq_false, Option.toList_some, Option.toList_none, List.cons_append, List.nil_append, Nat.reduceBEq, Nat.reduceEqDiff, Bool.or_self, or_self, Nat.reduceAdd, Nat.reduceLT, Nat.zero_add, Int.reduceAdd, Int.reduceLE, Int.reduceLT, Int.reduceEq, and_self, Int.reduceNeg, qrok_i, qrok_b0, qrok_b1, qrok_bI, Option.some.injEq, Value.int.injEq, J_bI0, J_bI1, Classical.not_not, Int.zero_add, Int.add_zero, Int.sub_zero, false_and, and_false, and_true, true_and, e_0, v_0, e_1, v_1, e_2, v_2, e_3, v_3, e_13, v_13, e_14, v_14, e_15, v_15, e_19, v_19, e_20, v_20, e_21, v_21, e_33, v_33, e_41, e_44, qspl_z, qspl_s, evC_s, evD_none, evD_v, evD_s, c_0, c_1, smL_34, sw_Node_last, smL_35, sw_Node_entry, smL_36, sw_Node_termAt, (smL_no (k := 47) rfl), (smL_no (k := 77) rfl), r_Node_install_0, r_Node_install_1, r_Node_install_2, r_Node_install_5, r_Node_install_8, r_Node_install_11, r_Node_install_12, r_Node_install_13, r_Node_install_16, r_Node_install_19, r_Node_install_20, r_Node_install_23, r_Node_install_26, r_Node_install_27, r_Node_install_30, r_Node_install_31, r_Node_install_32, r_Node_install_33, r_Node_install_34, r_Node_install_37, r_Node_install_38, r_Node_install_41, r_Node_install_44, r_Node_install_45, r_Node_install_48, r_Node_install_51, r_Node_install_52, r_Node_install_55, r_Node_install_56, r_Node_install_59, r_Node_install_60, r_Node_install_61, r_Node_install_64, r_Node_install_67, r_Node_install_68, r_Node_install_71, r_Node_install_72, r_Node_install_73, r_Node_install_76, r_Node_install_77, r_Node_install_79, r_Node_install_82, sv_k hS, sv_0 hS, sv_1 hS, sv_k1 hS, sv_n hS, sv_2 hS, sv_k2 hS, sv_b, sv_4, sv_5 hS, sv_k7 hS, sv_r hS, sv_kr hS, sv_7 hS, sv_k8 hS, sv_10 hS, sv_k9 hS, sv_11 hS, sv_k10 hS, sn_k hS, sn_4 hS, sn_k1 hS, sn_6 hS, sn_k2 hS, sn_24 hS, sn_k3 hS, sn_9 hS, sn_k4 hS, sn_13 hS, sn_k5 hS, sn_14 hS, sn_k6 hS, sn_15 hS, sn_k7 hS, sl_k hS, sl_2 hS, sl_k4 hS, sl_3 hS, sl_k5 hS, sl_4 hS, sl_k6 hS, sl_5 hS, sl_k7 hS, hM_cN, set_cN, cpy_cN, I_val, I_add, I_sub, I_mul, inB, beq_iff_eq, or_false, false_or, Bool.or_eq_true, Bool.or_false, Bool.false_or, bI_z, mnJ, mxJ, sg_k2 hS hio, sg_24 hS hio, sg_k3 hS hio, r2, uo, ck, E2, z0]
    repeat refine And.intro (by omega) ?_
    refine ⟨mkC w S g, congrArg (fun c => mkH s (jn c r)) ?_, FrN_mk⟩
    have d0 : ∀ k, D (ndA w n 0) k = if k = 5 then m' else mkC w S g (ndA w n 0) k := by
      intro k; rw [← hD]; simp [drC, drL, up, ndA_eq, hm']
    have d1 : ∀ k, D (ndA w n 1) k = if 0 ≤ k ∧ k < m' then mkC w S g (ndA w n 1) (k + min (i - nd S n 4) (nd S n 8)) else mkC w S g (ndA w n 1) k := by
      intro k; rw [← hD]; simp [drC, drL, up, ndA_eq, hm']
    have dp : ∀ p k, 2 ≤ p → p < 8 → D (ndA w n p) k = mkC w S g (ndA w n p) k := by
      intro p k h1 h2; rw [← hD]; simp [drC, drL, up, ndA_eq, show p ≠ 0 by omega, show p ≠ 1 by omega]
    have dO : ∀ a k, (∀ p, p < 8 → a ≠ ndA w n p) → D a k = mkC w S g a k := by
      intro a k h; rw [← hD]; simp [drC, drL, up, h 0, h 1]
    refine in_fin hn ho hi (by omega) (fun a k h => ?_) (fun k => ?_) (fun k => ?_) (fun k => ?_) (fun k => ?_) (fun k => ?_) (fun p k h1 h2 => ?_)
    · unfold cp up
      rw [if_neg (fun q => h 4 (by omega) q.1), if_neg (fun q => h 0 (by omega) q.1), Eo _ _ (h 2 (by omega)) (h 3 (by omega)), dO _ _ h]
    · unfold cp up
      rw [if_neg (fun q => by have := q.1; rw [ndA_eq] at this; omega), Ep 0 k (by omega) (by omega) (by omega), d0, hm8]
      grind
    · unfold cp up
      rw [if_neg (fun q => by have := q.1; rw [ndA_eq] at this; omega), if_neg (fun q => by have := q.1; rw [ndA_eq] at this; omega), Ep 1 k (by omega) (by omega) (by omega), d1, ← hm8]
      by_cases hk : 0 ≤ k ∧ k < m'
      · rw [if_pos hk, if_pos hk]; congr 1; omega
      · rw [if_neg hk, if_neg hk]
    · unfold cp up
      rw [if_neg (fun q => by have := q.1; rw [ndA_eq] at this; omega), if_neg (fun q => by have := q.1; rw [ndA_eq] at this; omega), Es2, dp 2 k (by omega) (by omega)]
    · unfold cp up
      rw [if_neg (fun q => by have := q.1; rw [ndA_eq] at this; omega), if_neg (fun q => by have := q.1; rw [ndA_eq] at this; omega), Es3, dp 3 k (by omega) (by omega)]
    · unfold cp
      by_cases hk : 0 ≤ k ∧ k < 8
      · rw [if_pos ⟨rfl, by omega, by omega⟩, if_pos hk, up_ne (Or.inl (ne 3 0 (by omega) (by omega))), E3, ← zk k hk.1 hk.2]
        congr 1; omega
      · rw [if_neg (by omega), if_neg hk, up_ne (Or.inl (fun q => by rw [ndA_eq] at q; omega)), Ep 4 k (by omega) (by omega) (by omega), dp 4 k (by omega) (by omega)]
    · unfold cp up
      rw [if_neg (fun q => by have := q.1; rw [ndA_eq] at this; omega), if_neg (fun q => by have := q.1; rw [ndA_eq] at this; omega), Ep p k h2 (by omega) (by omega), dp p k (by omega) h2]
  have in8 := in1_8 ho hn (i := M 6) (t := M 7)
  have e8 : nd (inS S M n) n 8 = max 0 (nd (in1 S n (M 6) (M 7)) n 8 - (M 6 - nd S n 4)) := inS_8
  by_cases hE : hasE S n (M 6)
  · have hp := pkR_S ho hn hE
    have hE1 := (OK_E ho hn hE.1 hE.2).1
    have ee : enS S n (M 6) = pkv (S (lpS S n (M 6))) (S (lpS S n (M 6) + 1)) (S (lpS S n (M 6) + 2)) (S (lpS S n (M 6) + 3)) := by unfold enS; rw [if_pos hE, pk_v]
    have hpr := pkv_rng hp
    have hpos : pkv (S (lpS S n (M 6))) (S (lpS S n (M 6) + 1)) (S (lpS S n (M 6) + 2)) (S (lpS S n (M 6) + 3)) ≠ 0 := by unfold pkv; unfold pkR at hp; omega
    have htA := tA_rng ho hn (i := M 6) (by omega) hE.2
    have htC := tC_eq (S := S) (n := n) (i := M 6) (by omega)
    by_cases ht : tAS S n (M 6) = M 7
    · have e1 : nd (in1 S n (M 6) (M 7)) n 8 = nd S n 8 := by unfold in1; rw [if_pos ⟨hE, ht⟩]
      have kk := fun x2 => key x2 (M 6) (nd S n 8 - (M 6 - nd S n 4)) (by omega) (by omega) (by omega) (by omega) (Or.inr rfl)
      simp (disch := omega) only [ev_s, evN_ap, List.getElem?_cons_zero, List.getElem?_cons_succ, List.set_cons_zero, List.set_cons_succ, Bool.false_eq_true, ↓reduceIte, qrest_n, qrest_1, qrest_2, qrest_3, qrest_4, qrest_5, qrest_6, qtr_i, qtr_r, true_and, and_true, List.length_cons, List.length_nil, Int.cast_ofNat_Int, Int32.toInt_zero, false_implies, true_implies, not_false_eq_true, not_true_eq_false, Option.toList_some, Option.toList_none, List.cons_append, List.nil_append, Nat.reduceBEq, Nat.reduceEqDiff, Bool.or_self, or_self, Nat.reduceAdd, Nat.reduceLT, Nat.zero_add, Int.reduceAdd, Int.reduceLE, Int.reduceLT, Int.reduceEq, and_self, Int.reduceNeg, qrok_i, qrok_b0, qrok_b1, qrok_bI, Option.some.injEq, Value.int.injEq, J_bI0, J_bI1, Classical.not_not, Int.zero_add, Int.add_zero, Int.sub_zero, false_and, and_false, and_true, true_and, e_0, v_0, e_1, v_1, e_2, v_2, e_3, v_3, e_13, v_13, e_14, v_14, e_15, v_15, e_19, v_19, e_20, v_20, e_21, v_21, e_33, v_33, e_41, e_44, qspl_z, qspl_s, evC_s, evD_none, evD_v, evD_s, c_0, c_1, smL_34, sw_Node_last, smL_35, sw_Node_entry, smL_36, sw_Node_termAt, (smL_no (k := 47) rfl), (smL_no (k := 77) rfl), r_Node_install_0, r_Node_install_1, r_Node_install_2, r_Node_install_5, r_Node_install_8, r_Node_install_11, r_Node_install_12, r_Node_install_13, r_Node_install_16, r_Node_install_19, r_Node_install_20, r_Node_install_23, r_Node_install_26, r_Node_install_27, r_Node_install_30, r_Node_install_31, r_Node_install_32, r_Node_install_33, r_Node_install_34, r_Node_install_37, r_Node_install_38, r_Node_install_41, r_Node_install_44, r_Node_install_45, r_Node_install_48, r_Node_install_51, r_Node_install_52, r_Node_install_55, r_Node_install_56, r_Node_install_59, r_Node_install_60, r_Node_install_61, r_Node_install_64, r_Node_install_67, r_Node_install_68, r_Node_install_71, r_Node_install_72, r_Node_install_73, r_Node_install_76, r_Node_install_77, r_Node_install_79, r_Node_install_82, sv_k hS, sv_0 hS, sv_1 hS, sv_k1 hS, sv_n hS, sv_2 hS, sv_k2 hS, sv_b, sv_4, sv_5 hS, sv_k7 hS, sv_r hS, sv_kr hS, sv_7 hS, sv_k8 hS, sv_10 hS, sv_k9 hS, sv_11 hS, sv_k10 hS, sn_k hS, sn_4 hS, sn_k1 hS, sn_6 hS, sn_k2 hS, sn_24 hS, sn_k3 hS, sn_9 hS, sn_k4 hS, sn_13 hS, sn_k5 hS, sn_14 hS, sn_k6 hS, sn_15 hS, sn_k7 hS, sl_k hS, sl_2 hS, sl_k4 hS, sl_3 hS, sl_k5 hS, sl_4 hS, sl_k6 hS, sl_5 hS, sl_k7 hS, rn_0, rn_1, rn_2, rn_3, rn_5, rn_7, rn_8, rn_10, rn_11, rn_12, rn_16, rn_17, rn_log, rn_20, rn_21, rn_22, rn_23, rn_sk, rn_key, rn_next, rn_match, rn_heard, rw_3, rw_6, rw_8, rw_9, rw_12, rw_13, rw_14, rw_15, rw_he, rw_ld, rw_cu, rr_0, rr_1, rr_2, rr_3, rr_4, rr_5, su_2, su_8, su_10, su_12, su_16, su_17, su_20, su_21, su_22, su_23, su_sk, su_key, su_next, su_match, su_heard, su_3m, su_3, su_11m, su_11, su_7, sw_3, sw_8, sw_12, sw_13, sw_14, sw_15, sw_ld, sw_cu, sr_0, sr_5, I_val, I_add, I_sub, I_mul, inB, beq_iff_eq, or_false, false_or, u1_ne, u1_same, nd_u1, nd_u1s, lpS_u1, Bool.or_eq_true, Bool.or_false, Bool.false_or, bI_z, mnI_I, mxI_I, sg_k2 hS hio, rv_i hw hio, z0, z1, enI_S hw hS ho, tmI_S hw hS ho, htC, ee]
      repeat' (first | with_reducible apply And.intro | intro _)
      all_goals try (clear kK; omega)
      all_goals first | omega | exact kK _ _ _ _ (kk _) | contradiction
    · have e1 : nd (in1 S n (M 6) (M 7)) n 8 = 0 := by unfold in1; rw [if_neg (fun q => ht q.2), nd_u1s]
      have kk := fun x2 => key x2 (nd S n 4 + nd S n 8) 0 (by omega) (by omega) (by omega) (by omega) (Or.inl rfl)
      simp (disch := omega) only [ev_s, evN_ap, List.getElem?_cons_zero, List.getElem?_cons_succ, List.set_cons_zero, List.set_cons_succ, Bool.false_eq_true, ↓reduceIte, qrest_n, qrest_1, qrest_2, qrest_3, qrest_4, qrest_5, qrest_6, qtr_i, qtr_r, true_and, and_true, List.length_cons, List.length_nil, Int.cast_ofNat_Int, Int32.toInt_zero, false_implies, true_implies, not_false_eq_true, not_true_eq_false, Option.toList_some, Option.toList_none, List.cons_append, List.nil_append, Nat.reduceBEq, Nat.reduceEqDiff, Bool.or_self, or_self, Nat.reduceAdd, Nat.reduceLT, Nat.zero_add, Int.reduceAdd, Int.reduceLE, Int.reduceLT, Int.reduceEq, and_self, Int.reduceNeg, qrok_i, qrok_b0, qrok_b1, qrok_bI, Option.some.injEq, Value.int.injEq, J_bI0, J_bI1, Classical.not_not, Int.zero_add, Int.add_zero, Int.sub_zero, false_and, and_false, and_true, true_and, e_0, v_0, e_1, v_1, e_2, v_2, e_3, v_3, e_13, v_13, e_14, v_14, e_15, v_15, e_19, v_19, e_20, v_20, e_21, v_21, e_33, v_33, e_41, e_44, qspl_z, qspl_s, evC_s, evD_none, evD_v, evD_s, c_0, c_1, smL_34, sw_Node_last, smL_35, sw_Node_entry, smL_36, sw_Node_termAt, (smL_no (k := 47) rfl), (smL_no (k := 77) rfl), r_Node_install_0, r_Node_install_1, r_Node_install_2, r_Node_install_5, r_Node_install_8, r_Node_install_11, r_Node_install_12, r_Node_install_13, r_Node_install_16, r_Node_install_19, r_Node_install_20, r_Node_install_23, r_Node_install_26, r_Node_install_27, r_Node_install_30, r_Node_install_31, r_Node_install_32, r_Node_install_33, r_Node_install_34, r_Node_install_37, r_Node_install_38, r_Node_install_41, r_Node_install_44, r_Node_install_45, r_Node_install_48, r_Node_install_51, r_Node_install_52, r_Node_install_55, r_Node_install_56, r_Node_install_59, r_Node_install_60, r_Node_install_61, r_Node_install_64, r_Node_install_67, r_Node_install_68, r_Node_install_71, r_Node_install_72, r_Node_install_73, r_Node_install_76, r_Node_install_77, r_Node_install_79, r_Node_install_82, sv_k hS, sv_0 hS, sv_1 hS, sv_k1 hS, sv_n hS, sv_2 hS, sv_k2 hS, sv_b, sv_4, sv_5 hS, sv_k7 hS, sv_r hS, sv_kr hS, sv_7 hS, sv_k8 hS, sv_10 hS, sv_k9 hS, sv_11 hS, sv_k10 hS, sn_k hS, sn_4 hS, sn_k1 hS, sn_6 hS, sn_k2 hS, sn_24 hS, sn_k3 hS, sn_9 hS, sn_k4 hS, sn_13 hS, sn_k5 hS, sn_14 hS, sn_k6 hS, sn_15 hS, sn_k7 hS, sl_k hS, sl_2 hS, sl_k4 hS, sl_3 hS, sl_k5 hS, sl_4 hS, sl_k6 hS, sl_5 hS, sl_k7 hS, rn_0, rn_1, rn_2, rn_3, rn_5, rn_7, rn_8, rn_10, rn_11, rn_12, rn_16, rn_17, rn_log, rn_20, rn_21, rn_22, rn_23, rn_sk, rn_key, rn_next, rn_match, rn_heard, rw_3, rw_6, rw_8, rw_9, rw_12, rw_13, rw_14, rw_15, rw_he, rw_ld, rw_cu, rr_0, rr_1, rr_2, rr_3, rr_4, rr_5, su_2, su_8, su_10, su_12, su_16, su_17, su_20, su_21, su_22, su_23, su_sk, su_key, su_next, su_match, su_heard, su_3m, su_3, su_11m, su_11, su_7, sw_3, sw_8, sw_12, sw_13, sw_14, sw_15, sw_ld, sw_cu, sr_0, sr_5, I_val, I_add, I_sub, I_mul, inB, beq_iff_eq, or_false, false_or, u1_ne, u1_same, nd_u1, nd_u1s, lpS_u1, Bool.or_eq_true, Bool.or_false, Bool.false_or, bI_z, mnI_I, mxI_I, sg_k2 hS hio, rv_i hw hio, z0, z1, enI_S hw hS ho, tmI_S hw hS ho, htC, ee]
      repeat' (first | with_reducible apply And.intro | intro _)
      all_goals try (clear kK; omega)
      all_goals first | omega | exact kK _ _ _ _ (kk _) | contradiction
  · have ee : enS S n (M 6) = 0 := by unfold enS; rw [if_neg hE]
    have e1 : nd (in1 S n (M 6) (M 7)) n 8 = 0 := by unfold in1; rw [if_neg (fun q => hE q.1), nd_u1s]
    have kk := fun x2 => key x2 (nd S n 4 + nd S n 8) 0 (by omega) (by omega) (by omega) (by omega) (Or.inl rfl)
    simp (disch := omega) only [ev_s, evN_ap, List.getElem?_cons_zero, List.getElem?_cons_succ, List.set_cons_zero, List.set_cons_succ, Bool.false_eq_true, ↓reduceIte, qrest_n, qrest_1, qrest_2, qrest_3, qrest_4, qrest_5, qrest_6, qtr_i, qtr_r, true_and, and_true, List.length_cons, List.length_nil, Int.cast_ofNat_Int, Int32.toInt_zero, false_implies, true_implies, not_false_eq_true, not_true_eq_false, Option.toList_some, Option.toList_none, List.cons_append, List.nil_append, Nat.reduceBEq, Nat.reduceEqDiff, Bool.or_self, or_self, Nat.reduceAdd, Nat.reduceLT, Nat.zero_add, Int.reduceAdd, Int.reduceLE, Int.reduceLT, Int.reduceEq, and_self, Int.reduceNeg, qrok_i, qrok_b0, qrok_b1, qrok_bI, Option.some.injEq, Value.int.injEq, J_bI0, J_bI1, Classical.not_not, Int.zero_add, Int.add_zero, Int.sub_zero, false_and, and_false, and_true, true_and, e_0, v_0, e_1, v_1, e_2, v_2, e_3, v_3, e_13, v_13, e_14, v_14, e_15, v_15, e_19, v_19, e_20, v_20, e_21, v_21, e_33, v_33, e_41, e_44, qspl_z, qspl_s, evC_s, evD_none, evD_v, evD_s, c_0, c_1, smL_34, sw_Node_last, smL_35, sw_Node_entry, smL_36, sw_Node_termAt, (smL_no (k := 47) rfl), (smL_no (k := 77) rfl), r_Node_install_0, r_Node_install_1, r_Node_install_2, r_Node_install_5, r_Node_install_8, r_Node_install_11, r_Node_install_12, r_Node_install_13, r_Node_install_16, r_Node_install_19, r_Node_install_20, r_Node_install_23, r_Node_install_26, r_Node_install_27, r_Node_install_30, r_Node_install_31, r_Node_install_32, r_Node_install_33, r_Node_install_34, r_Node_install_37, r_Node_install_38, r_Node_install_41, r_Node_install_44, r_Node_install_45, r_Node_install_48, r_Node_install_51, r_Node_install_52, r_Node_install_55, r_Node_install_56, r_Node_install_59, r_Node_install_60, r_Node_install_61, r_Node_install_64, r_Node_install_67, r_Node_install_68, r_Node_install_71, r_Node_install_72, r_Node_install_73, r_Node_install_76, r_Node_install_77, r_Node_install_79, r_Node_install_82, sv_k hS, sv_0 hS, sv_1 hS, sv_k1 hS, sv_n hS, sv_2 hS, sv_k2 hS, sv_b, sv_4, sv_5 hS, sv_k7 hS, sv_r hS, sv_kr hS, sv_7 hS, sv_k8 hS, sv_10 hS, sv_k9 hS, sv_11 hS, sv_k10 hS, sn_k hS, sn_4 hS, sn_k1 hS, sn_6 hS, sn_k2 hS, sn_24 hS, sn_k3 hS, sn_9 hS, sn_k4 hS, sn_13 hS, sn_k5 hS, sn_14 hS, sn_k6 hS, sn_15 hS, sn_k7 hS, sl_k hS, sl_2 hS, sl_k4 hS, sl_3 hS, sl_k5 hS, sl_4 hS, sl_k6 hS, sl_5 hS, sl_k7 hS, rn_0, rn_1, rn_2, rn_3, rn_5, rn_7, rn_8, rn_10, rn_11, rn_12, rn_16, rn_17, rn_log, rn_20, rn_21, rn_22, rn_23, rn_sk, rn_key, rn_next, rn_match, rn_heard, rw_3, rw_6, rw_8, rw_9, rw_12, rw_13, rw_14, rw_15, rw_he, rw_ld, rw_cu, rr_0, rr_1, rr_2, rr_3, rr_4, rr_5, su_2, su_8, su_10, su_12, su_16, su_17, su_20, su_21, su_22, su_23, su_sk, su_key, su_next, su_match, su_heard, su_3m, su_3, su_11m, su_11, su_7, sw_3, sw_8, sw_12, sw_13, sw_14, sw_15, sw_ld, sw_cu, sr_0, sr_5, I_val, I_add, I_sub, I_mul, inB, beq_iff_eq, or_false, false_or, u1_ne, u1_same, nd_u1, nd_u1s, lpS_u1, Bool.or_eq_true, Bool.or_false, Bool.false_or, bI_z, mnI_I, mxI_I, sg_k2 hS hio, rv_i hw hio, z0, z1, enI_S hw hS ho, ee]
    repeat' (first | with_reducible apply And.intro | intro _)
    all_goals try (clear kK; omega)
    all_goals first | omega | exact kK _ _ _ _ (kk _) | contradiction
end CS
