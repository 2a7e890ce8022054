/-! the class's face: law -/
abbrev lwQ (n t6 : Int) : Prop := (1 ≤ n ∧ n ≤ 240) ∧ n ≤ t6
def lwA (t : LwS) : Int := if t.1 = 12 then t.2.1.1 else t.2.2.1.1
/-- a law that stands -/
def LwT (t : LwS) : Prop := t.1 = 13
def KLw (c c' : qI) (t : LwS) (y : Prop) : Prop := ((∀ a, a ≠ 2 → a ≠ 3 → a ≠ 4 → a ≠ 5 → (a < 2190 ∨ 2193 < a) → c' a = c a) ∧ ∀ k, k ≠ 6 → c' 2 k = c 2 k) ∧ SBd (c' 2192) ∧ (y → (c' 3 0 = t.2.2.1.1 ∧ c' 3 1 = t.2.1.2.2.2.1) ∧ (∀ i, 0 ≤ i → i < 320 → c' 4 i = t.2.1.2.2.2.2.1 i ∧ c' 5 i = t.2.1.2.2.2.2.2 i) ∧ SBd t.2.1.2.2.2.2.1) ∧ (¬ y → c' 3 = c 3 ∧ c' 4 = c 4 ∧ c' 5 = c 5)
section CS
variable {l : Launch} {V : qV} {d : Nat} {s : qS} {w : Nat} {c g r : qI} {n i v p z q fa k o p0 z0 : Int} {St Ar : qN} {Q : Option Value → qH → Prop} {X0 : LwS} {K K' : LK} {U : LU} {h : qH} {x1 : Value}
theorem sL_k (h : ShL s) : hK (mkH s c) 3 = (0, 0) := h.1
theorem sL_2 (h : ShL s) : hR (mkH s c) 3 2 = 4 := h.2.1.1
theorem sL_k4 (h : ShL s) : hK (mkH s c) 4 = (100, 320) := h.2.1.2
theorem sL_3 (h : ShL s) : hR (mkH s c) 3 3 = 5 := h.2.2.1.1
theorem sL_k5 (h : ShL s) : hK (mkH s c) 5 = (100, 320) := h.2.2.1.2
theorem rcL3 {m : qI} {as : List Value} (h : ShL s) : ∃ x as', (Value.ref 3 :: as) = .ref x :: as' ∧ (hK (mkH s m) x).1 = 0 ∧ 0 < 10 := ⟨_, as, rfl, by rw [sL_k h], by decide⟩
/-- a law taken over -/
def tkL (c : qI) : qI := cp (cp (up (up c 3 0 (c 2191 0)) 3 1 (c 2191 1)) 2192 0 4 0 320) 2193 0 5 0 320
theorem tkL_0 : tkL c 3 0 = c 2191 0 := by simp [tkL, cp, up]
theorem tkL_1 : tkL c 3 1 = c 2191 1 := by simp [tkL, cp, up]
theorem tkL_4 (hi : 0 ≤ i ∧ i < 320) : tkL c 4 i = c 2192 i := by simp [tkL, cp, up, hi]
theorem tkL_5 (hi : 0 ≤ i ∧ i < 320) : tkL c 5 i = c 2193 i := by simp [tkL, cp, up, hi]
theorem tkL_o {a : Nat} (h : a ≠ 3 ∧ a ≠ 4 ∧ a ≠ 5) : tkL c a = c a := by funext k; simp [tkL, cp, up, h]
set_option maxHeartbeats 2000000 in
set_option maxRecDepth 100000 in
theorem H_Law_takeAll (hd : 3 ≤ d) (hP : ShR s) (hL : ShL s) : T l V mi_Law_takeAll (rm d) 0 0 [.ref (3), .ref (2191)] (mkH s (jn c r)) (fun v h' => v = none ∧ h' = mkH s (jn (tkL c) r)) := by
  refine T_ev qm_Law_takeAll [.ref (3), .ref (2191)] rfl rfl (Nat.le_of_ble_eq_true rfl) ok_Law_takeAll (smL_ok (d := d - 1) (by omega)) (fun _ => false) 200 (by omega) (fun K kK => ?_)
  have ub : ∀ (X : qI) (k v : Int) (j : Int), up X 3 k v 2191 j = X 2191 j := fun X k v j => by simp [up]
  unfold tkL
  unfold tkL at kK
  simp (disch := omega) only [ev_s, evN_ap, List.getElem?_cons_zero, List.getElem?_cons_succ, List.set_cons_zero, List.set_cons_succ, Bool.false_eq_true, ↓reduceIte, qrest_n, qrest_1, qrest_2, qrest_3, qrest_4, qrest_5, qrest_6, qtr_i, qtr_r, true_and, and_true, List.length_cons, List.length_nil, Int.cast_ofNat_Int, Int32.toInt_zero, false_implies, true_implies, not_false_eq_true, not_true_eq_false, Option.toList_some, Option.toList_none, List.cons_append, List.nil_append, Nat.reduceBEq, Nat.reduceEqDiff, Bool.or_self, or_self, Nat.reduceAdd, Nat.reduceLT, Nat.zero_add, Int.reduceAdd, Int.reduceLE, Int.reduceLT, Int.reduceEq, and_self, Int.reduceNeg, qrok_i, qrok_b0, qrok_b1, qrok_bI, Option.some.injEq, Value.int.injEq, J_bI0, J_bI1, Classical.not_not, Int.zero_add, Int.add_zero, Int.sub_zero, false_and, and_false, and_true, true_and, e_0, v_0, e_2, v_2, e_19, v_19, e_20, v_20, e_21, v_21, e_33, v_33, e_41, r_Law_takeAll_0, r_Law_takeAll_1, r_Law_takeAll_2, r_Law_takeAll_5, r_Law_takeAll_8, r_Law_takeAll_9, r_Law_takeAll_10, r_Law_takeAll_13, r_Law_takeAll_16, r_Law_takeAll_17, r_Law_takeAll_20, r_Law_takeAll_21, r_Law_takeAll_22, r_Law_takeAll_25, r_Law_takeAll_26, r_Law_takeAll_29, r_Law_takeAll_32, r_Law_takeAll_33, r_Law_takeAll_36, r_Law_takeAll_37, r_Law_takeAll_38, r_Law_takeAll_41, r_Law_takeAll_42, r_Law_takeAll_45, r_Law_takeAll_48, I_val, I_add, I_sub, I_mul, inB, beq_iff_eq, or_false, false_or, Bool.or_eq_true, Bool.or_false, Bool.false_or, bI_z, mnI_I, mxI_I, sq_kd hP, sq_2 hP, sq_3 hP, sq_k2 hP, sq_k3 hP, sL_k hL, sL_2 hL, sL_3 hL, sL_k4 hL, sL_k5 hL, hM_c, set_c, cpy_c, ub]
  repeat' (first | with_reducible apply And.intro | intro _)
  all_goals (try clear kK)
  all_goals first | omega | exact rfl | trivial
set_option maxHeartbeats 2000000 in
set_option maxRecDepth 100000 in
theorem H_T_law (hd : 66 ≤ d) {n : Int} (hT : ShT s w) (hP : ShR s) (hL : ShL s) (hb : -2147483648 ≤ n ∧ n ≤ 2147483647) (h6 : 0 ≤ c 2 6 ∧ c 2 6 ≤ 260) (ht : ∀ j, 0 ≤ j → j < 260 → 0 ≤ c 2189 j ∧ c 2189 j ≤ 255) (hs : SBd (c 2192)) (C A Fr Ha To : qN) : T l V mi_T_law (rm d) 0 0 [.ref (2), .int (Int32.ofInt n)] (mkH s (jn c r)) (fun v h' => ∃ t, (lwQ n (c 2 6) → Lch (c 2189) n (lS0 C (c 2192) (c 2193) A Fr Ha To) t ∧ LT_ t) ∧ v = some (.int (Int32.ofInt (if lwQ n (c 2 6) then lwA t else -1))) ∧ ∃ c', h' = mkH s (jn c' r) ∧ KLw c c' t (lwQ n (c 2 6) ∧ LwT t) ∧ c' 2 6 = (if lwQ n (c 2 6) then 0 else c 2 6)) := by
  refine T_ev qm_T_law [.ref (2), .int (Int32.ofInt n), .retAddr 0] rfl rfl (Nat.le_of_ble_eq_true rfl) ok_T_law (smL_ok (d := d - 1) (by omega)) (fun _ => false) 200 (by omega) (fun K kK => ?_)
  by_cases q : lwQ n (c 2 6)
  · simp only [if_pos q]
    simp only [if_pos q] at kK
    have q' := q
    unfold lwQ at q
    have e9 : up c 2 6 0 2189 = c 2189 := by funext k; simp [up]
    have e2 : up c 2 6 0 2192 = c 2192 := by funext k; simp [up]
    have e3 : up c 2 6 0 2193 = c 2193 := by funext k; simp [up]
    have hT2 := H_LR_readRules (l := l) (V := V) (d := d - 1) (s := s) (r := r) (g := up c 2 6 0) (n := n) (p := up c 2 6 0 2190 3) (z := up c 2 6 0 2191 1) (St := up c 2 6 0 2192) (Ar := up c 2 6 0 2193) (q := up c 2 6 0 2191 0) (fa := up c 2 6 0 2190 4) (by omega) hP (by omega) (by rw [e9]; exact ht) (by rw [e2]; exact hs) C A Fr Ha To
    rw [lr_id] at hT2
    simp (disch := omega) only [ev_s, evN_ap, List.getElem?_cons_zero, List.getElem?_cons_succ, List.set_cons_zero, List.set_cons_succ, Bool.false_eq_true, ↓reduceIte, qrest_n, qrest_1, qrest_2, qrest_3, qrest_4, qrest_5, qrest_6, qtr_i, qtr_r, true_and, and_true, List.length_cons, List.length_nil, Int.cast_ofNat_Int, Int32.toInt_zero, false_implies, true_implies, not_false_eq_true, not_true_eq_false, Option.toList_some, Option.toList_none, List.cons_append, List.nil_append, Nat.reduceBEq, Nat.reduceEqDiff, Bool.or_self, or_self, Nat.reduceAdd, Nat.reduceLT, Nat.zero_add, Int.reduceAdd, Int.reduceLE, Int.reduceLT, Int.reduceEq, and_self, Int.reduceNeg, qrok_i, qrok_b0, qrok_b1, qrok_bI, Option.some.injEq, Value.int.injEq, J_bI0, J_bI1, Classical.not_not, Int.zero_add, Int.add_zero, Int.sub_zero, false_and, and_false, and_true, true_and, e_0, v_0, e_1, v_1, e_2, v_2, e_3, v_3, e_14, v_14, e_15, v_15, e_19, v_19, e_20, v_20, e_21, v_21, e_40, e_44, qspl_z, qspl_s, evC_s, evD_none, evD_v, evD_s, c_0, c_2, c_4, c_5, (smL_no (k := 6) rfl), (smL_no (k := 8) rfl), r_T_law_0, r_T_law_1, r_T_law_2, r_T_law_5, r_T_law_6, r_T_law_9, r_T_law_12, r_T_law_13, r_T_law_14, r_T_law_17, r_T_law_20, r_T_law_21, r_T_law_22, r_T_law_23, r_T_law_24, r_T_law_27, r_T_law_28, r_T_law_31, r_T_law_32, r_T_law_35, r_T_law_36, r_T_law_37, r_T_law_40, r_T_law_41, r_T_law_42, r_T_law_43, r_T_law_46, r_T_law_47, r_T_law_50, r_T_law_53, r_T_law_56, r_T_law_57, r_T_law_60, r_T_law_63, I_val, I_add, I_sub, I_mul, inB, beq_iff_eq, or_false, false_or, Bool.or_eq_true, Bool.or_false, Bool.false_or, bI_z, mnI_I, mxI_I, st_k hT, st_7 hT, hM_c, set_c]
    repeat' (first | with_reducible apply And.intro | intro _)
    all_goals try (clear kK; omega)
    all_goals try omega
    refine kK _ _ _ _ (GCQ ok_T_law r_T_law_32 ⟨by decide, by decide⟩ qm_LR_readRules hT2 rfl rfl (fun _ => rcE hP) rfl (Nat.le_of_ble_eq_true rfl) (by omega) (fun v1 h1 q1 => ?_))
    obtain ⟨K', q', fa', rfl, rfl, ⟨k1, k2, k3⟩, hO⟩ := q1
    rw [up_e (by omega), e9, e2, e3] at hO
    generalize hC1 : lrM (up (up c 2 6 0) 2190 2 n) K'.1 K'.2.2.2.1 K'.2.2.2.2.1 K'.2.2.2.2.2 q' fa' = c1
    have o1 : ∀ a, a ≠ 2 → (a < 2190 ∨ 2193 < a) → c1 a = c a := fun a h1 h2 => by
      rw [← hC1]; funext k
      have : a ≠ 2190 ∧ a ≠ 2191 ∧ a ≠ 2192 ∧ a ≠ 2193 := by omega
      simp [lrM, up, this, h1]
    have o2 : ∀ k, k ≠ 6 → c1 2 k = c 2 k := fun k hk => by rw [← hC1]; simp [lrM, up, hk]
    have o6 : c1 2 6 = 0 := by rw [← hC1]; simp [lrM, up]
    have o92 : c1 2192 = K'.2.2.2.2.1 := by rw [← hC1]; funext k; simp [lrM]
    have o93 : c1 2193 = K'.2.2.2.2.2 := by rw [← hC1]; funext k; simp [lrM]
    have o10 : c1 2191 0 = q' := by rw [← hC1]; simp [lrM]
    have o11 : c1 2191 1 = K'.2.2.2.1 := by rw [← hC1]; simp [lrM]
    rcases hO with ⟨f0, f1, f2⟩ | ⟨rfl, U', rfl, f2⟩
    · have gg : ∃ t, (lwQ n (c 2 6) → Lch (c 2189) n (lS0 C (c 2192) (c 2193) A Fr Ha To) t ∧ LT_ t) ∧ Int32.ofInt fa' = Int32.ofInt (lwA t) ∧ ∃ c', mkH s (jn c1 r) = mkH s (jn c' r) ∧ KLw c c' t (lwQ n (c 2 6) ∧ LwT t) ∧ c' 2 6 = 0 := ⟨lX fa', fun _ => ⟨f2, Nat.le_refl 12⟩, rfl, c1, rfl, ⟨⟨fun a h1 _ _ _ h2 => o1 a h1 h2, o2⟩, by rw [o92]; exact k3, fun z => absurd z.2 (by show ¬ ((12 : Nat) = 13); decide), fun _ => ⟨o1 3 (by omega) (by omega), o1 4 (by omega) (by omega), o1 5 (by omega) (by omega)⟩⟩, o6⟩
      refine G_ev ok_T_law (smL_ok (d := d - 1) (by omega)) (fun _ => false) 200 (by omega) (fun Kc kK => ?_)
      simp (disch := omega) only [ev_s, evN_ap, List.getElem?_cons_zero, List.getElem?_cons_succ, List.set_cons_zero, List.set_cons_succ, Bool.false_eq_true, ↓reduceIte, qrest_n, qrest_1, qrest_2, qrest_3, qrest_4, qrest_5, qrest_6, qtr_i, qtr_r, true_and, and_true, List.length_cons, List.length_nil, Int.cast_ofNat_Int, Int32.toInt_zero, false_implies, true_implies, not_false_eq_true, not_true_eq_false, Option.toList_some, Option.toList_none, List.cons_append, List.nil_append, Nat.reduceBEq, Nat.reduceEqDiff, Bool.or_self, or_self, Nat.reduceAdd, Nat.reduceLT, Nat.zero_add, Int.reduceAdd, Int.reduceLE, Int.reduceLT, Int.reduceEq, and_self, Int.reduceNeg, qrok_i, qrok_b0, qrok_b1, qrok_bI, Option.some.injEq, Value.int.injEq, J_bI0, J_bI1, Classical.not_not, Int.zero_add, Int.add_zero, Int.sub_zero, false_and, and_false, and_true, true_and, e_0, v_0, e_1, v_1, e_2, v_2, e_3, v_3, e_14, v_14, e_15, v_15, e_19, v_19, e_20, v_20, e_21, v_21, e_40, e_44, qspl_z, qspl_s, evC_s, evD_none, evD_v, evD_s, c_0, c_2, c_4, c_5, (smL_no (k := 6) rfl), (smL_no (k := 8) rfl), r_T_law_0, r_T_law_1, r_T_law_2, r_T_law_5, r_T_law_6, r_T_law_9, r_T_law_12, r_T_law_13, r_T_law_14, r_T_law_17, r_T_law_20, r_T_law_21, r_T_law_22, r_T_law_23, r_T_law_24, r_T_law_27, r_T_law_28, r_T_law_31, r_T_law_32, r_T_law_35, r_T_law_36, r_T_law_37, r_T_law_40, r_T_law_41, r_T_law_42, r_T_law_43, r_T_law_46, r_T_law_47, r_T_law_50, r_T_law_53, r_T_law_56, r_T_law_57, r_T_law_60, r_T_law_63, I_val, I_add, I_sub, I_mul, inB, beq_iff_eq, or_false, false_or, Bool.or_eq_true, Bool.or_false, Bool.false_or, bI_z, mnI_I, mxI_I]
      repeat' (first | with_reducible apply And.intro | intro _)
      all_goals try (clear kK; omega)
      all_goals first | omega | exact gg
    · have gg : ∃ t, (lwQ n (c 2 6) → Lch (c 2189) n (lS0 C (c 2192) (c 2193) A Fr Ha To) t ∧ LT_ t) ∧ Int32.ofInt U'.1 = Int32.ofInt (lwA t) ∧ ∃ c', mkH s (jn (tkL c1) r) = mkH s (jn c' r) ∧ KLw c c' t (lwQ n (c 2 6) ∧ LwT t) ∧ c' 2 6 = 0 := ⟨lD K' U', fun _ => ⟨f2, by show 12 ≤ 13; omega⟩, rfl, tkL c1, rfl, ⟨⟨fun a h1 h3 h4 h5 h2 => by rw [tkL_o ⟨h3, h4, h5⟩]; exact o1 a h1 h2, fun k hk => by rw [tkL_o (by omega)]; exact o2 k hk⟩, by rw [tkL_o (by omega), o92]; exact k3, fun _ => ⟨⟨by rw [tkL_0]; exact o10, by rw [tkL_1]; exact o11⟩, fun i i1 i2 => ⟨by rw [tkL_4 ⟨i1, i2⟩, o92]; rfl, by rw [tkL_5 ⟨i1, i2⟩, o93]; rfl⟩, k3⟩, fun z => absurd ⟨q', rfl⟩ z⟩, by rw [tkL_o (by omega)]; exact o6⟩
      have e30 : tkL c1 3 0 = U'.1 := by rw [tkL_0]; exact o10
      refine G_ev ok_T_law (smL_ok (d := d - 1) (by omega)) (fun _ => false) 200 (by omega) (fun Kc kK => ?_)
      simp (disch := omega) only [ev_s, evN_ap, List.getElem?_cons_zero, List.getElem?_cons_succ, List.set_cons_zero, List.set_cons_succ, Bool.false_eq_true, ↓reduceIte, qrest_n, qrest_1, qrest_2, qrest_3, qrest_4, qrest_5, qrest_6, qtr_i, qtr_r, true_and, and_true, List.length_cons, List.length_nil, Int.cast_ofNat_Int, Int32.toInt_zero, false_implies, true_implies, not_false_eq_true, not_true_eq_false, Option.toList_some, Option.toList_none, List.cons_append, List.nil_append, Nat.reduceBEq, Nat.reduceEqDiff, Bool.or_self, or_self, Nat.reduceAdd, Nat.reduceLT, Nat.zero_add, Int.reduceAdd, Int.reduceLE, Int.reduceLT, Int.reduceEq, and_self, Int.reduceNeg, qrok_i, qrok_b0, qrok_b1, qrok_bI, Option.some.injEq, Value.int.injEq, J_bI0, J_bI1, Classical.not_not, Int.zero_add, Int.add_zero, Int.sub_zero, false_and, and_false, and_true, true_and, e_0, v_0, e_1, v_1, e_2, v_2, e_3, v_3, e_14, v_14, e_15, v_15, e_19, v_19, e_20, v_20, e_21, v_21, e_40, e_44, qspl_z, qspl_s, evC_s, evD_none, evD_v, evD_s, c_0, c_2, c_4, c_5, (smL_no (k := 6) rfl), (smL_no (k := 8) rfl), r_T_law_0, r_T_law_1, r_T_law_2, r_T_law_5, r_T_law_6, r_T_law_9, r_T_law_12, r_T_law_13, r_T_law_14, r_T_law_17, r_T_law_20, r_T_law_21, r_T_law_22, r_T_law_23, r_T_law_24, r_T_law_27, r_T_law_28, r_T_law_31, r_T_law_32, r_T_law_35, r_T_law_36, r_T_law_37, r_T_law_40, r_T_law_41, r_T_law_42, r_T_law_43, r_T_law_46, r_T_law_47, r_T_law_50, r_T_law_53, r_T_law_56, r_T_law_57, r_T_law_60, r_T_law_63, I_val, I_add, I_sub, I_mul, inB, beq_iff_eq, or_false, false_or, Bool.or_eq_true, Bool.or_false, Bool.false_or, bI_z, mnI_I, mxI_I, st_k hT, st_0 hT, st_7 hT, sq_k hP, sq_0 hP]
      repeat' (first | with_reducible apply And.intro | intro _)
      all_goals try (clear kK; omega)
      all_goals try omega
      refine kK _ _ _ _ (GCD ok_T_law r_T_law_53 ⟨by decide, by decide⟩ qm_Law_takeAll (H_Law_takeAll (d := d - 1) (by omega) hP hL) rfl rfl (fun _ => rcL3 hL) rfl (Nat.le_of_ble_eq_true rfl) (by omega) ?_)
      refine G_ev ok_T_law (smL_ok (d := d - 1) (by omega)) (fun _ => false) 200 (by omega) (fun Kc kK => ?_)
      simp (disch := omega) only [ev_s, evN_ap, List.getElem?_cons_zero, List.getElem?_cons_succ, List.set_cons_zero, List.set_cons_succ, Bool.false_eq_true, ↓reduceIte, qrest_n, qrest_1, qrest_2, qrest_3, qrest_4, qrest_5, qrest_6, qtr_i, qtr_r, true_and, and_true, List.length_cons, List.length_nil, Int.cast_ofNat_Int, Int32.toInt_zero, false_implies, true_implies, not_false_eq_true, not_true_eq_false, Option.toList_some, Option.toList_none, List.cons_append, List.nil_append, Nat.reduceBEq, Nat.reduceEqDiff, Bool.or_self, or_self, Nat.reduceAdd, Nat.reduceLT, Nat.zero_add, Int.reduceAdd, Int.reduceLE, Int.reduceLT, Int.reduceEq, and_self, Int.reduceNeg, qrok_i, qrok_b0, qrok_b1, qrok_bI, Option.some.injEq, Value.int.injEq, J_bI0, J_bI1, Classical.not_not, Int.zero_add, Int.add_zero, Int.sub_zero, false_and, and_false, and_true, true_and, e_0, v_0, e_1, v_1, e_2, v_2, e_3, v_3, e_14, v_14, e_15, v_15, e_19, v_19, e_20, v_20, e_21, v_21, e_40, e_44, qspl_z, qspl_s, evC_s, evD_none, evD_v, evD_s, c_0, c_2, c_4, c_5, (smL_no (k := 6) rfl), (smL_no (k := 8) rfl), r_T_law_0, r_T_law_1, r_T_law_2, r_T_law_5, r_T_law_6, r_T_law_9, r_T_law_12, r_T_law_13, r_T_law_14, r_T_law_17, r_T_law_20, r_T_law_21, r_T_law_22, r_T_law_23, r_T_law_24, r_T_law_27, r_T_law_28, r_T_law_31, r_T_law_32, r_T_law_35, r_T_law_36, r_T_law_37, r_T_law_40, r_T_law_41, r_T_law_42, r_T_law_43, r_T_law_46, r_T_law_47, r_T_law_50, r_T_law_53, r_T_law_56, r_T_law_57, r_T_law_60, r_T_law_63, I_val, I_add, I_sub, I_mul, inB, beq_iff_eq, or_false, false_or, Bool.or_eq_true, Bool.or_false, Bool.false_or, bI_z, mnI_I, mxI_I, st_k hT, st_0 hT, sL_k hL, hM_c, e30]
      repeat' (first | with_reducible apply And.intro | intro _)
      all_goals try (clear kK; omega)
      all_goals first | omega | exact gg
  · simp only [if_neg q]
    simp only [if_neg q] at kK
    have gg : ∃ t, (lwQ n (c 2 6) → Lch (c 2189) n (lS0 C (c 2192) (c 2193) A Fr Ha To) t ∧ LT_ t) ∧ ∃ c', mkH s (jn c r) = mkH s (jn c' r) ∧ KLw c c' t (lwQ n (c 2 6) ∧ LwT t) ∧ c' 2 6 = c 2 6 := ⟨lX 0, fun z => absurd z q, c, rfl, ⟨⟨fun _ _ _ _ _ _ => rfl, fun _ _ => rfl⟩, hs, fun z => absurd z.1 q, fun _ => ⟨rfl, rfl, rfl⟩⟩, rfl⟩
    unfold lwQ at q
    simp (disch := omega) only [ev_s, evN_ap, List.getElem?_cons_zero, List.getElem?_cons_succ, List.set_cons_zero, List.set_cons_succ, Bool.false_eq_true, ↓reduceIte, qrest_n, qrest_1, qrest_2, qrest_3, qrest_4, qrest_5, qrest_6, qtr_i, qtr_r, true_and, and_true, List.length_cons, List.length_nil, Int.cast_ofNat_Int, Int32.toInt_zero, false_implies, true_implies, not_false_eq_true, not_true_eq_false, Option.toList_some, Option.toList_none, List.cons_append, List.nil_append, Nat.reduceBEq, Nat.reduceEqDiff, Bool.or_self, or_self, Nat.reduceAdd, Nat.reduceLT, Nat.zero_add, Int.reduceAdd, Int.reduceLE, Int.reduceLT, Int.reduceEq, and_self, Int.reduceNeg, qrok_i, qrok_b0, qrok_b1, qrok_bI, Option.some.injEq, Value.int.injEq, J_bI0, J_bI1, Classical.not_not, Int.zero_add, Int.add_zero, Int.sub_zero, false_and, and_false, and_true, true_and, e_0, v_0, e_1, v_1, e_2, v_2, e_3, v_3, e_14, v_14, e_15, v_15, e_19, v_19, e_20, v_20, e_21, v_21, e_40, e_44, qspl_z, qspl_s, evC_s, evD_none, evD_v, evD_s, c_0, c_2, c_4, c_5, (smL_no (k := 6) rfl), (smL_no (k := 8) rfl), r_T_law_0, r_T_law_1, r_T_law_2, r_T_law_5, r_T_law_6, r_T_law_9, r_T_law_12, r_T_law_13, r_T_law_14, r_T_law_17, r_T_law_20, r_T_law_21, r_T_law_22, r_T_law_23, r_T_law_24, r_T_law_27, r_T_law_28, r_T_law_31, r_T_law_32, r_T_law_35, r_T_law_36, r_T_law_37, r_T_law_40, r_T_law_41, r_T_law_42, r_T_law_43, r_T_law_46, r_T_law_47, r_T_law_50, r_T_law_53, r_T_law_56, r_T_law_57, r_T_law_60, r_T_law_63, I_val, I_add, I_sub, I_mul, inB, beq_iff_eq, or_false, false_or, Bool.or_eq_true, Bool.or_false, Bool.false_or, bI_z, mnI_I, mxI_I, st_k hT, hM_c]
    repeat' (first | with_reducible apply And.intro | intro _)
    all_goals try (clear kK; omega)
    all_goals first | omega | exact gg
end CS
