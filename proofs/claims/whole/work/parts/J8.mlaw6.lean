/-! the reference's reader of laws: leaps, pieces -/
abbrev jpQ (b a : Int) : Prop := a = 11 ∨ (b ≠ 0 ∧ a = 12)
def lnF (b : Int) : LK → List (Int × Int × Int) → LK × List (Int × Int × Int)
  | K, [] => (K, [])
  | K, e :: Y => if jpQ b e.1 then lnF b (lnK K e.2.1 e.2.2) Y else (K, e :: Y)
def epF : LK → List (Int × Int × Int) → LK × List (Int × Int × Int)
  | K, [] => (K, [])
  | K, e :: Y => if e.1 = 10 then epF (emK K 10 0) Y else (K, e :: Y)
def yT (Y : List (Int × Int × Int)) : Prop := ∀ e ∈ Y, (10 ≤ e.1 ∧ e.1 ≤ 13) ∧ 0 ≤ e.2.1 ∧ e.2.1 < 1048576
def yN (m : Int) (Y : List (Int × Int × Int)) : Prop := ∀ e ∈ Y, isJ e → 0 ≤ e.2.1 ∧ e.2.1 < m
section Ln
variable {b n c : Int} {f : Int → Int} {X0 : LwS} {U : LU}
theorem ln_p : ∀ (Y : List (Int × Int × Int)) (K : LK), (lnF b K Y).1.1 = K.1 ∧ (lnF b K Y).1.2.1 = K.2.1 ∧ (lnF b K Y).2.length ≤ Y.length ∧ ∀ e ∈ (lnF b K Y).2, e ∈ Y
  | [], K => ⟨rfl, rfl, Nat.le_refl _, fun _ h => h⟩
  | e :: Y, K => by
    rw [lnF]
    split
    · obtain ⟨h1, h2, h3, h4⟩ := ln_p Y (lnK K e.2.1 e.2.2)
      exact ⟨h1, h2, by rw [List.length_cons]; omega, fun e' he => List.mem_cons_of_mem _ (h4 e' he)⟩
    · exact ⟨rfl, rfl, Nat.le_refl _, fun _ h => h⟩
theorem ep_p : ∀ (Y : List (Int × Int × Int)) (K : LK), (epF K Y).1.1 = K.1 ∧ (epF K Y).2.length ≤ Y.length ∧ ∀ e ∈ (epF K Y).2, e ∈ Y
  | [], K => ⟨rfl, Nat.le_refl _, fun _ h => h⟩
  | e :: Y, K => by
    rw [epF]
    split
    · obtain ⟨h1, h3, h4⟩ := ep_p Y (emK K 10 0)
      exact ⟨h1, by rw [List.length_cons]; omega, fun e' he => List.mem_cons_of_mem _ (h4 e' he)⟩
    · exact ⟨rfl, Nat.le_refl _, fun _ h => h⟩
theorem ln_0 : ∀ (Y : List (Int × Int × Int)) (K : LK), Lch f n X0 (lA K U Y) → Lch f n X0 (lA (lnF 0 K Y).1 U (lnF 0 K Y).2) ∧ ∀ e Y', (lnF 0 K Y).2 = e :: Y' → e.1 ≠ 11
  | [], K, h => ⟨h, fun e Y' q => by simp [lnF] at q⟩
  | e :: Y, K, h => by
    rw [lnF]
    by_cases q : jpQ 0 e.1
    · rw [if_pos q]
      exact ln_0 Y _ (Lch_n h (by rw [lst_A]; unfold lsA; dsimp only; rw [if_pos (by unfold jpQ at q; omega)]))
    · rw [if_neg q]
      exact ⟨h, fun e2 Y2 z => by simp at z; rw [← z.1]; unfold jpQ at q; omega⟩
theorem ln_O : ∀ (Y : List (Int × Int × Int)) (K : LK), Lch f n X0 (lO K U Y) → Lch f n X0 (lO (lnF 1 K Y).1 U (lnF 1 K Y).2) ∧ ∀ e Y', (lnF 1 K Y).2 = e :: Y' → e.1 ≠ 11 ∧ e.1 ≠ 12
  | [], K, h => ⟨h, fun e Y' q => by simp [lnF] at q⟩
  | e :: Y, K, h => by
    rw [lnF]
    by_cases q : jpQ 1 e.1
    · rw [if_pos q]
      exact ln_O Y _ (Lch_n h (by rw [lst_O]; unfold lsO; dsimp only; rw [if_pos (by unfold jpQ at q; omega)]))
    · rw [if_neg q]
      exact ⟨h, fun e2 Y2 z => by simp at z; rw [← z.1]; unfold jpQ at q; omega⟩
theorem ln_1 : ∀ (Y : List (Int × Int × Int)) (K : LK), sgF f n K.1 ≠ 38 → Lch f n X0 (lA K U Y) → Lch f n X0 (lO (lnF 1 K Y).1 U (lnF 1 K Y).2) ∧ ∀ e Y', (lnF 1 K Y).2 = e :: Y' → e.1 ≠ 11 ∧ e.1 ≠ 12
  | [], K, hm, h => ln_O [] K (Lch_n h (by rw [lst_A]; unfold lsA; dsimp only; unfold lsA0; rw [if_neg hm]))
  | e :: Y, K, hm, h => by
    by_cases q : e.1 = 11
    · rw [lnF, if_pos (Or.inl q)]
      exact ln_1 Y _ hm (Lch_n h (by rw [lst_A]; unfold lsA; dsimp only; rw [if_pos q]))
    · exact ln_O (e :: Y) K (Lch_n h (by rw [lst_A]; unfold lsA; dsimp only; rw [if_neg q]; unfold lsA0; rw [if_neg hm]))
theorem ep_A : ∀ (Y : List (Int × Int × Int)) (K : LK), Lch f n X0 (lE K U Y) → Lch f n X0 (lA (epF K Y).1 U (epF K Y).2) ∧ ∀ e Y', (epF K Y).2 = e :: Y' → e.1 ≠ 10
  | [], K, h => ⟨Lch_n h (by rw [lst_E]; rfl), fun e Y' q => by simp [epF] at q⟩
  | e :: Y, K, h => by
    rw [epF]
    by_cases q : e.1 = 10
    · rw [if_pos q]
      exact ep_A Y _ (Lch_n h (by rw [lst_E]; unfold lsE; dsimp only; rw [if_pos q]))
    · rw [if_neg q]
      exact ⟨Lch_n h (by rw [lst_E]; unfold lsE; dsimp only; rw [if_neg q]), fun e2 Y2 z => by simp at z; rw [← z.1]; exact q⟩
theorem wt_e {e : Int × Int × Int} {Y : List (Int × Int × Int)} (h : yT (e :: Y)) : wtp (wcY (e :: Y)) = e.1 := by
  have := h e List.mem_cons_self
  show (1048576 * e.1 + e.2.1) / 1048576 = e.1
  omega
theorem yT_Y {Y : List (Int × Int × Int)} (h : yT Y) : wtY Y := by
  cases Y with
  | nil => exact Or.inl rfl
  | cons e Y =>
    have := h e List.mem_cons_self
    exact Or.inr (by rw [wt_e h]; omega)
theorem LV_J {t : Nat} {K : LK} {Y : List (Int × Int × Int)} (hn : n ≤ 240) (h : LV n (t, K, U, [], Y, 0)) (ht : 4 ≤ t ∧ t ≤ 8) : yN K.2.1 Y ∧ Y ≠ [] ∧ (K.2.1 + nex Y ≤ K.1 ∧ 0 ≤ nex Y) ∧ nY Y ≤ 6 := by
  obtain ⟨⟨-, hm, -⟩, hR, hy, hs, -, -⟩ := LV_d8 ht h
  have e0 : nops [] = 0 := rfl
  have c0 : cb 0 = 0 := rfl
  rw [e0, c0] at hm
  obtain ⟨⟨h1, -⟩, -, -, h5, -, h7⟩ := hs
  refine ⟨fun e he hj => ?_, fun z => by rw [z] at h7; exact h7, ⟨by omega, nex_0 Y⟩, hy⟩
  obtain ⟨j1, -⟩ := h5 e he hj
  have := hR.2.2.2.1
  omega
end Ln
section MS
variable {l : Launch} {V : qV} {d : Nat} {s : qS} {c r r0 : qI} {R n p o b p0 e : Int} {Q : Option Value → qH → Prop} {K : LK} {U : LU} {W : List Int} {X0 : LwS} {X : List Int}
theorem LrS_ln {k k' w : Int} (h : LrS r n K U (w :: W) o) (hk : 0 ≤ k ∧ k < K.2.1) : LrS (uA (uA r 2205 (u1 (r 2205) k (K.2.2.1 k / 1048576 * 1048576 + K.2.1))) 2198 (u1 (r 2198) 13 (W.length : Int))) n (lnK K k k') U W o := by
  obtain ⟨⟨⟨h7, h8⟩, h12, h05⟩, ⟨⟨h14, h07⟩, h08, h09, h10⟩, ⟨⟨h13, hW⟩, h11⟩, ⟨hp, hn, hm⟩, hl, ⟨ho, hu⟩, hb, hc⟩ := h
  have ck := hc k hk.1 hk.2
  have e98 : uA (uA r 2205 (u1 (r 2205) k (K.2.2.1 k / 1048576 * 1048576 + K.2.1))) 2198 (u1 (r 2198) 13 (W.length : Int)) 2198 = u1 (r 2198) 13 (W.length : Int) := uA_same
  have e05 : uA (uA r 2205 (u1 (r 2205) k (K.2.2.1 k / 1048576 * 1048576 + K.2.1))) 2198 (u1 (r 2198) 13 (W.length : Int)) 2205 = u1 (r 2205) k (K.2.2.1 k / 1048576 * 1048576 + K.2.1) := by rw [uA_ne (by omega), uA_same]
  have eo : ∀ a', a' ≠ 2198 → a' ≠ 2205 → uA (uA r 2205 (u1 (r 2205) k (K.2.2.1 k / 1048576 * 1048576 + K.2.1))) 2198 (u1 (r 2198) 13 (W.length : Int)) a' = r a' := fun a' a1 a2 => by rw [uA_ne a1, uA_ne a2]
  generalize uA (uA r 2205 (u1 (r 2205) k (K.2.2.1 k / 1048576 * 1048576 + K.2.1))) 2198 (u1 (r 2198) 13 (W.length : Int)) = R1 at *
  rw [List.length_cons] at hl
  unfold LrS
  rw [e98, e05, eo 2207 (by omega) (by omega), eo 2208 (by omega) (by omega), eo 2209 (by omega) (by omega), eo 2210 (by omega) (by omega), h05]
  refine ⟨⟨⟨by rw [u1_ne (by omega)]; exact h7, by rw [u1_ne (by omega)]; exact h8⟩, by rw [u1_ne (by omega)]; exact h12, rfl⟩, ⟨⟨by rw [u1_ne (by omega)]; exact h14, h07⟩, h08, h09, h10⟩, ⟨⟨u1_same, WtR_o (eo 2206 (by omega) (by omega)) hW.2⟩, by rw [u1_ne (by omega)]; exact h11⟩, ⟨hp, hn, hm⟩, by show (W.length : Int) ≤ K.1 + 1; omega, ⟨ho, hu⟩, fun b hb' => hb b (List.mem_cons_of_mem _ hb'), fun i i1 i2 => ?_⟩
  show 0 ≤ u1 K.2.2.1 k (K.2.2.1 k / 1048576 * 1048576 + K.2.1) i ∧ u1 K.2.2.1 k (K.2.2.1 k / 1048576 * 1048576 + K.2.1) i ≤ 100000000
  by_cases q : i = k
  · rw [q, u1_same]; omega
  · rw [u1_ne q]; exact hc i i1 i2
set_option maxHeartbeats 2000000 in
set_option maxRecDepth 100000 in
theorem LM_la (hd : 10 ≤ d) (hs : ShMs s) (hb : b = 0 ∨ b = 1) : ∀ (Y : List (Int × Int × Int)) (K : LK) (r : qI) (x2 : Value), LrF r0 r → LrS r n K U (wcY Y) o → yT Y → yN K.2.1 Y →
    (∀ r', LrF r0 r' → LrS r' n (lnF b K Y).1 U (wcY (lnF b K Y).2) o → Q none (mkH s (jn c r'))) →
    G l V mi_M_lands (rm d) 0 0 Q 0 0 0 [.ref 2198, .int (Int32.ofInt b), x2] [] (mkH s (jn c r)) := by
  intro Y
  induction Y with
  | nil =>
    intro K r x2 hF h hy hN hQ
    have hQ1 : Q none (mkH s (jn c r)) := hQ r hF h
    have hw := T_M_waitTop (l := l) (V := V) (d := d - 1) (c := c) (by omega) hs h
    have e : wtp (wcY []) = -1 := rfl
    rw [e] at hw
    refine G_ev ok_M_lands (smE_ok (d := d - 1) (by omega)) (fun _ => false) 200 (by omega) (fun Kc kK => ?_)
    simp (disch := omega) only [ev_s, evN_ap, List.getElem?_cons_zero, List.getElem?_cons_succ, List.set_cons_zero, List.set_cons_succ, Bool.false_eq_true, ↓reduceIte, qrest_n, qrest_1, qrest_2, qrest_3, qrest_4, qrest_5, qrest_6, qtr_i, qtr_r, true_and, and_true, List.length_cons, List.length_nil, Int.cast_ofNat_Int, Int32.toInt_zero, false_implies, true_implies, not_false_eq_true, not_true_eq_false, Option.toList_some, Option.toList_none, List.cons_append, List.nil_append, Nat.reduceBEq, Nat.reduceEqDiff, Bool.or_self, or_self, Nat.reduceAdd, Nat.reduceLT, Nat.zero_add, Int.reduceAdd, Int.reduceLE, Int.reduceLT, Int.reduceEq, and_self, Int.reduceNeg, qrok_i, qrok_b0, qrok_b1, qrok_bI, Option.some.injEq, Value.int.injEq, J_bI0, J_bI1, Classical.not_not, Int.zero_add, Int.add_zero, Int.sub_zero, false_and, and_false, and_true, true_and, e_0, v_0, e_1, v_1, e_2, v_2, e_3, v_3, e_6, v_6, e_7, v_7, e_8, v_8, e_13, v_13, e_14, v_14, e_15, v_15, e_19, v_19, e_20, v_20, e_21, v_21, e_24, v_24, e_25, v_25, e_41, e_44, qspl_z, qspl_s, evC_s, evD_none, evD_v, evD_s, c_0, c_1, b_0, b_1, b_2, (smE_no (k := 203) rfl), r_M_lands_0, r_M_lands_1, r_M_lands_4, r_M_lands_6, r_M_lands_9, r_M_lands_10, r_M_lands_13, r_M_lands_14, r_M_lands_17, r_M_lands_19, r_M_lands_22, r_M_lands_23, r_M_lands_26, r_M_lands_27, r_M_lands_30, r_M_lands_31, r_M_lands_32, r_M_lands_33, r_M_lands_35, r_M_lands_36, r_M_lands_37, r_M_lands_38, r_M_lands_41, r_M_lands_42, r_M_lands_44, r_M_lands_45, r_M_lands_48, r_M_lands_49, r_M_lands_50, r_M_lands_52, r_M_lands_53, r_M_lands_54, r_M_lands_55, r_M_lands_58, r_M_lands_59, r_M_lands_60, r_M_lands_61, r_M_lands_62, r_M_lands_65, r_M_lands_66, r_M_lands_67, r_M_lands_70, r_M_lands_73, (shS_o hs), (shS_r_now hs), (shS_k_now hs), I_val, I_add, I_sub, I_mul, ShM_mk, hs, hM_j2, inB, beq_iff_eq]
    refine kK _ _ _ _ (GCD ok_M_lands r_M_lands_1 ⟨by decide, by decide⟩ qm_M_waitTop (hw) rfl rfl (fun _ => rcM hs) rfl (Nat.le_of_ble_eq_true rfl) (by omega) ?_)
    rcases hb with rfl | rfl
    · refine G_ev ok_M_lands (smE_ok (d := d - 1) (by omega)) (fun _ => false) 200 (by omega) (fun Kc kK => ?_)
      simp (disch := omega) only [ev_s, evN_ap, List.getElem?_cons_zero, List.getElem?_cons_succ, List.set_cons_zero, List.set_cons_succ, Bool.false_eq_true, ↓reduceIte, qrest_n, qrest_1, qrest_2, qrest_3, qrest_4, qrest_5, qrest_6, qtr_i, qtr_r, true_and, and_true, List.length_cons, List.length_nil, Int.cast_ofNat_Int, Int32.toInt_zero, false_implies, true_implies, not_false_eq_true, not_true_eq_false, Option.toList_some, Option.toList_none, List.cons_append, List.nil_append, Nat.reduceBEq, Nat.reduceEqDiff, Bool.or_self, or_self, Nat.reduceAdd, Nat.reduceLT, Nat.zero_add, Int.reduceAdd, Int.reduceLE, Int.reduceLT, Int.reduceEq, and_self, Int.reduceNeg, qrok_i, qrok_b0, qrok_b1, qrok_bI, Option.some.injEq, Value.int.injEq, J_bI0, J_bI1, Classical.not_not, Int.zero_add, Int.add_zero, Int.sub_zero, false_and, and_false, and_true, true_and, e_0, v_0, e_1, v_1, e_2, v_2, e_3, v_3, e_6, v_6, e_7, v_7, e_8, v_8, e_13, v_13, e_14, v_14, e_15, v_15, e_19, v_19, e_20, v_20, e_21, v_21, e_24, v_24, e_25, v_25, e_41, e_44, qspl_z, qspl_s, evC_s, evD_none, evD_v, evD_s, c_0, c_1, b_0, b_1, b_2, (smE_no (k := 203) rfl), r_M_lands_0, r_M_lands_1, r_M_lands_4, r_M_lands_6, r_M_lands_9, r_M_lands_10, r_M_lands_13, r_M_lands_14, r_M_lands_17, r_M_lands_19, r_M_lands_22, r_M_lands_23, r_M_lands_26, r_M_lands_27, r_M_lands_30, r_M_lands_31, r_M_lands_32, r_M_lands_33, r_M_lands_35, r_M_lands_36, r_M_lands_37, r_M_lands_38, r_M_lands_41, r_M_lands_42, r_M_lands_44, r_M_lands_45, r_M_lands_48, r_M_lands_49, r_M_lands_50, r_M_lands_52, r_M_lands_53, r_M_lands_54, r_M_lands_55, r_M_lands_58, r_M_lands_59, r_M_lands_60, r_M_lands_61, r_M_lands_62, r_M_lands_65, r_M_lands_66, r_M_lands_67, r_M_lands_70, r_M_lands_73, (shS_o hs), (shS_r_now hs), (shS_k_now hs), I_val, I_add, I_sub, I_mul, ShM_mk, hs, hM_j2, inB, beq_iff_eq]
      exact hQ1
    · refine G_ev ok_M_lands (smE_ok (d := d - 1) (by omega)) (fun _ => false) 200 (by omega) (fun Kc kK => ?_)
      simp (disch := omega) only [ev_s, evN_ap, List.getElem?_cons_zero, List.getElem?_cons_succ, List.set_cons_zero, List.set_cons_succ, Bool.false_eq_true, ↓reduceIte, qrest_n, qrest_1, qrest_2, qrest_3, qrest_4, qrest_5, qrest_6, qtr_i, qtr_r, true_and, and_true, List.length_cons, List.length_nil, Int.cast_ofNat_Int, Int32.toInt_zero, false_implies, true_implies, not_false_eq_true, not_true_eq_false, Option.toList_some, Option.toList_none, List.cons_append, List.nil_append, Nat.reduceBEq, Nat.reduceEqDiff, Bool.or_self, or_self, Nat.reduceAdd, Nat.reduceLT, Nat.zero_add, Int.reduceAdd, Int.reduceLE, Int.reduceLT, Int.reduceEq, and_self, Int.reduceNeg, qrok_i, qrok_b0, qrok_b1, qrok_bI, Option.some.injEq, Value.int.injEq, J_bI0, J_bI1, Classical.not_not, Int.zero_add, Int.add_zero, Int.sub_zero, false_and, and_false, and_true, true_and, e_0, v_0, e_1, v_1, e_2, v_2, e_3, v_3, e_6, v_6, e_7, v_7, e_8, v_8, e_13, v_13, e_14, v_14, e_15, v_15, e_19, v_19, e_20, v_20, e_21, v_21, e_24, v_24, e_25, v_25, e_41, e_44, qspl_z, qspl_s, evC_s, evD_none, evD_v, evD_s, c_0, c_1, b_0, b_1, b_2, (smE_no (k := 203) rfl), r_M_lands_0, r_M_lands_1, r_M_lands_4, r_M_lands_6, r_M_lands_9, r_M_lands_10, r_M_lands_13, r_M_lands_14, r_M_lands_17, r_M_lands_19, r_M_lands_22, r_M_lands_23, r_M_lands_26, r_M_lands_27, r_M_lands_30, r_M_lands_31, r_M_lands_32, r_M_lands_33, r_M_lands_35, r_M_lands_36, r_M_lands_37, r_M_lands_38, r_M_lands_41, r_M_lands_42, r_M_lands_44, r_M_lands_45, r_M_lands_48, r_M_lands_49, r_M_lands_50, r_M_lands_52, r_M_lands_53, r_M_lands_54, r_M_lands_55, r_M_lands_58, r_M_lands_59, r_M_lands_60, r_M_lands_61, r_M_lands_62, r_M_lands_65, r_M_lands_66, r_M_lands_67, r_M_lands_70, r_M_lands_73, (shS_o hs), (shS_r_now hs), (shS_k_now hs), I_val, I_add, I_sub, I_mul, ShM_mk, hs, hM_j2, inB, beq_iff_eq]
      refine kK _ _ _ _ (GCD ok_M_lands r_M_lands_14 ⟨by decide, by decide⟩ qm_M_waitTop (hw) rfl rfl (fun _ => rcM hs) rfl (Nat.le_of_ble_eq_true rfl) (by omega) ?_)
      refine G_ev ok_M_lands (smE_ok (d := d - 1) (by omega)) (fun _ => false) 200 (by omega) (fun Kc kK => ?_)
      simp (disch := omega) only [ev_s, evN_ap, List.getElem?_cons_zero, List.getElem?_cons_succ, List.set_cons_zero, List.set_cons_succ, Bool.false_eq_true, ↓reduceIte, qrest_n, qrest_1, qrest_2, qrest_3, qrest_4, qrest_5, qrest_6, qtr_i, qtr_r, true_and, and_true, List.length_cons, List.length_nil, Int.cast_ofNat_Int, Int32.toInt_zero, false_implies, true_implies, not_false_eq_true, not_true_eq_false, Option.toList_some, Option.toList_none, List.cons_append, List.nil_append, Nat.reduceBEq, Nat.reduceEqDiff, Bool.or_self, or_self, Nat.reduceAdd, Nat.reduceLT, Nat.zero_add, Int.reduceAdd, Int.reduceLE, Int.reduceLT, Int.reduceEq, and_self, Int.reduceNeg, qrok_i, qrok_b0, qrok_b1, qrok_bI, Option.some.injEq, Value.int.injEq, J_bI0, J_bI1, Classical.not_not, Int.zero_add, Int.add_zero, Int.sub_zero, false_and, and_false, and_true, true_and, e_0, v_0, e_1, v_1, e_2, v_2, e_3, v_3, e_6, v_6, e_7, v_7, e_8, v_8, e_13, v_13, e_14, v_14, e_15, v_15, e_19, v_19, e_20, v_20, e_21, v_21, e_24, v_24, e_25, v_25, e_41, e_44, qspl_z, qspl_s, evC_s, evD_none, evD_v, evD_s, c_0, c_1, b_0, b_1, b_2, (smE_no (k := 203) rfl), r_M_lands_0, r_M_lands_1, r_M_lands_4, r_M_lands_6, r_M_lands_9, r_M_lands_10, r_M_lands_13, r_M_lands_14, r_M_lands_17, r_M_lands_19, r_M_lands_22, r_M_lands_23, r_M_lands_26, r_M_lands_27, r_M_lands_30, r_M_lands_31, r_M_lands_32, r_M_lands_33, r_M_lands_35, r_M_lands_36, r_M_lands_37, r_M_lands_38, r_M_lands_41, r_M_lands_42, r_M_lands_44, r_M_lands_45, r_M_lands_48, r_M_lands_49, r_M_lands_50, r_M_lands_52, r_M_lands_53, r_M_lands_54, r_M_lands_55, r_M_lands_58, r_M_lands_59, r_M_lands_60, r_M_lands_61, r_M_lands_62, r_M_lands_65, r_M_lands_66, r_M_lands_67, r_M_lands_70, r_M_lands_73, (shS_o hs), (shS_r_now hs), (shS_k_now hs), I_val, I_add, I_sub, I_mul, ShM_mk, hs, hM_j2, inB, beq_iff_eq]
      exact hQ1
  | cons e Y ih =>
    intro K r x2 hF h hy hN hQ
    have he := hy e List.mem_cons_self
    have hw := T_M_waitTop (l := l) (V := V) (d := d - 1) (c := c) (by omega) hs h
    rw [wt_e hy] at hw
    rw [lnF] at hQ
    obtain ⟨o1, k, k'⟩ := e
    dsimp only at he hw hQ
    by_cases q : jpQ b o1
    · rw [if_pos q] at hQ
      have hj : isJ (o1, k, k') := by unfold isJ; unfold jpQ at q; show o1 = 11 ∨ o1 = 12; omega
      have hk := hN (o1, k, k') List.mem_cons_self hj
      dsimp only at hk
      have h' : LrS r n K U ((1048576 * o1 + k) :: wcY Y) o := h
      have bb := LrS_b h'
      obtain ⟨e7, e8, e13, e11, e12, -⟩ := LrS_p h'
      have hv : r 2206 ((wcY Y).length : Int) = 1048576 * o1 + k := h'.2.2.1.1.2.1
      have ck : 0 ≤ K.2.2.1 k ∧ K.2.2.1 k ≤ 100000000 := h'.2.2.2.2.2.2.2 k hk.1 hk.2
      have e05 : r 2205 k = K.2.2.1 k := by rw [h'.1.2.2]
      have hlen : (((1048576 * o1 + k) :: wcY Y).length : Int) = ((wcY Y).length : Int) + 1 := by rw [List.length_cons]; omega
      rw [hlen] at e13 bb
      have l2 := LrS_ln (k' := k') h' hk
      have g := fun x2 => ih (lnK K k k') _ x2 (LrF_tr hF ⟨fun a a1 a2 => by rw [uA_ne a1, uA_ne (by omega)], fun k k1 k2 => by rw [uA_same, u1_ne (by omega)]⟩) l2 (fun e' he' => hy e' (List.mem_cons_of_mem _ he')) (fun e' he' => hN e' (List.mem_cons_of_mem _ he')) hQ
      have rk : (1048576 * o1 + k) % 1048576 = k := by omega
      have z0 : 0 ≤ ((wcY Y).length : Int) := by omega
      have el : ((wcY Y).length : Int) + 1 - 1 = ((wcY Y).length : Int) := by omega
      have dv : 0 ≤ K.2.2.1 k / 1048576 ∧ K.2.2.1 k / 1048576 ≤ 96 := by omega
      clear ih hQ
      have nx : ∀ x2, G l V mi_M_lands (rm d) 0 0 Q 0 0 22 [.ref 2198, .int (Int32.ofInt b), x2] [] (mkH s (jn c r)) := by
        intro x2
        generalize ((wcY Y).length : Int) = L at *
        have e99 : (1048576 : Int) * (K.2.2.1 k / 1048576) = K.2.2.1 k / 1048576 * 1048576 := Int.mul_comm _ _
        refine G_ev ok_M_lands (smE_ok (d := d - 1) (by omega)) (fun pc => pc == 0) 200 (by omega) (fun Kc kK => ?_)
        simp (disch := omega) only [ev_s, evN_ap, List.getElem?_cons_zero, List.getElem?_cons_succ, List.set_cons_zero, List.set_cons_succ, Bool.false_eq_true, ↓reduceIte, qrest_n, qrest_1, qrest_2, qrest_3, qrest_4, qrest_5, qrest_6, qtr_i, qtr_r, true_and, and_true, List.length_cons, List.length_nil, Int.cast_ofNat_Int, Int32.toInt_zero, false_implies, true_implies, not_false_eq_true, not_true_eq_false, Option.toList_some, Option.toList_none, List.cons_append, List.nil_append, Nat.reduceBEq, Nat.reduceEqDiff, Bool.or_self, or_self, Nat.reduceAdd, Nat.reduceLT, Nat.zero_add, Int.reduceAdd, Int.reduceLE, Int.reduceLT, Int.reduceEq, and_self, Int.reduceNeg, qrok_i, qrok_b0, qrok_b1, qrok_bI, Option.some.injEq, Value.int.injEq, J_bI0, J_bI1, Classical.not_not, Int.zero_add, Int.add_zero, Int.sub_zero, false_and, and_false, and_true, true_and, e_0, v_0, e_1, v_1, e_2, v_2, e_3, v_3, e_6, v_6, e_7, v_7, e_8, v_8, e_13, v_13, e_14, v_14, e_15, v_15, e_19, v_19, e_20, v_20, e_21, v_21, e_24, v_24, e_25, v_25, e_41, e_44, qspl_z, qspl_s, evC_s, evD_none, evD_v, evD_s, c_0, c_1, b_0, b_1, b_2, (smE_no (k := 203) rfl), r_M_lands_0, r_M_lands_1, r_M_lands_4, r_M_lands_6, r_M_lands_9, r_M_lands_10, r_M_lands_13, r_M_lands_14, r_M_lands_17, r_M_lands_19, r_M_lands_22, r_M_lands_23, r_M_lands_26, r_M_lands_27, r_M_lands_30, r_M_lands_31, r_M_lands_32, r_M_lands_33, r_M_lands_35, r_M_lands_36, r_M_lands_37, r_M_lands_38, r_M_lands_41, r_M_lands_42, r_M_lands_44, r_M_lands_45, r_M_lands_48, r_M_lands_49, r_M_lands_50, r_M_lands_52, r_M_lands_53, r_M_lands_54, r_M_lands_55, r_M_lands_58, r_M_lands_59, r_M_lands_60, r_M_lands_61, r_M_lands_62, r_M_lands_65, r_M_lands_66, r_M_lands_67, r_M_lands_70, r_M_lands_73, (shS_o hs), (shS_r_now hs), (shS_k_now hs), I_val, I_add, I_sub, I_mul, ShM_mk, hs, hM_j2, inB, beq_iff_eq, (shS_o hs), (shS_r_said hs), (shS_k_said hs), (shS_r_waitsAt hs), (shS_k_waitsAt hs), hM_jr, set_jA, uA_uA, uA_same, uA_ne, u1_ne, u1_same, e13, el, hv, rk, e05, e12, I_div, I_rem, e99]
        repeat' (first | with_reducible apply And.intro | intro _)
        all_goals try (clear kK; omega)
        all_goals first | omega | exact kK _ _ _ _ (g _)
      rcases q with rfl | ⟨qb, rfl⟩
      · refine G_ev ok_M_lands (smE_ok (d := d - 1) (by omega)) (fun pc => pc == 22) 200 (by omega) (fun Kc kK => ?_)
        simp (disch := omega) only [ev_s, evN_ap, List.getElem?_cons_zero, List.getElem?_cons_succ, List.set_cons_zero, List.set_cons_succ, Bool.false_eq_true, ↓reduceIte, qrest_n, qrest_1, qrest_2, qrest_3, qrest_4, qrest_5, qrest_6, qtr_i, qtr_r, true_and, and_true, List.length_cons, List.length_nil, Int.cast_ofNat_Int, Int32.toInt_zero, false_implies, true_implies, not_false_eq_true, not_true_eq_false, Option.toList_some, Option.toList_none, List.cons_append, List.nil_append, Nat.reduceBEq, Nat.reduceEqDiff, Bool.or_self, or_self, Nat.reduceAdd, Nat.reduceLT, Nat.zero_add, Int.reduceAdd, Int.reduceLE, Int.reduceLT, Int.reduceEq, and_self, Int.reduceNeg, qrok_i, qrok_b0, qrok_b1, qrok_bI, Option.some.injEq, Value.int.injEq, J_bI0, J_bI1, Classical.not_not, Int.zero_add, Int.add_zero, Int.sub_zero, false_and, and_false, and_true, true_and, e_0, v_0, e_1, v_1, e_2, v_2, e_3, v_3, e_6, v_6, e_7, v_7, e_8, v_8, e_13, v_13, e_14, v_14, e_15, v_15, e_19, v_19, e_20, v_20, e_21, v_21, e_24, v_24, e_25, v_25, e_41, e_44, qspl_z, qspl_s, evC_s, evD_none, evD_v, evD_s, c_0, c_1, b_0, b_1, b_2, (smE_no (k := 203) rfl), r_M_lands_0, r_M_lands_1, r_M_lands_4, r_M_lands_6, r_M_lands_9, r_M_lands_10, r_M_lands_13, r_M_lands_14, r_M_lands_17, r_M_lands_19, r_M_lands_22, r_M_lands_23, r_M_lands_26, r_M_lands_27, r_M_lands_30, r_M_lands_31, r_M_lands_32, r_M_lands_33, r_M_lands_35, r_M_lands_36, r_M_lands_37, r_M_lands_38, r_M_lands_41, r_M_lands_42, r_M_lands_44, r_M_lands_45, r_M_lands_48, r_M_lands_49, r_M_lands_50, r_M_lands_52, r_M_lands_53, r_M_lands_54, r_M_lands_55, r_M_lands_58, r_M_lands_59, r_M_lands_60, r_M_lands_61, r_M_lands_62, r_M_lands_65, r_M_lands_66, r_M_lands_67, r_M_lands_70, r_M_lands_73, (shS_o hs), (shS_r_now hs), (shS_k_now hs), I_val, I_add, I_sub, I_mul, ShM_mk, hs, hM_j2, inB, beq_iff_eq]
        refine kK _ _ _ _ (GCD ok_M_lands r_M_lands_1 ⟨by decide, by decide⟩ qm_M_waitTop (hw) rfl rfl (fun _ => rcM hs) rfl (Nat.le_of_ble_eq_true rfl) (by omega) ?_)
        refine G_ev ok_M_lands (smE_ok (d := d - 1) (by omega)) (fun pc => pc == 22) 200 (by omega) (fun Kc kK => ?_)
        simp (disch := omega) only [ev_s, evN_ap, List.getElem?_cons_zero, List.getElem?_cons_succ, List.set_cons_zero, List.set_cons_succ, Bool.false_eq_true, ↓reduceIte, qrest_n, qrest_1, qrest_2, qrest_3, qrest_4, qrest_5, qrest_6, qtr_i, qtr_r, true_and, and_true, List.length_cons, List.length_nil, Int.cast_ofNat_Int, Int32.toInt_zero, false_implies, true_implies, not_false_eq_true, not_true_eq_false, Option.toList_some, Option.toList_none, List.cons_append, List.nil_append, Nat.reduceBEq, Nat.reduceEqDiff, Bool.or_self, or_self, Nat.reduceAdd, Nat.reduceLT, Nat.zero_add, Int.reduceAdd, Int.reduceLE, Int.reduceLT, Int.reduceEq, and_self, Int.reduceNeg, qrok_i, qrok_b0, qrok_b1, qrok_bI, Option.some.injEq, Value.int.injEq, J_bI0, J_bI1, Classical.not_not, Int.zero_add, Int.add_zero, Int.sub_zero, false_and, and_false, and_true, true_and, e_0, v_0, e_1, v_1, e_2, v_2, e_3, v_3, e_6, v_6, e_7, v_7, e_8, v_8, e_13, v_13, e_14, v_14, e_15, v_15, e_19, v_19, e_20, v_20, e_21, v_21, e_24, v_24, e_25, v_25, e_41, e_44, qspl_z, qspl_s, evC_s, evD_none, evD_v, evD_s, c_0, c_1, b_0, b_1, b_2, (smE_no (k := 203) rfl), r_M_lands_0, r_M_lands_1, r_M_lands_4, r_M_lands_6, r_M_lands_9, r_M_lands_10, r_M_lands_13, r_M_lands_14, r_M_lands_17, r_M_lands_19, r_M_lands_22, r_M_lands_23, r_M_lands_26, r_M_lands_27, r_M_lands_30, r_M_lands_31, r_M_lands_32, r_M_lands_33, r_M_lands_35, r_M_lands_36, r_M_lands_37, r_M_lands_38, r_M_lands_41, r_M_lands_42, r_M_lands_44, r_M_lands_45, r_M_lands_48, r_M_lands_49, r_M_lands_50, r_M_lands_52, r_M_lands_53, r_M_lands_54, r_M_lands_55, r_M_lands_58, r_M_lands_59, r_M_lands_60, r_M_lands_61, r_M_lands_62, r_M_lands_65, r_M_lands_66, r_M_lands_67, r_M_lands_70, r_M_lands_73, (shS_o hs), (shS_r_now hs), (shS_k_now hs), I_val, I_add, I_sub, I_mul, ShM_mk, hs, hM_j2, inB, beq_iff_eq]
        exact kK _ _ _ _ (nx _)
      · have b1 : b = 1 := by omega
        subst b1
        refine G_ev ok_M_lands (smE_ok (d := d - 1) (by omega)) (fun pc => pc == 22) 200 (by omega) (fun Kc kK => ?_)
        simp (disch := omega) only [ev_s, evN_ap, List.getElem?_cons_zero, List.getElem?_cons_succ, List.set_cons_zero, List.set_cons_succ, Bool.false_eq_true, ↓reduceIte, qrest_n, qrest_1, qrest_2, qrest_3, qrest_4, qrest_5, qrest_6, qtr_i, qtr_r, true_and, and_true, List.length_cons, List.length_nil, Int.cast_ofNat_Int, Int32.toInt_zero, false_implies, true_implies, not_false_eq_true, not_true_eq_false, Option.toList_some, Option.toList_none, List.cons_append, List.nil_append, Nat.reduceBEq, Nat.reduceEqDiff, Bool.or_self, or_self, Nat.reduceAdd, Nat.reduceLT, Nat.zero_add, Int.reduceAdd, Int.reduceLE, Int.reduceLT, Int.reduceEq, and_self, Int.reduceNeg, qrok_i, qrok_b0, qrok_b1, qrok_bI, Option.some.injEq, Value.int.injEq, J_bI0, J_bI1, Classical.not_not, Int.zero_add, Int.add_zero, Int.sub_zero, false_and, and_false, and_true, true_and, e_0, v_0, e_1, v_1, e_2, v_2, e_3, v_3, e_6, v_6, e_7, v_7, e_8, v_8, e_13, v_13, e_14, v_14, e_15, v_15, e_19, v_19, e_20, v_20, e_21, v_21, e_24, v_24, e_25, v_25, e_41, e_44, qspl_z, qspl_s, evC_s, evD_none, evD_v, evD_s, c_0, c_1, b_0, b_1, b_2, (smE_no (k := 203) rfl), r_M_lands_0, r_M_lands_1, r_M_lands_4, r_M_lands_6, r_M_lands_9, r_M_lands_10, r_M_lands_13, r_M_lands_14, r_M_lands_17, r_M_lands_19, r_M_lands_22, r_M_lands_23, r_M_lands_26, r_M_lands_27, r_M_lands_30, r_M_lands_31, r_M_lands_32, r_M_lands_33, r_M_lands_35, r_M_lands_36, r_M_lands_37, r_M_lands_38, r_M_lands_41, r_M_lands_42, r_M_lands_44, r_M_lands_45, r_M_lands_48, r_M_lands_49, r_M_lands_50, r_M_lands_52, r_M_lands_53, r_M_lands_54, r_M_lands_55, r_M_lands_58, r_M_lands_59, r_M_lands_60, r_M_lands_61, r_M_lands_62, r_M_lands_65, r_M_lands_66, r_M_lands_67, r_M_lands_70, r_M_lands_73, (shS_o hs), (shS_r_now hs), (shS_k_now hs), I_val, I_add, I_sub, I_mul, ShM_mk, hs, hM_j2, inB, beq_iff_eq]
        refine kK _ _ _ _ (GCD ok_M_lands r_M_lands_1 ⟨by decide, by decide⟩ qm_M_waitTop (hw) rfl rfl (fun _ => rcM hs) rfl (Nat.le_of_ble_eq_true rfl) (by omega) ?_)
        refine G_ev ok_M_lands (smE_ok (d := d - 1) (by omega)) (fun pc => pc == 22) 200 (by omega) (fun Kc kK => ?_)
        simp (disch := omega) only [ev_s, evN_ap, List.getElem?_cons_zero, List.getElem?_cons_succ, List.set_cons_zero, List.set_cons_succ, Bool.false_eq_true, ↓reduceIte, qrest_n, qrest_1, qrest_2, qrest_3, qrest_4, qrest_5, qrest_6, qtr_i, qtr_r, true_and, and_true, List.length_cons, List.length_nil, Int.cast_ofNat_Int, Int32.toInt_zero, false_implies, true_implies, not_false_eq_true, not_true_eq_false, Option.toList_some, Option.toList_none, List.cons_append, List.nil_append, Nat.reduceBEq, Nat.reduceEqDiff, Bool.or_self, or_self, Nat.reduceAdd, Nat.reduceLT, Nat.zero_add, Int.reduceAdd, Int.reduceLE, Int.reduceLT, Int.reduceEq, and_self, Int.reduceNeg, qrok_i, qrok_b0, qrok_b1, qrok_bI, Option.some.injEq, Value.int.injEq, J_bI0, J_bI1, Classical.not_not, Int.zero_add, Int.add_zero, Int.sub_zero, false_and, and_false, and_true, true_and, e_0, v_0, e_1, v_1, e_2, v_2, e_3, v_3, e_6, v_6, e_7, v_7, e_8, v_8, e_13, v_13, e_14, v_14, e_15, v_15, e_19, v_19, e_20, v_20, e_21, v_21, e_24, v_24, e_25, v_25, e_41, e_44, qspl_z, qspl_s, evC_s, evD_none, evD_v, evD_s, c_0, c_1, b_0, b_1, b_2, (smE_no (k := 203) rfl), r_M_lands_0, r_M_lands_1, r_M_lands_4, r_M_lands_6, r_M_lands_9, r_M_lands_10, r_M_lands_13, r_M_lands_14, r_M_lands_17, r_M_lands_19, r_M_lands_22, r_M_lands_23, r_M_lands_26, r_M_lands_27, r_M_lands_30, r_M_lands_31, r_M_lands_32, r_M_lands_33, r_M_lands_35, r_M_lands_36, r_M_lands_37, r_M_lands_38, r_M_lands_41, r_M_lands_42, r_M_lands_44, r_M_lands_45, r_M_lands_48, r_M_lands_49, r_M_lands_50, r_M_lands_52, r_M_lands_53, r_M_lands_54, r_M_lands_55, r_M_lands_58, r_M_lands_59, r_M_lands_60, r_M_lands_61, r_M_lands_62, r_M_lands_65, r_M_lands_66, r_M_lands_67, r_M_lands_70, r_M_lands_73, (shS_o hs), (shS_r_now hs), (shS_k_now hs), I_val, I_add, I_sub, I_mul, ShM_mk, hs, hM_j2, inB, beq_iff_eq]
        refine kK _ _ _ _ (GCD ok_M_lands r_M_lands_14 ⟨by decide, by decide⟩ qm_M_waitTop (hw) rfl rfl (fun _ => rcM hs) rfl (Nat.le_of_ble_eq_true rfl) (by omega) ?_)
        refine G_ev ok_M_lands (smE_ok (d := d - 1) (by omega)) (fun pc => pc == 22) 200 (by omega) (fun Kc kK => ?_)
        simp (disch := omega) only [ev_s, evN_ap, List.getElem?_cons_zero, List.getElem?_cons_succ, List.set_cons_zero, List.set_cons_succ, Bool.false_eq_true, ↓reduceIte, qrest_n, qrest_1, qrest_2, qrest_3, qrest_4, qrest_5, qrest_6, qtr_i, qtr_r, true_and, and_true, List.length_cons, List.length_nil, Int.cast_ofNat_Int, Int32.toInt_zero, false_implies, true_implies, not_false_eq_true, not_true_eq_false, Option.toList_some, Option.toList_none, List.cons_append, List.nil_append, Nat.reduceBEq, Nat.reduceEqDiff, Bool.or_self, or_self, Nat.reduceAdd, Nat.reduceLT, Nat.zero_add, Int.reduceAdd, Int.reduceLE, Int.reduceLT, Int.reduceEq, and_self, Int.reduceNeg, qrok_i, qrok_b0, qrok_b1, qrok_bI, Option.some.injEq, Value.int.injEq, J_bI0, J_bI1, Classical.not_not, Int.zero_add, Int.add_zero, Int.sub_zero, false_and, and_false, and_true, true_and, e_0, v_0, e_1, v_1, e_2, v_2, e_3, v_3, e_6, v_6, e_7, v_7, e_8, v_8, e_13, v_13, e_14, v_14, e_15, v_15, e_19, v_19, e_20, v_20, e_21, v_21, e_24, v_24, e_25, v_25, e_41, e_44, qspl_z, qspl_s, evC_s, evD_none, evD_v, evD_s, c_0, c_1, b_0, b_1, b_2, (smE_no (k := 203) rfl), r_M_lands_0, r_M_lands_1, r_M_lands_4, r_M_lands_6, r_M_lands_9, r_M_lands_10, r_M_lands_13, r_M_lands_14, r_M_lands_17, r_M_lands_19, r_M_lands_22, r_M_lands_23, r_M_lands_26, r_M_lands_27, r_M_lands_30, r_M_lands_31, r_M_lands_32, r_M_lands_33, r_M_lands_35, r_M_lands_36, r_M_lands_37, r_M_lands_38, r_M_lands_41, r_M_lands_42, r_M_lands_44, r_M_lands_45, r_M_lands_48, r_M_lands_49, r_M_lands_50, r_M_lands_52, r_M_lands_53, r_M_lands_54, r_M_lands_55, r_M_lands_58, r_M_lands_59, r_M_lands_60, r_M_lands_61, r_M_lands_62, r_M_lands_65, r_M_lands_66, r_M_lands_67, r_M_lands_70, r_M_lands_73, (shS_o hs), (shS_r_now hs), (shS_k_now hs), I_val, I_add, I_sub, I_mul, ShM_mk, hs, hM_j2, inB, beq_iff_eq]
        exact kK _ _ _ _ (nx _)
    · rw [if_neg q] at hQ
      have hQ1 : Q none (mkH s (jn c r)) := hQ r hF h
      clear ih
      unfold jpQ at q
      rcases hb with rfl | rfl
      · refine G_ev ok_M_lands (smE_ok (d := d - 1) (by omega)) (fun _ => false) 200 (by omega) (fun Kc kK => ?_)
        simp (disch := omega) only [ev_s, evN_ap, List.getElem?_cons_zero, List.getElem?_cons_succ, List.set_cons_zero, List.set_cons_succ, Bool.false_eq_true, ↓reduceIte, qrest_n, qrest_1, qrest_2, qrest_3, qrest_4, qrest_5, qrest_6, qtr_i, qtr_r, true_and, and_true, List.length_cons, List.length_nil, Int.cast_ofNat_Int, Int32.toInt_zero, false_implies, true_implies, not_false_eq_true, not_true_eq_false, Option.toList_some, Option.toList_none, List.cons_append, List.nil_append, Nat.reduceBEq, Nat.reduceEqDiff, Bool.or_self, or_self, Nat.reduceAdd, Nat.reduceLT, Nat.zero_add, Int.reduceAdd, Int.reduceLE, Int.reduceLT, Int.reduceEq, and_self, Int.reduceNeg, qrok_i, qrok_b0, qrok_b1, qrok_bI, Option.some.injEq, Value.int.injEq, J_bI0, J_bI1, Classical.not_not, Int.zero_add, Int.add_zero, Int.sub_zero, false_and, and_false, and_true, true_and, e_0, v_0, e_1, v_1, e_2, v_2, e_3, v_3, e_6, v_6, e_7, v_7, e_8, v_8, e_13, v_13, e_14, v_14, e_15, v_15, e_19, v_19, e_20, v_20, e_21, v_21, e_24, v_24, e_25, v_25, e_41, e_44, qspl_z, qspl_s, evC_s, evD_none, evD_v, evD_s, c_0, c_1, b_0, b_1, b_2, (smE_no (k := 203) rfl), r_M_lands_0, r_M_lands_1, r_M_lands_4, r_M_lands_6, r_M_lands_9, r_M_lands_10, r_M_lands_13, r_M_lands_14, r_M_lands_17, r_M_lands_19, r_M_lands_22, r_M_lands_23, r_M_lands_26, r_M_lands_27, r_M_lands_30, r_M_lands_31, r_M_lands_32, r_M_lands_33, r_M_lands_35, r_M_lands_36, r_M_lands_37, r_M_lands_38, r_M_lands_41, r_M_lands_42, r_M_lands_44, r_M_lands_45, r_M_lands_48, r_M_lands_49, r_M_lands_50, r_M_lands_52, r_M_lands_53, r_M_lands_54, r_M_lands_55, r_M_lands_58, r_M_lands_59, r_M_lands_60, r_M_lands_61, r_M_lands_62, r_M_lands_65, r_M_lands_66, r_M_lands_67, r_M_lands_70, r_M_lands_73, (shS_o hs), (shS_r_now hs), (shS_k_now hs), I_val, I_add, I_sub, I_mul, ShM_mk, hs, hM_j2, inB, beq_iff_eq]
        refine kK _ _ _ _ (GCD ok_M_lands r_M_lands_1 ⟨by decide, by decide⟩ qm_M_waitTop (hw) rfl rfl (fun _ => rcM hs) rfl (Nat.le_of_ble_eq_true rfl) (by omega) ?_)
        refine G_ev ok_M_lands (smE_ok (d := d - 1) (by omega)) (fun _ => false) 200 (by omega) (fun Kc kK => ?_)
        simp (disch := omega) only [ev_s, evN_ap, List.getElem?_cons_zero, List.getElem?_cons_succ, List.set_cons_zero, List.set_cons_succ, Bool.false_eq_true, ↓reduceIte, qrest_n, qrest_1, qrest_2, qrest_3, qrest_4, qrest_5, qrest_6, qtr_i, qtr_r, true_and, and_true, List.length_cons, List.length_nil, Int.cast_ofNat_Int, Int32.toInt_zero, false_implies, true_implies, not_false_eq_true, not_true_eq_false, Option.toList_some, Option.toList_none, List.cons_append, List.nil_append, Nat.reduceBEq, Nat.reduceEqDiff, Bool.or_self, or_self, Nat.reduceAdd, Nat.reduceLT, Nat.zero_add, Int.reduceAdd, Int.reduceLE, Int.reduceLT, Int.reduceEq, and_self, Int.reduceNeg, qrok_i, qrok_b0, qrok_b1, qrok_bI, Option.some.injEq, Value.int.injEq, J_bI0, J_bI1, Classical.not_not, Int.zero_add, Int.add_zero, Int.sub_zero, false_and, and_false, and_true, true_and, e_0, v_0, e_1, v_1, e_2, v_2, e_3, v_3, e_6, v_6, e_7, v_7, e_8, v_8, e_13, v_13, e_14, v_14, e_15, v_15, e_19, v_19, e_20, v_20, e_21, v_21, e_24, v_24, e_25, v_25, e_41, e_44, qspl_z, qspl_s, evC_s, evD_none, evD_v, evD_s, c_0, c_1, b_0, b_1, b_2, (smE_no (k := 203) rfl), r_M_lands_0, r_M_lands_1, r_M_lands_4, r_M_lands_6, r_M_lands_9, r_M_lands_10, r_M_lands_13, r_M_lands_14, r_M_lands_17, r_M_lands_19, r_M_lands_22, r_M_lands_23, r_M_lands_26, r_M_lands_27, r_M_lands_30, r_M_lands_31, r_M_lands_32, r_M_lands_33, r_M_lands_35, r_M_lands_36, r_M_lands_37, r_M_lands_38, r_M_lands_41, r_M_lands_42, r_M_lands_44, r_M_lands_45, r_M_lands_48, r_M_lands_49, r_M_lands_50, r_M_lands_52, r_M_lands_53, r_M_lands_54, r_M_lands_55, r_M_lands_58, r_M_lands_59, r_M_lands_60, r_M_lands_61, r_M_lands_62, r_M_lands_65, r_M_lands_66, r_M_lands_67, r_M_lands_70, r_M_lands_73, (shS_o hs), (shS_r_now hs), (shS_k_now hs), I_val, I_add, I_sub, I_mul, ShM_mk, hs, hM_j2, inB, beq_iff_eq]
        repeat' (first | with_reducible apply And.intro | intro _)
        all_goals try (clear kK; omega)
        all_goals first | omega | exact hQ1
      · refine G_ev ok_M_lands (smE_ok (d := d - 1) (by omega)) (fun _ => false) 200 (by omega) (fun Kc kK => ?_)
        simp (disch := omega) only [ev_s, evN_ap, List.getElem?_cons_zero, List.getElem?_cons_succ, List.set_cons_zero, List.set_cons_succ, Bool.false_eq_true, ↓reduceIte, qrest_n, qrest_1, qrest_2, qrest_3, qrest_4, qrest_5, qrest_6, qtr_i, qtr_r, true_and, and_true, List.length_cons, List.length_nil, Int.cast_ofNat_Int, Int32.toInt_zero, false_implies, true_implies, not_false_eq_true, not_true_eq_false, Option.toList_some, Option.toList_none, List.cons_append, List.nil_append, Nat.reduceBEq, Nat.reduceEqDiff, Bool.or_self, or_self, Nat.reduceAdd, Nat.reduceLT, Nat.zero_add, Int.reduceAdd, Int.reduceLE, Int.reduceLT, Int.reduceEq, and_self, Int.reduceNeg, qrok_i, qrok_b0, qrok_b1, qrok_bI, Option.some.injEq, Value.int.injEq, J_bI0, J_bI1, Classical.not_not, Int.zero_add, Int.add_zero, Int.sub_zero, false_and, and_false, and_true, true_and, e_0, v_0, e_1, v_1, e_2, v_2, e_3, v_3, e_6, v_6, e_7, v_7, e_8, v_8, e_13, v_13, e_14, v_14, e_15, v_15, e_19, v_19, e_20, v_20, e_21, v_21, e_24, v_24, e_25, v_25, e_41, e_44, qspl_z, qspl_s, evC_s, evD_none, evD_v, evD_s, c_0, c_1, b_0, b_1, b_2, (smE_no (k := 203) rfl), r_M_lands_0, r_M_lands_1, r_M_lands_4, r_M_lands_6, r_M_lands_9, r_M_lands_10, r_M_lands_13, r_M_lands_14, r_M_lands_17, r_M_lands_19, r_M_lands_22, r_M_lands_23, r_M_lands_26, r_M_lands_27, r_M_lands_30, r_M_lands_31, r_M_lands_32, r_M_lands_33, r_M_lands_35, r_M_lands_36, r_M_lands_37, r_M_lands_38, r_M_lands_41, r_M_lands_42, r_M_lands_44, r_M_lands_45, r_M_lands_48, r_M_lands_49, r_M_lands_50, r_M_lands_52, r_M_lands_53, r_M_lands_54, r_M_lands_55, r_M_lands_58, r_M_lands_59, r_M_lands_60, r_M_lands_61, r_M_lands_62, r_M_lands_65, r_M_lands_66, r_M_lands_67, r_M_lands_70, r_M_lands_73, (shS_o hs), (shS_r_now hs), (shS_k_now hs), I_val, I_add, I_sub, I_mul, ShM_mk, hs, hM_j2, inB, beq_iff_eq]
        refine kK _ _ _ _ (GCD ok_M_lands r_M_lands_1 ⟨by decide, by decide⟩ qm_M_waitTop (hw) rfl rfl (fun _ => rcM hs) rfl (Nat.le_of_ble_eq_true rfl) (by omega) ?_)
        refine G_ev ok_M_lands (smE_ok (d := d - 1) (by omega)) (fun _ => false) 200 (by omega) (fun Kc kK => ?_)
        simp (disch := omega) only [ev_s, evN_ap, List.getElem?_cons_zero, List.getElem?_cons_succ, List.set_cons_zero, List.set_cons_succ, Bool.false_eq_true, ↓reduceIte, qrest_n, qrest_1, qrest_2, qrest_3, qrest_4, qrest_5, qrest_6, qtr_i, qtr_r, true_and, and_true, List.length_cons, List.length_nil, Int.cast_ofNat_Int, Int32.toInt_zero, false_implies, true_implies, not_false_eq_true, not_true_eq_false, Option.toList_some, Option.toList_none, List.cons_append, List.nil_append, Nat.reduceBEq, Nat.reduceEqDiff, Bool.or_self, or_self, Nat.reduceAdd, Nat.reduceLT, Nat.zero_add, Int.reduceAdd, Int.reduceLE, Int.reduceLT, Int.reduceEq, and_self, Int.reduceNeg, qrok_i, qrok_b0, qrok_b1, qrok_bI, Option.some.injEq, Value.int.injEq, J_bI0, J_bI1, Classical.not_not, Int.zero_add, Int.add_zero, Int.sub_zero, false_and, and_false, and_true, true_and, e_0, v_0, e_1, v_1, e_2, v_2, e_3, v_3, e_6, v_6, e_7, v_7, e_8, v_8, e_13, v_13, e_14, v_14, e_15, v_15, e_19, v_19, e_20, v_20, e_21, v_21, e_24, v_24, e_25, v_25, e_41, e_44, qspl_z, qspl_s, evC_s, evD_none, evD_v, evD_s, c_0, c_1, b_0, b_1, b_2, (smE_no (k := 203) rfl), r_M_lands_0, r_M_lands_1, r_M_lands_4, r_M_lands_6, r_M_lands_9, r_M_lands_10, r_M_lands_13, r_M_lands_14, r_M_lands_17, r_M_lands_19, r_M_lands_22, r_M_lands_23, r_M_lands_26, r_M_lands_27, r_M_lands_30, r_M_lands_31, r_M_lands_32, r_M_lands_33, r_M_lands_35, r_M_lands_36, r_M_lands_37, r_M_lands_38, r_M_lands_41, r_M_lands_42, r_M_lands_44, r_M_lands_45, r_M_lands_48, r_M_lands_49, r_M_lands_50, r_M_lands_52, r_M_lands_53, r_M_lands_54, r_M_lands_55, r_M_lands_58, r_M_lands_59, r_M_lands_60, r_M_lands_61, r_M_lands_62, r_M_lands_65, r_M_lands_66, r_M_lands_67, r_M_lands_70, r_M_lands_73, (shS_o hs), (shS_r_now hs), (shS_k_now hs), I_val, I_add, I_sub, I_mul, ShM_mk, hs, hM_j2, inB, beq_iff_eq]
        repeat' (first | with_reducible apply And.intro | intro _)
        all_goals try (clear kK; omega)
        all_goals try omega
        refine kK _ _ _ _ (GCD ok_M_lands r_M_lands_14 ⟨by decide, by decide⟩ qm_M_waitTop (hw) rfl rfl (fun _ => rcM hs) rfl (Nat.le_of_ble_eq_true rfl) (by omega) ?_)
        refine G_ev ok_M_lands (smE_ok (d := d - 1) (by omega)) (fun _ => false) 200 (by omega) (fun Kc kK => ?_)
        simp (disch := omega) only [ev_s, evN_ap, List.getElem?_cons_zero, List.getElem?_cons_succ, List.set_cons_zero, List.set_cons_succ, Bool.false_eq_true, ↓reduceIte, qrest_n, qrest_1, qrest_2, qrest_3, qrest_4, qrest_5, qrest_6, qtr_i, qtr_r, true_and, and_true, List.length_cons, List.length_nil, Int.cast_ofNat_Int, Int32.toInt_zero, false_implies, true_implies, not_false_eq_true, not_true_eq_false, Option.toList_some, Option.toList_none, List.cons_append, List.nil_append, Nat.reduceBEq, Nat.reduceEqDiff, Bool.or_self, or_self, Nat.reduceAdd, Nat.reduceLT, Nat.zero_add, Int.reduceAdd, Int.reduceLE, Int.reduceLT, Int.reduceEq, and_self, Int.reduceNeg, qrok_i, qrok_b0, qrok_b1, qrok_bI, Option.some.injEq, Value.int.injEq, J_bI0, J_bI1, Classical.not_not, Int.zero_add, Int.add_zero, Int.sub_zero, false_and, and_false, and_true, true_and, e_0, v_0, e_1, v_1, e_2, v_2, e_3, v_3, e_6, v_6, e_7, v_7, e_8, v_8, e_13, v_13, e_14, v_14, e_15, v_15, e_19, v_19, e_20, v_20, e_21, v_21, e_24, v_24, e_25, v_25, e_41, e_44, qspl_z, qspl_s, evC_s, evD_none, evD_v, evD_s, c_0, c_1, b_0, b_1, b_2, (smE_no (k := 203) rfl), r_M_lands_0, r_M_lands_1, r_M_lands_4, r_M_lands_6, r_M_lands_9, r_M_lands_10, r_M_lands_13, r_M_lands_14, r_M_lands_17, r_M_lands_19, r_M_lands_22, r_M_lands_23, r_M_lands_26, r_M_lands_27, r_M_lands_30, r_M_lands_31, r_M_lands_32, r_M_lands_33, r_M_lands_35, r_M_lands_36, r_M_lands_37, r_M_lands_38, r_M_lands_41, r_M_lands_42, r_M_lands_44, r_M_lands_45, r_M_lands_48, r_M_lands_49, r_M_lands_50, r_M_lands_52, r_M_lands_53, r_M_lands_54, r_M_lands_55, r_M_lands_58, r_M_lands_59, r_M_lands_60, r_M_lands_61, r_M_lands_62, r_M_lands_65, r_M_lands_66, r_M_lands_67, r_M_lands_70, r_M_lands_73, (shS_o hs), (shS_r_now hs), (shS_k_now hs), I_val, I_add, I_sub, I_mul, ShM_mk, hs, hM_j2, inB, beq_iff_eq]
        repeat' (first | with_reducible apply And.intro | intro _)
        all_goals try (clear kK; omega)
        all_goals first | omega | exact hQ1
theorem T_M_lands {Y : List (Int × Int × Int)} (hd : 10 ≤ d) (hs : ShMs s) (hb : b = 0 ∨ b = 1) (h : LrS r n K U (wcY Y) o) (hy : yT Y) (hN : yN K.2.1 Y) : T l V mi_M_lands (rm d) 0 0 [.ref 2198, .int (Int32.ofInt b)] (mkH s (jn c r)) (fun v h' => v = none ∧ ∃ r', h' = mkH s (jn c r') ∧ LrF r r' ∧ LrS r' n (lnF b K Y).1 U (wcY (lnF b K Y).2) o) :=
  T_of qm_M_lands rfl (Nat.le_of_ble_eq_true rfl) (rm_ok d) (LM_la hd hs hb Y K r _ LrF_rf h hy hN (fun r' f1 l1 => ⟨rfl, r', rfl, f1, l1⟩))
set_option maxHeartbeats 2000000 in
set_option maxRecDepth 100000 in
theorem LM_ep (hd : 10 ≤ d) (hs : ShMs s) : ∀ (Y : List (Int × Int × Int)) (K : LK) (r : qI), LrF r0 r → LrS r n K U (wcY Y) (nY Y) → yT Y → K.2.1 + nex Y ≤ K.1 →
    (∀ r', LrF r0 r' → LrS r' n (epF K Y).1 U (wcY (epF K Y).2) (nY (epF K Y).2) → Q none (mkH s (jn c r'))) →
    G l V mi_M_endsPiece (rm d) 0 0 Q 0 0 0 [.ref 2198] [] (mkH s (jn c r)) := by
  intro Y
  induction Y with
  | nil =>
    intro K r hF h hy hm hQ
    have hQ : Q none (mkH s (jn c r)) := hQ r hF h
    have hw := T_M_waitTop (l := l) (V := V) (d := d - 1) (c := c) (by omega) hs h
    have e : wtp (wcY []) = -1 := rfl
    rw [e] at hw
    refine G_ev ok_M_endsPiece (smE_ok (d := d - 1) (by omega)) (fun _ => false) 200 (by omega) (fun Kc kK => ?_)
    simp (disch := omega) only [ev_s, evN_ap, List.getElem?_cons_zero, List.getElem?_cons_succ, List.set_cons_zero, List.set_cons_succ, Bool.false_eq_true, ↓reduceIte, qrest_n, qrest_1, qrest_2, qrest_3, qrest_4, qrest_5, qrest_6, qtr_i, qtr_r, true_and, and_true, List.length_cons, List.length_nil, Int.cast_ofNat_Int, Int32.toInt_zero, false_implies, true_implies, not_false_eq_true, not_true_eq_false, Option.toList_some, Option.toList_none, List.cons_append, List.nil_append, Nat.reduceBEq, Nat.reduceEqDiff, Bool.or_self, or_self, Nat.reduceAdd, Nat.reduceLT, Nat.zero_add, Int.reduceAdd, Int.reduceLE, Int.reduceLT, Int.reduceEq, and_self, Int.reduceNeg, qrok_i, qrok_b0, qrok_b1, qrok_bI, Option.some.injEq, Value.int.injEq, J_bI0, J_bI1, Classical.not_not, Int.zero_add, Int.add_zero, Int.sub_zero, false_and, and_false, and_true, true_and, e_0, v_0, e_2, v_2, e_6, v_6, e_13, v_13, e_15, v_15, e_19, v_19, e_21, v_21, e_41, e_44, qspl_z, qspl_s, evC_s, evD_none, evD_v, evD_s, c_1, b_1, (smE_no (k := 201) rfl), (smE_no (k := 203) rfl), r_M_endsPiece_0, r_M_endsPiece_1, r_M_endsPiece_4, r_M_endsPiece_6, r_M_endsPiece_9, r_M_endsPiece_10, r_M_endsPiece_12, r_M_endsPiece_13, r_M_endsPiece_16, r_M_endsPiece_17, r_M_endsPiece_18, r_M_endsPiece_21, r_M_endsPiece_22, r_M_endsPiece_23, r_M_endsPiece_26, r_M_endsPiece_27, r_M_endsPiece_28, r_M_endsPiece_31, r_M_endsPiece_32, r_M_endsPiece_33, r_M_endsPiece_36, r_M_endsPiece_39, (shS_o hs), (shS_r_now hs), (shS_k_now hs), I_val, I_add, I_sub, I_mul, ShM_mk, hs, hM_j2, inB, beq_iff_eq]
    refine kK _ _ _ _ (GCD ok_M_endsPiece r_M_endsPiece_1 ⟨by decide, by decide⟩ qm_M_waitTop (hw) rfl rfl (fun _ => rcM hs) rfl (Nat.le_of_ble_eq_true rfl) (by omega) ?_)
    refine G_ev ok_M_endsPiece (smE_ok (d := d - 1) (by omega)) (fun _ => false) 200 (by omega) (fun Kc kK => ?_)
    simp (disch := omega) only [ev_s, evN_ap, List.getElem?_cons_zero, List.getElem?_cons_succ, List.set_cons_zero, List.set_cons_succ, Bool.false_eq_true, ↓reduceIte, qrest_n, qrest_1, qrest_2, qrest_3, qrest_4, qrest_5, qrest_6, qtr_i, qtr_r, true_and, and_true, List.length_cons, List.length_nil, Int.cast_ofNat_Int, Int32.toInt_zero, false_implies, true_implies, not_false_eq_true, not_true_eq_false, Option.toList_some, Option.toList_none, List.cons_append, List.nil_append, Nat.reduceBEq, Nat.reduceEqDiff, Bool.or_self, or_self, Nat.reduceAdd, Nat.reduceLT, Nat.zero_add, Int.reduceAdd, Int.reduceLE, Int.reduceLT, Int.reduceEq, and_self, Int.reduceNeg, qrok_i, qrok_b0, qrok_b1, qrok_bI, Option.some.injEq, Value.int.injEq, J_bI0, J_bI1, Classical.not_not, Int.zero_add, Int.add_zero, Int.sub_zero, false_and, and_false, and_true, true_and, e_0, v_0, e_2, v_2, e_6, v_6, e_13, v_13, e_15, v_15, e_19, v_19, e_21, v_21, e_41, e_44, qspl_z, qspl_s, evC_s, evD_none, evD_v, evD_s, c_1, b_1, (smE_no (k := 201) rfl), (smE_no (k := 203) rfl), r_M_endsPiece_0, r_M_endsPiece_1, r_M_endsPiece_4, r_M_endsPiece_6, r_M_endsPiece_9, r_M_endsPiece_10, r_M_endsPiece_12, r_M_endsPiece_13, r_M_endsPiece_16, r_M_endsPiece_17, r_M_endsPiece_18, r_M_endsPiece_21, r_M_endsPiece_22, r_M_endsPiece_23, r_M_endsPiece_26, r_M_endsPiece_27, r_M_endsPiece_28, r_M_endsPiece_31, r_M_endsPiece_32, r_M_endsPiece_33, r_M_endsPiece_36, r_M_endsPiece_39, (shS_o hs), (shS_r_now hs), (shS_k_now hs), I_val, I_add, I_sub, I_mul, ShM_mk, hs, hM_j2, inB, beq_iff_eq]
    exact hQ
  | cons e Y ih =>
    intro K r hF h hy hm hQ
    have he := hy e List.mem_cons_self
    have hw := T_M_waitTop (l := l) (V := V) (d := d - 1) (c := c) (by omega) hs h
    rw [wt_e hy] at hw
    rw [epF] at hQ
    by_cases q : e.1 = 10
    · rw [if_pos q] at hQ
      rw [q] at hw
      have n0 := nex_0 Y
      have n1 := nY_0 Y
      have e1 : nex (e :: Y) = 1 + nex Y := by rw [nex, if_pos q]
      have e2 : nY (e :: Y) = 1 + nY Y := by rw [nY, if_pos (Or.inl q)]
      rw [e1] at hm
      rw [e2] at h
      have hn := T_M_notes (l := l) (V := V) (d := d - 1) (c := c) (x := 10) (a := 0) (by omega) hs h (by omega) (by omega) (by omega)
      have nx : ∀ (v1 : Option Value) (h1 : qH), (v1 = none ∧ ∃ r', h1 = mkH s (jn c r') ∧ LrF r r' ∧ LrS r' n (emK K 10 0) U (wcY (e :: Y)) (1 + nY Y)) → v1 = none ∧ G l V mi_M_endsPiece (rm d) 0 0 Q 0 0 16 [.ref 2198] [] h1 := by
        intro v1 h1 q1
        obtain ⟨rfl, r1, rfl, f1, l1⟩ := q1
        refine ⟨rfl, ?_⟩
        have l1' : LrS r1 n (emK K 10 0) U ((1048576 * e.1 + e.2.1) :: wcY Y) (1 + nY Y) := l1
        obtain ⟨-, -, e13, e11, -, -⟩ := LrS_p l1'
        have b1 := LrS_b l1'
        have hlen : (((1048576 * e.1 + e.2.1) :: wcY Y).length : Int) = ((wcY Y).length : Int) + 1 := by rw [List.length_cons]; omega
        rw [hlen] at e13 b1
        have l2 : LrS (uA r1 2198 (u1 (u1 (r1 2198) 13 ((wcY Y).length : Int)) 11 (nY Y))) n (emK K 10 0) U (wcY Y) (nY Y) :=
          LrS_X (p' := (emK K 10 0).1) (W' := wcY Y) (o' := nY Y) l1' (by rw [u1_ne (by omega), u1_ne (by omega)]; exact (LrS_p l1').1) (by rw [u1_ne (by omega), u1_same]) u1_same (fun k k1 k2 k3 k4 k5 => by rw [u1_ne k4, u1_ne k5]) (Or.inr ⟨_, rfl⟩) ⟨b1.1.1, b1.1.2.2.2, by omega⟩ (by omega)
        have g := ih (emK K 10 0) _ (LrF_tr (LrF_tr hF f1) (LrF_98 (fun k k1 k2 => by rw [u1_ne (by omega), u1_ne (by omega)]))) l2 (fun e' he' => hy e' (List.mem_cons_of_mem _ he')) (by show K.2.1 + 1 + nex Y ≤ K.1; omega) hQ
        have el : ((wcY Y).length : Int) + 1 - 1 = ((wcY Y).length : Int) := by omega
        have eo : 1 + nY Y - 1 = nY Y := by omega
        have z0 : 0 ≤ ((wcY Y).length : Int) ∧ ((wcY Y).length : Int) ≤ 1000 := by omega
        have z1 : nY Y ≤ 6 := by omega
        clear ih hQ
        generalize ((wcY Y).length : Int) = L at *
        generalize nY Y = M at *
        refine G_ev ok_M_endsPiece (smE_ok (d := d - 1) (by omega)) (fun pc => pc == 0) 200 (by omega) (fun Kc kK => ?_)
        simp (disch := omega) only [ev_s, evN_ap, List.getElem?_cons_zero, List.getElem?_cons_succ, List.set_cons_zero, List.set_cons_succ, Bool.false_eq_true, ↓reduceIte, qrest_n, qrest_1, qrest_2, qrest_3, qrest_4, qrest_5, qrest_6, qtr_i, qtr_r, true_and, and_true, List.length_cons, List.length_nil, Int.cast_ofNat_Int, Int32.toInt_zero, false_implies, true_implies, not_false_eq_true, not_true_eq_false, Option.toList_some, Option.toList_none, List.cons_append, List.nil_append, Nat.reduceBEq, Nat.reduceEqDiff, Bool.or_self, or_self, Nat.reduceAdd, Nat.reduceLT, Nat.zero_add, Int.reduceAdd, Int.reduceLE, Int.reduceLT, Int.reduceEq, and_self, Int.reduceNeg, qrok_i, qrok_b0, qrok_b1, qrok_bI, Option.some.injEq, Value.int.injEq, J_bI0, J_bI1, Classical.not_not, Int.zero_add, Int.add_zero, Int.sub_zero, false_and, and_false, and_true, true_and, e_0, v_0, e_2, v_2, e_6, v_6, e_13, v_13, e_15, v_15, e_19, v_19, e_21, v_21, e_41, e_44, qspl_z, qspl_s, evC_s, evD_none, evD_v, evD_s, c_1, b_1, (smE_no (k := 201) rfl), (smE_no (k := 203) rfl), r_M_endsPiece_0, r_M_endsPiece_1, r_M_endsPiece_4, r_M_endsPiece_6, r_M_endsPiece_9, r_M_endsPiece_10, r_M_endsPiece_12, r_M_endsPiece_13, r_M_endsPiece_16, r_M_endsPiece_17, r_M_endsPiece_18, r_M_endsPiece_21, r_M_endsPiece_22, r_M_endsPiece_23, r_M_endsPiece_26, r_M_endsPiece_27, r_M_endsPiece_28, r_M_endsPiece_31, r_M_endsPiece_32, r_M_endsPiece_33, r_M_endsPiece_36, r_M_endsPiece_39, (shS_o hs), (shS_r_now hs), (shS_k_now hs), I_val, I_add, I_sub, I_mul, ShM_mk, hs, hM_j2, inB, beq_iff_eq, hM_jr, set_jA, uA_uA, uA_same, u1_ne, u1_same, e13, el, e11, eo]
        repeat' (first | with_reducible apply And.intro | intro _)
        all_goals try (clear kK; omega)
        all_goals first | omega | exact kK _ _ _ _ g
      clear ih hQ
      refine G_ev ok_M_endsPiece (smE_ok (d := d - 1) (by omega)) (fun _ => false) 200 (by omega) (fun Kc kK => ?_)
      simp (disch := omega) only [ev_s, evN_ap, List.getElem?_cons_zero, List.getElem?_cons_succ, List.set_cons_zero, List.set_cons_succ, Bool.false_eq_true, ↓reduceIte, qrest_n, qrest_1, qrest_2, qrest_3, qrest_4, qrest_5, qrest_6, qtr_i, qtr_r, true_and, and_true, List.length_cons, List.length_nil, Int.cast_ofNat_Int, Int32.toInt_zero, false_implies, true_implies, not_false_eq_true, not_true_eq_false, Option.toList_some, Option.toList_none, List.cons_append, List.nil_append, Nat.reduceBEq, Nat.reduceEqDiff, Bool.or_self, or_self, Nat.reduceAdd, Nat.reduceLT, Nat.zero_add, Int.reduceAdd, Int.reduceLE, Int.reduceLT, Int.reduceEq, and_self, Int.reduceNeg, qrok_i, qrok_b0, qrok_b1, qrok_bI, Option.some.injEq, Value.int.injEq, J_bI0, J_bI1, Classical.not_not, Int.zero_add, Int.add_zero, Int.sub_zero, false_and, and_false, and_true, true_and, e_0, v_0, e_2, v_2, e_6, v_6, e_13, v_13, e_15, v_15, e_19, v_19, e_21, v_21, e_41, e_44, qspl_z, qspl_s, evC_s, evD_none, evD_v, evD_s, c_1, b_1, (smE_no (k := 201) rfl), (smE_no (k := 203) rfl), r_M_endsPiece_0, r_M_endsPiece_1, r_M_endsPiece_4, r_M_endsPiece_6, r_M_endsPiece_9, r_M_endsPiece_10, r_M_endsPiece_12, r_M_endsPiece_13, r_M_endsPiece_16, r_M_endsPiece_17, r_M_endsPiece_18, r_M_endsPiece_21, r_M_endsPiece_22, r_M_endsPiece_23, r_M_endsPiece_26, r_M_endsPiece_27, r_M_endsPiece_28, r_M_endsPiece_31, r_M_endsPiece_32, r_M_endsPiece_33, r_M_endsPiece_36, r_M_endsPiece_39, (shS_o hs), (shS_r_now hs), (shS_k_now hs), I_val, I_add, I_sub, I_mul, ShM_mk, hs, hM_j2, inB, beq_iff_eq]
      refine kK _ _ _ _ (GCD ok_M_endsPiece r_M_endsPiece_1 ⟨by decide, by decide⟩ qm_M_waitTop (hw) rfl rfl (fun _ => rcM hs) rfl (Nat.le_of_ble_eq_true rfl) (by omega) ?_)
      refine G_ev ok_M_endsPiece (smE_ok (d := d - 1) (by omega)) (fun _ => false) 200 (by omega) (fun Kc kK => ?_)
      simp (disch := omega) only [ev_s, evN_ap, List.getElem?_cons_zero, List.getElem?_cons_succ, List.set_cons_zero, List.set_cons_succ, Bool.false_eq_true, ↓reduceIte, qrest_n, qrest_1, qrest_2, qrest_3, qrest_4, qrest_5, qrest_6, qtr_i, qtr_r, true_and, and_true, List.length_cons, List.length_nil, Int.cast_ofNat_Int, Int32.toInt_zero, false_implies, true_implies, not_false_eq_true, not_true_eq_false, Option.toList_some, Option.toList_none, List.cons_append, List.nil_append, Nat.reduceBEq, Nat.reduceEqDiff, Bool.or_self, or_self, Nat.reduceAdd, Nat.reduceLT, Nat.zero_add, Int.reduceAdd, Int.reduceLE, Int.reduceLT, Int.reduceEq, and_self, Int.reduceNeg, qrok_i, qrok_b0, qrok_b1, qrok_bI, Option.some.injEq, Value.int.injEq, J_bI0, J_bI1, Classical.not_not, Int.zero_add, Int.add_zero, Int.sub_zero, false_and, and_false, and_true, true_and, e_0, v_0, e_2, v_2, e_6, v_6, e_13, v_13, e_15, v_15, e_19, v_19, e_21, v_21, e_41, e_44, qspl_z, qspl_s, evC_s, evD_none, evD_v, evD_s, c_1, b_1, (smE_no (k := 201) rfl), (smE_no (k := 203) rfl), r_M_endsPiece_0, r_M_endsPiece_1, r_M_endsPiece_4, r_M_endsPiece_6, r_M_endsPiece_9, r_M_endsPiece_10, r_M_endsPiece_12, r_M_endsPiece_13, r_M_endsPiece_16, r_M_endsPiece_17, r_M_endsPiece_18, r_M_endsPiece_21, r_M_endsPiece_22, r_M_endsPiece_23, r_M_endsPiece_26, r_M_endsPiece_27, r_M_endsPiece_28, r_M_endsPiece_31, r_M_endsPiece_32, r_M_endsPiece_33, r_M_endsPiece_36, r_M_endsPiece_39, (shS_o hs), (shS_r_now hs), (shS_k_now hs), I_val, I_add, I_sub, I_mul, ShM_mk, hs, hM_j2, inB, beq_iff_eq]
      refine kK _ _ _ _ (GCQ ok_M_endsPiece r_M_endsPiece_13 ⟨by decide, by decide⟩ qm_M_notes hn rfl rfl (fun _ => rcM hs) rfl (Nat.le_of_ble_eq_true rfl) (by omega) (fun v1 h1 q1 => ?_))
      obtain ⟨rfl, g2⟩ := nx v1 h1 q1
      exact g2
    · rw [if_neg q] at hQ
      have hQ : Q none (mkH s (jn c r)) := hQ r hF h
      clear ih
      refine G_ev ok_M_endsPiece (smE_ok (d := d - 1) (by omega)) (fun _ => false) 200 (by omega) (fun Kc kK => ?_)
      simp (disch := omega) only [ev_s, evN_ap, List.getElem?_cons_zero, List.getElem?_cons_succ, List.set_cons_zero, List.set_cons_succ, Bool.false_eq_true, ↓reduceIte, qrest_n, qrest_1, qrest_2, qrest_3, qrest_4, qrest_5, qrest_6, qtr_i, qtr_r, true_and, and_true, List.length_cons, List.length_nil, Int.cast_ofNat_Int, Int32.toInt_zero, false_implies, true_implies, not_false_eq_true, not_true_eq_false, Option.toList_some, Option.toList_none, List.cons_append, List.nil_append, Nat.reduceBEq, Nat.reduceEqDiff, Bool.or_self, or_self, Nat.reduceAdd, Nat.reduceLT, Nat.zero_add, Int.reduceAdd, Int.reduceLE, Int.reduceLT, Int.reduceEq, and_self, Int.reduceNeg, qrok_i, qrok_b0, qrok_b1, qrok_bI, Option.some.injEq, Value.int.injEq, J_bI0, J_bI1, Classical.not_not, Int.zero_add, Int.add_zero, Int.sub_zero, false_and, and_false, and_true, true_and, e_0, v_0, e_2, v_2, e_6, v_6, e_13, v_13, e_15, v_15, e_19, v_19, e_21, v_21, e_41, e_44, qspl_z, qspl_s, evC_s, evD_none, evD_v, evD_s, c_1, b_1, (smE_no (k := 201) rfl), (smE_no (k := 203) rfl), r_M_endsPiece_0, r_M_endsPiece_1, r_M_endsPiece_4, r_M_endsPiece_6, r_M_endsPiece_9, r_M_endsPiece_10, r_M_endsPiece_12, r_M_endsPiece_13, r_M_endsPiece_16, r_M_endsPiece_17, r_M_endsPiece_18, r_M_endsPiece_21, r_M_endsPiece_22, r_M_endsPiece_23, r_M_endsPiece_26, r_M_endsPiece_27, r_M_endsPiece_28, r_M_endsPiece_31, r_M_endsPiece_32, r_M_endsPiece_33, r_M_endsPiece_36, r_M_endsPiece_39, (shS_o hs), (shS_r_now hs), (shS_k_now hs), I_val, I_add, I_sub, I_mul, ShM_mk, hs, hM_j2, inB, beq_iff_eq]
      refine kK _ _ _ _ (GCD ok_M_endsPiece r_M_endsPiece_1 ⟨by decide, by decide⟩ qm_M_waitTop (hw) rfl rfl (fun _ => rcM hs) rfl (Nat.le_of_ble_eq_true rfl) (by omega) ?_)
      refine G_ev ok_M_endsPiece (smE_ok (d := d - 1) (by omega)) (fun _ => false) 200 (by omega) (fun Kc kK => ?_)
      simp (disch := omega) only [ev_s, evN_ap, List.getElem?_cons_zero, List.getElem?_cons_succ, List.set_cons_zero, List.set_cons_succ, Bool.false_eq_true, ↓reduceIte, qrest_n, qrest_1, qrest_2, qrest_3, qrest_4, qrest_5, qrest_6, qtr_i, qtr_r, true_and, and_true, List.length_cons, List.length_nil, Int.cast_ofNat_Int, Int32.toInt_zero, false_implies, true_implies, not_false_eq_true, not_true_eq_false, Option.toList_some, Option.toList_none, List.cons_append, List.nil_append, Nat.reduceBEq, Nat.reduceEqDiff, Bool.or_self, or_self, Nat.reduceAdd, Nat.reduceLT, Nat.zero_add, Int.reduceAdd, Int.reduceLE, Int.reduceLT, Int.reduceEq, and_self, Int.reduceNeg, qrok_i, qrok_b0, qrok_b1, qrok_bI, Option.some.injEq, Value.int.injEq, J_bI0, J_bI1, Classical.not_not, Int.zero_add, Int.add_zero, Int.sub_zero, false_and, and_false, and_true, true_and, e_0, v_0, e_2, v_2, e_6, v_6, e_13, v_13, e_15, v_15, e_19, v_19, e_21, v_21, e_41, e_44, qspl_z, qspl_s, evC_s, evD_none, evD_v, evD_s, c_1, b_1, (smE_no (k := 201) rfl), (smE_no (k := 203) rfl), r_M_endsPiece_0, r_M_endsPiece_1, r_M_endsPiece_4, r_M_endsPiece_6, r_M_endsPiece_9, r_M_endsPiece_10, r_M_endsPiece_12, r_M_endsPiece_13, r_M_endsPiece_16, r_M_endsPiece_17, r_M_endsPiece_18, r_M_endsPiece_21, r_M_endsPiece_22, r_M_endsPiece_23, r_M_endsPiece_26, r_M_endsPiece_27, r_M_endsPiece_28, r_M_endsPiece_31, r_M_endsPiece_32, r_M_endsPiece_33, r_M_endsPiece_36, r_M_endsPiece_39, (shS_o hs), (shS_r_now hs), (shS_k_now hs), I_val, I_add, I_sub, I_mul, ShM_mk, hs, hM_j2, inB, beq_iff_eq]
      repeat' (first | with_reducible apply And.intro | intro _)
      all_goals try (clear kK; omega)
      all_goals first | omega | exact hQ
theorem T_M_endsPiece {Y : List (Int × Int × Int)} (hd : 10 ≤ d) (hs : ShMs s) (h : LrS r n K U (wcY Y) (nY Y)) (hy : yT Y) (hm : K.2.1 + nex Y ≤ K.1) : T l V mi_M_endsPiece (rm d) 0 0 [.ref 2198] (mkH s (jn c r)) (fun v h' => v = none ∧ ∃ r', h' = mkH s (jn c r') ∧ LrF r r' ∧ LrS r' n (epF K Y).1 U (wcY (epF K Y).2) (nY (epF K Y).2)) :=
  T_of qm_M_endsPiece rfl (Nat.le_of_ble_eq_true rfl) (rm_ok d) (LM_ep hd hs Y K r LrF_rf h hy hm (fun r' f1 l1 => ⟨rfl, r', rfl, f1, l1⟩))
set_option maxHeartbeats 2000000 in
set_option maxRecDepth 100000 in
theorem T_M_jumps (hd : 10 ≤ d) (hs : ShMs s) {x : Int} (hx : x = 11 ∨ x = 12) (h : LrS r n K U W o) (hm : K.2.1 ≤ K.1) (hl : (W.length : Int) ≤ K.1) (pl : K.1 < n) : T l V mi_M_jumps (rm d) 0 0 [.ref 2198, .int (Int32.ofInt x)] (mkH s (jn c r)) (fun v h' => v = none ∧ ∃ r', h' = mkH s (jn c r') ∧ LrF r r' ∧ LrS r' n (emK (atK K (K.1 + 1)) x 0) U ((1048576 * x + K.2.1) :: W) o) := by
  refine T_ev qm_M_jumps [.ref 2198, .int (Int32.ofInt x)] rfl rfl (Nat.le_of_ble_eq_true rfl) ok_M_jumps (smE_ok (d := d - 1) (by omega)) (fun _ => false) 200 (by omega) (fun Kc kK => ?_)
  have bb := LrS_b h
  obtain ⟨e7, e8, e13, e11, e12, -⟩ := LrS_p h
  have l1 := LrS_push (p' := K.1) (b := 1048576 * x + K.2.1) h bb.1.1 ⟨bb.1.2.2.2, hl⟩ (by omega)
  have f1 : LrF r (uA (uA r 2206 (u1 (r 2206) (W.length : Int) (1048576 * x + K.2.1))) 2198 (u1 (u1 (r 2198) 13 ((W.length : Int) + 1)) 7 K.1)) := LrF_push (fun k k1 k2 => by rw [u1_ne k1, u1_ne k2])
  have e77 : u1 (u1 (r 2198) 13 ((W.length : Int) + 1)) 7 K.1 = u1 (r 2198) 13 ((W.length : Int) + 1) := by
    funext k
    by_cases q : k = 7
    · rw [q, u1_same, u1_ne (by omega), e7]
    · rw [u1_ne q]
  rw [e77] at l1 f1
  have l1 : LrS (uA (uA r 2206 (u1 (r 2206) (W.length : Int) (1048576 * x + K.2.1))) 2198 (u1 (r 2198) 13 ((W.length : Int) + 1))) n K U ((1048576 * x + K.2.1) :: W) o := l1
  have hN := T_M_notes (l := l) (V := V) (d := d - 1) (c := c) (x := x) (a := 0) (by omega) hs l1 (by omega) (by omega) hm
  have nx : ∀ (v1 : Option Value) (h1 : qH), (v1 = none ∧ ∃ r', h1 = mkH s (jn c r') ∧ LrF (uA (uA r 2206 (u1 (r 2206) (W.length : Int) (1048576 * x + K.2.1))) 2198 (u1 (r 2198) 13 ((W.length : Int) + 1))) r' ∧ LrS r' n (emK K x 0) U ((1048576 * x + K.2.1) :: W) o) → v1 = none ∧ G l V mi_M_jumps (rm d) 0 0 (fun v h' => v = none ∧ ∃ r', h' = mkH s (jn c r') ∧ LrF r r' ∧ LrS r' n (emK (atK K (K.1 + 1)) x 0) U ((1048576 * x + K.2.1) :: W) o) 0 0 34 [.ref 2198, .int (Int32.ofInt x)] [] h1 := by
    intro v1 h1 q1
    obtain ⟨rfl, r1, rfl, f2, l2⟩ := q1
    refine ⟨rfl, ?_⟩
    have b2 := LrS_b l2
    have g7 : r1 2198 7 = K.1 := (LrS_p l2).1
    have l3 : LrS (uA r1 2198 (u1 (r1 2198) 7 (K.1 + 1))) n (atK (emK K x 0) (K.1 + 1)) U ((1048576 * x + K.2.1) :: W) o :=
      LrS_X (p' := K.1 + 1) (W' := (1048576 * x + K.2.1) :: W) (o' := o) l2 u1_same (by rw [u1_ne (by omega)]; exact (LrS_p l2).2.2.1) (by rw [u1_ne (by omega)]; exact (LrS_p l2).2.2.2.1) (fun k k1 k2 k3 k4 k5 => u1_ne k1) (Or.inl rfl) ⟨by omega, by have := b2.1.2.2.2; have e2 : (emK K x 0).1 = K.1 := rfl; omega, by have := b2.2.1.2; have e2 : (emK K x 0).1 = K.1 := rfl; omega⟩ bb.2.2.1
    have g : ∃ r', mkH s (jn c (uA r1 2198 (u1 (r1 2198) 7 (K.1 + 1)))) = mkH s (jn c r') ∧ LrF r r' ∧ LrS r' n (emK (atK K (K.1 + 1)) x 0) U ((1048576 * x + K.2.1) :: W) o := ⟨_, rfl, LrF_tr (LrF_tr f1 f2) (LrF_98 (fun k k1 k2 => u1_ne k1)), l3⟩
    clear kK
    refine G_ev ok_M_jumps (smE_ok (d := d - 1) (by omega)) (fun _ => false) 200 (by omega) (fun Kc kK => ?_)
    simp (disch := omega) only [ev_s, evN_ap, List.getElem?_cons_zero, List.getElem?_cons_succ, List.set_cons_zero, List.set_cons_succ, Bool.false_eq_true, ↓reduceIte, qrest_n, qrest_1, qrest_2, qrest_3, qrest_4, qrest_5, qrest_6, qtr_i, qtr_r, true_and, and_true, List.length_cons, List.length_nil, Int.cast_ofNat_Int, Int32.toInt_zero, false_implies, true_implies, not_false_eq_true, not_true_eq_false, Option.toList_some, Option.toList_none, List.cons_append, List.nil_append, Nat.reduceBEq, Nat.reduceEqDiff, Bool.or_self, or_self, Nat.reduceAdd, Nat.reduceLT, Nat.zero_add, Int.reduceAdd, Int.reduceLE, Int.reduceLT, Int.reduceEq, and_self, Int.reduceNeg, qrok_i, qrok_b0, qrok_b1, qrok_bI, Option.some.injEq, Value.int.injEq, J_bI0, J_bI1, Classical.not_not, Int.zero_add, Int.add_zero, Int.sub_zero, false_and, and_false, and_true, true_and, e_0, v_0, e_1, v_1, e_2, v_2, e_6, v_6, e_19, v_19, e_20, v_20, e_21, v_21, e_25, v_25, e_41, e_44, qspl_z, qspl_s, evC_s, evD_none, evD_v, evD_s, b_0, b_2, (smE_no (k := 201) rfl), r_M_jumps_0, r_M_jumps_1, r_M_jumps_4, r_M_jumps_5, r_M_jumps_8, r_M_jumps_10, r_M_jumps_11, r_M_jumps_12, r_M_jumps_13, r_M_jumps_16, r_M_jumps_17, r_M_jumps_18, r_M_jumps_19, r_M_jumps_20, r_M_jumps_23, r_M_jumps_24, r_M_jumps_25, r_M_jumps_28, r_M_jumps_29, r_M_jumps_30, r_M_jumps_31, r_M_jumps_34, r_M_jumps_35, r_M_jumps_36, r_M_jumps_39, r_M_jumps_40, r_M_jumps_41, r_M_jumps_44, (shS_o hs), (shS_r_now hs), (shS_k_now hs), I_val, I_add, I_sub, I_mul, ShM_mk, hs, hM_j2, inB, beq_iff_eq, hM_jr, set_jA, g7]
    repeat' (first | with_reducible apply And.intro | intro _)
    all_goals try (clear kK; omega)
    all_goals first | omega | exact g
  have z0 : 0 ≤ (W.length : Int) := by omega
  have z1 : (W.length : Int) ≤ 240 := by omega
  generalize (W.length : Int) = L at *
  rcases hx with rfl | rfl
  · simp (disch := omega) only [ev_s, evN_ap, List.getElem?_cons_zero, List.getElem?_cons_succ, List.set_cons_zero, List.set_cons_succ, Bool.false_eq_true, ↓reduceIte, qrest_n, qrest_1, qrest_2, qrest_3, qrest_4, qrest_5, qrest_6, qtr_i, qtr_r, true_and, and_true, List.length_cons, List.length_nil, Int.cast_ofNat_Int, Int32.toInt_zero, false_implies, true_implies, not_false_eq_true, not_true_eq_false, Option.toList_some, Option.toList_none, List.cons_append, List.nil_append, Nat.reduceBEq, Nat.reduceEqDiff, Bool.or_self, or_self, Nat.reduceAdd, Nat.reduceLT, Nat.zero_add, Int.reduceAdd, Int.reduceLE, Int.reduceLT, Int.reduceEq, and_self, Int.reduceNeg, qrok_i, qrok_b0, qrok_b1, qrok_bI, Option.some.injEq, Value.int.injEq, J_bI0, J_bI1, Classical.not_not, Int.zero_add, Int.add_zero, Int.sub_zero, false_and, and_false, and_true, true_and, e_0, v_0, e_1, v_1, e_2, v_2, e_6, v_6, e_19, v_19, e_20, v_20, e_21, v_21, e_25, v_25, e_41, e_44, qspl_z, qspl_s, evC_s, evD_none, evD_v, evD_s, b_0, b_2, (smE_no (k := 201) rfl), r_M_jumps_0, r_M_jumps_1, r_M_jumps_4, r_M_jumps_5, r_M_jumps_8, r_M_jumps_10, r_M_jumps_11, r_M_jumps_12, r_M_jumps_13, r_M_jumps_16, r_M_jumps_17, r_M_jumps_18, r_M_jumps_19, r_M_jumps_20, r_M_jumps_23, r_M_jumps_24, r_M_jumps_25, r_M_jumps_28, r_M_jumps_29, r_M_jumps_30, r_M_jumps_31, r_M_jumps_34, r_M_jumps_35, r_M_jumps_36, r_M_jumps_39, r_M_jumps_40, r_M_jumps_41, r_M_jumps_44, (shS_o hs), (shS_r_now hs), (shS_k_now hs), I_val, I_add, I_sub, I_mul, ShM_mk, hs, hM_j2, inB, beq_iff_eq, (shS_o hs), (shS_r_waitsAt hs), (shS_k_waitsAt hs), hM_jr, set_jA, uA_uA, uA_same, uA_ne, u1_ne, u1_same, e13, e12]
    repeat' (first | with_reducible apply And.intro | intro _)
    all_goals try (clear kK; omega)
    all_goals try omega
    refine kK _ _ _ _ (GCQ ok_M_jumps r_M_jumps_31 ⟨by decide, by decide⟩ qm_M_notes hN rfl rfl (fun _ => rcM hs) rfl (Nat.le_of_ble_eq_true rfl) (by omega) (fun v1 h1 q1 => ?_))
    obtain ⟨rfl, g2⟩ := nx v1 h1 q1
    exact g2
  · simp (disch := omega) only [ev_s, evN_ap, List.getElem?_cons_zero, List.getElem?_cons_succ, List.set_cons_zero, List.set_cons_succ, Bool.false_eq_true, ↓reduceIte, qrest_n, qrest_1, qrest_2, qrest_3, qrest_4, qrest_5, qrest_6, qtr_i, qtr_r, true_and, and_true, List.length_cons, List.length_nil, Int.cast_ofNat_Int, Int32.toInt_zero, false_implies, true_implies, not_false_eq_true, not_true_eq_false, Option.toList_some, Option.toList_none, List.cons_append, List.nil_append, Nat.reduceBEq, Nat.reduceEqDiff, Bool.or_self, or_self, Nat.reduceAdd, Nat.reduceLT, Nat.zero_add, Int.reduceAdd, Int.reduceLE, Int.reduceLT, Int.reduceEq, and_self, Int.reduceNeg, qrok_i, qrok_b0, qrok_b1, qrok_bI, Option.some.injEq, Value.int.injEq, J_bI0, J_bI1, Classical.not_not, Int.zero_add, Int.add_zero, Int.sub_zero, false_and, and_false, and_true, true_and, e_0, v_0, e_1, v_1, e_2, v_2, e_6, v_6, e_19, v_19, e_20, v_20, e_21, v_21, e_25, v_25, e_41, e_44, qspl_z, qspl_s, evC_s, evD_none, evD_v, evD_s, b_0, b_2, (smE_no (k := 201) rfl), r_M_jumps_0, r_M_jumps_1, r_M_jumps_4, r_M_jumps_5, r_M_jumps_8, r_M_jumps_10, r_M_jumps_11, r_M_jumps_12, r_M_jumps_13, r_M_jumps_16, r_M_jumps_17, r_M_jumps_18, r_M_jumps_19, r_M_jumps_20, r_M_jumps_23, r_M_jumps_24, r_M_jumps_25, r_M_jumps_28, r_M_jumps_29, r_M_jumps_30, r_M_jumps_31, r_M_jumps_34, r_M_jumps_35, r_M_jumps_36, r_M_jumps_39, r_M_jumps_40, r_M_jumps_41, r_M_jumps_44, (shS_o hs), (shS_r_now hs), (shS_k_now hs), I_val, I_add, I_sub, I_mul, ShM_mk, hs, hM_j2, inB, beq_iff_eq, (shS_o hs), (shS_r_waitsAt hs), (shS_k_waitsAt hs), hM_jr, set_jA, uA_uA, uA_same, uA_ne, u1_ne, u1_same, e13, e12]
    repeat' (first | with_reducible apply And.intro | intro _)
    all_goals try (clear kK; omega)
    all_goals try omega
    refine kK _ _ _ _ (GCQ ok_M_jumps r_M_jumps_31 ⟨by decide, by decide⟩ qm_M_notes hN rfl rfl (fun _ => rcM hs) rfl (Nat.le_of_ble_eq_true rfl) (by omega) (fun v1 h1 q1 => ?_))
    obtain ⟨rfl, g2⟩ := nx v1 h1 q1
    exact g2
end MS
