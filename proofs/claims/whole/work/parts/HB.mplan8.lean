/-! the reference's reader of plans: plan -/
def Pz (r r' : qI) : Prop := (∀ a, a ≠ 2198 → a ≠ 2199 → a ≠ 2202 → a ≠ 2203 → a ≠ 2216 → a ≠ 2217 → (a < 2218 ∨ 2224 < a) → r' a = r a) ∧ ∀ k, (k < 6 ∨ 10 < k) → k ≠ 12 → k ≠ 14 → k ≠ 29 → (k < 37 ∨ 43 < k) → r' 2198 k = r 2198 k
def MpQ (r : qI) (n : Int) (Q0 : Int → Int) (c : qI) (s : qS) (v : Option Value) (h' : qH) : Prop := ∃ t, (plQ n (r 2198 6) → Rch (fT r) n (pB 0 0 Q0 []) t ∧ PT t) ∧ v = some (.int (Int32.ofInt (@ite _ (plQ n (r 2198 6)) (Classical.propDecidable _) (plA (lwR r) (r 2199) t) (-1)))) ∧ ∃ r', h' = mkH s (jn c r') ∧ r' 2199 = (@ite _ (plQ n (r 2198 6)) (Classical.propDecidable _) (plS (lwR r) (r 2199) t) (r 2199)) ∧ Pz r r' ∧ r' 2198 6 = (@ite _ (plQ n (r 2198 6)) (Classical.propDecidable _) 0 (r 2198 6))
section Pm
variable {f : Int → Int} {n : Int}
theorem reF_p {p m a t fr : Int} {Q : Int → Int} {z : List (Int × Int × Int)} (h : (reF p m Q a t fr z).1 < 2) : (reF p m Q a t fr z).2.1 = p := by
  unfold reF at h ⊢
  split at h
  · exact absurd h (by show ¬ (2 < 2); omega)
  · rename_i q
    rw [if_neg q]; rfl
theorem PM_stp (hf : ∀ j, 0 ≤ j → j < 260 → 0 ≤ f j ∧ f j ≤ 255) (hn : 0 ≤ n ∧ n ≤ 240) {x : PS} (hv : PV n x) (h : x.1 < 2) (h' : (stp f n x).1 < 2) : x.2.1 ≤ (stp f n x).2.1 ∧ (x.1 = 0 → x.2.1 < (stp f n x).2.1) := by
  obtain ⟨t0, p, m, Q, z⟩ := x
  have hv := hv (Or.inl h)
  dsimp only at hv h
  obtain ⟨hp, hm, -, -⟩ := hv
  unfold stp at h' ⊢
  by_cases q0 : t0 = 0
  · subst q0
    rw [if_pos rfl] at h' ⊢
    dsimp only at h' ⊢
    have tp := tp_rng (f := f) (n := n) hp.2
    have so := siF_ok hf hn.2 (p := tpF f n p) (m := m) (st := p) (Q := Q) (by omega) hm (by omega)
    unfold stB at h' ⊢
    by_cases c40 : sgF f n (tpF f n p) = 40
    · rw [if_pos c40] at h' ⊢
      by_cases z2 : z.length = 2
      · rw [if_pos z2] at h'; exact absurd h' (by show ¬ (2 < 2); omega)
      · rw [if_neg z2]
        show p ≤ tpF f n p + 1 ∧ (_ → p < tpF f n p + 1)
        omega
    · rw [if_neg c40] at h' ⊢
      by_cases nf : (siF f n (tpF f n p) m Q p).1 ≠ 0
      · rw [if_pos nf] at h'; exact absurd h' (by show ¬ (2 < 2); omega)
      · rw [if_neg nf] at h' ⊢
        have b := so.2.1 (Classical.byContradiction nf)
        rw [reF_p h']
        omega
  · have q1 : t0 = 1 := by omega
    subst q1
    rw [if_neg q0, if_pos rfl] at h' ⊢
    dsimp only at h' ⊢
    refine ⟨?_, fun z => absurd z q0⟩
    cases z with
    | nil =>
      have h' : (if p < n then pB p m Q [] else pD m Q).1 < 2 := h'
      show p ≤ (if p < n then pB p m Q [] else pD m Q).2.1
      by_cases q : p < n
      · rw [if_pos q]; exact Int.le_refl p
      · rw [if_neg q] at h'; exact absurd h' (by show ¬ (3 < 2); omega)
    | cons b z =>
      obtain ⟨a, t, fr⟩ := b
      have h' : (if sgF f n p = 41 then reF (p + 1) m Q a t fr z else pB p m Q ((a, t, fr) :: z)).1 < 2 := h'
      show p ≤ (if sgF f n p = 41 then reF (p + 1) m Q a t fr z else pB p m Q ((a, t, fr) :: z)).2.1
      by_cases q : sgF f n p = 41
      · rw [if_pos q] at h' ⊢
        rw [reF_p h']; omega
      · rw [if_neg q]; exact Int.le_refl p
theorem PM_it (hf : ∀ j, 0 ≤ j → j < 260 → 0 ≤ f j ∧ f j ≤ 255) (hn : 0 ≤ n ∧ n ≤ 240) : ∀ (k : Nat) {x : PS}, PV n x → (itp f n k x).1 < 2 → x.2.1 ≤ (itp f n k x).2.1 ∧ (x.1 = 0 → (itp f n k x).1 = 1 → x.2.1 < (itp f n k x).2.1)
  | 0, x, _, _ => ⟨Int.le_refl _, fun a b => by rw [itp, a] at b; omega⟩
  | k + 1, x, hv, h => by
    rw [itp] at h ⊢
    have key : ∀ y : PS, PV n y → (itp f n k y).1 < 2 → y.1 < 2 := by
      intro y hy h
      refine Classical.byContradiction fun z => ?_
      by_cases w : y.1 = 2 ∨ y.1 = 3
      · rw [itp_T w] at h; exact z h
      · have e : ∀ k, itp f n k y = y := by
          intro k
          induction k with
          | zero => rfl
          | succ k ih =>
            have e : stp f n y = y := by
              unfold stp
              rw [if_neg (by omega), if_neg (by omega)]
            rw [itp, e, ih]
        rw [e] at h; exact z h
    have hx : x.1 < 2 := by
      refine Classical.byContradiction fun z => ?_
      have e : stp f n x = x := by
        unfold stp
        rw [if_neg (by omega), if_neg (by omega)]
      rw [e] at h
      exact z (key x hv h)
    have a := PM_stp hf hn hv hx (key _ (PV_stp hf hn hv) h)
    have b := PM_it hf hn k (PV_stp hf hn hv) h
    exact ⟨by omega, fun e _ => by have := a.2 e; omega⟩
theorem PM_R (hf : ∀ j, 0 ≤ j → j < 260 → 0 ≤ f j ∧ f j ≤ 255) (hn : 0 ≤ n ∧ n ≤ 240) {p m p' m' : Int} {Q Q' : Int → Int} {z z' : List (Int × Int × Int)} (hv : PV n (pB p m Q z)) (h : Rch f n (pB p m Q z) (pE p' m' Q' z')) : p < p' := by
  obtain ⟨k, e⟩ := h
  have := (PM_it hf hn k hv (by rw [e]; show 1 < 2; omega)).2 rfl (by rw [e]; rfl)
  rw [e] at this
  exact this
end Pm
section MS
variable {l : Launch} {V : qV} {d : Nat} {s : qS} {c r r0 : qI} {R n p : Int} {Q : Option Value → qH → Prop}
theorem RlF_lw {r r' : qI} (h : RlF r r') (hL : LOK r) : lwR r' = lwR r := by
  funext F
  exact lwR_c (fun a a1 a2 => h.1 a (by omega) (by omega) (by omega) (by omega) (by omega) (by omega) (by omega) (by omega)) (h.2 15 (by omega) (by omega) (by omega) (by omega) (by omega) (by omega) (by omega) (by omega) (by omega) (by omega)) hL (fun _ _ _ => rfl)
theorem RlF_LOK {r r' : qI} (h : RlF r r') (hL : LOK r) : LOK r' := by
  have k : ∀ a, 2199 ≤ a → a ≤ 2215 → r' a = r a := fun a a1 a2 => h.1 a (by omega) (by omega) (by omega) (by omega) (by omega) (by omega) (by omega) (by omega)
  unfold LOK LOKq
  rw [h.2 15 (by omega) (by omega) (by omega) (by omega) (by omega) (by omega) (by omega) (by omega) (by omega) (by omega), k 2211 (by omega) (by omega), k 2212 (by omega) (by omega), k 2213 (by omega) (by omega), k 2214 (by omega) (by omega), k 2215 (by omega) (by omega)]
  exact hL
set_option maxHeartbeats 2000000 in
set_option maxRecDepth 100000 in
theorem T_M_beginsText (hd : 8 ≤ d) (hs : ShMs s) {n : Int} (hn : n = n) : T l V mi_M_beginsText (rm d) 0 0 [.ref 2198, .int (Int32.ofInt n)] (mkH s (jn c r)) (fun v h' => v = none ∧ h' = mkH s (jn c (uA r 2198 (u1 (u1 (u1 (u1 (r 2198) 7 0) 8 n) 12 0) 14 0)))) := by
  refine T_ev qm_M_beginsText [.ref 2198, .int (Int32.ofInt n)] rfl rfl (Nat.le_of_ble_eq_true rfl) ok_M_beginsText (smE_ok (d := d - 1) (by omega)) (fun _ => false) 200 (by omega) (fun K kK => ?_)
  simp (disch := omega) only [ev_s, evN_ap, List.getElem?_cons_zero, List.getElem?_cons_succ, List.set_cons_zero, List.set_cons_succ, Bool.false_eq_true, ↓reduceIte, qrest_n, qrest_1, qrest_2, qrest_3, qrest_4, qrest_5, qrest_6, qtr_i, qtr_r, true_and, and_true, List.length_cons, List.length_nil, Int.cast_ofNat_Int, Int32.toInt_zero, false_implies, true_implies, not_false_eq_true, not_true_eq_false, Option.toList_some, Option.toList_none, List.cons_append, List.nil_append, Nat.reduceBEq, Nat.reduceEqDiff, Bool.or_self, or_self, Nat.reduceAdd, Nat.reduceLT, Nat.zero_add, Int.reduceAdd, Int.reduceLE, Int.reduceLT, Int.reduceEq, and_self, Int.reduceNeg, qrok_i, qrok_b0, qrok_b1, qrok_bI, Option.some.injEq, Value.int.injEq, J_bI0, J_bI1, Classical.not_not, Int.zero_add, Int.add_zero, Int.sub_zero, false_and, and_false, and_true, true_and, e_0, v_0, e_1, v_1, e_2, v_2, e_21, v_21, e_41, r_M_beginsText_0, r_M_beginsText_1, r_M_beginsText_2, r_M_beginsText_5, r_M_beginsText_6, r_M_beginsText_7, r_M_beginsText_10, r_M_beginsText_11, r_M_beginsText_12, r_M_beginsText_15, r_M_beginsText_16, r_M_beginsText_17, r_M_beginsText_20, (shS_o hs), (shS_r_now hs), (shS_k_now hs), I_val, I_add, I_sub, I_mul, ShM_mk, hs, hM_j2, inB, beq_iff_eq, hM_jr, set_jA, uA_uA, uA_same]
  repeat' (first | with_reducible apply And.intro | intro _)
  all_goals first | assumption | contradiction | trivial | (exact kK _ _ _ _ rfl) | (exact rfl) | (clear kK; omega)
set_option maxHeartbeats 2000000 in
set_option maxRecDepth 100000 in
theorem LM_done (hd : 26 ≤ d) (hs : ShMs s) {L : qL} {m : Int} {Q' : Int → Int} {x1 x2 : Value} (hm : 0 ≤ m ∧ m ≤ 200) : ∀ (j : Nat) (k n : Int) (r : qI), k + j = m → 0 ≤ k → (0 ≤ n ∧ n ≤ k) → RSt (r 2199) → LOK r → lwR r = L → RlA r m Q' → r 2198 37 = m → Rz r0 r →
    (∀ r', r' 2199 = (exF L Q' j k (r 2199) n).1 → Rz r0 r' → Q (some (.int (Int32.ofInt (exF L Q' j k (r 2199) n).2))) (mkH s (jn c r'))) →
    G l V mi_M_plan (rm d) 0 0 Q 0 0 89 [.ref 2198, x1, x2, .int (Int32.ofInt n), .int (Int32.ofInt k)] [] (mkH s (jn c r)) := by
  intro j
  induction j with
  | zero =>
    intro k n r hj h0 hn ho hL hl hA h37 hz hQ
    have hQ : Q (some (.int (Int32.ofInt n))) (mkH s (jn c r)) := hQ r rfl hz
    refine G_ev ok_M_plan (smE_ok (d := d - 1) (by omega)) (fun pc => pc == 40 || pc == 70 || pc == 89) 200 (by omega) (fun K kK => ?_)
    simp (disch := omega) only [ev_s, evN_ap, List.getElem?_cons_zero, List.getElem?_cons_succ, List.set_cons_zero, List.set_cons_succ, Bool.false_eq_true, ↓reduceIte, qrest_n, qrest_1, qrest_2, qrest_3, qrest_4, qrest_5, qrest_6, qtr_i, qtr_r, true_and, and_true, List.length_cons, List.length_nil, Int.cast_ofNat_Int, Int32.toInt_zero, false_implies, true_implies, not_false_eq_true, not_true_eq_false, Option.toList_some, Option.toList_none, List.cons_append, List.nil_append, Nat.reduceBEq, Nat.reduceEqDiff, Bool.or_self, or_self, Nat.reduceAdd, Nat.reduceLT, Nat.zero_add, Int.reduceAdd, Int.reduceLE, Int.reduceLT, Int.reduceEq, and_self, Int.reduceNeg, qrok_i, qrok_b0, qrok_b1, qrok_bI, Option.some.injEq, Value.int.injEq, J_bI0, J_bI1, Classical.not_not, Int.zero_add, Int.add_zero, Int.sub_zero, false_and, and_false, and_true, true_and, e_0, v_0, e_1, v_1, e_2, v_2, e_3, v_3, e_5, v_5, e_6, v_6, e_13, v_13, e_14, v_14, e_15, v_15, e_19, v_19, e_21, v_21, e_40, e_44, e_45, qspl_z, qspl_s, evC_s, evD_none, evD_v, evD_s, c_0, c_1, c_2, c_3, c_5, b_0, smE_169, sw_M_in, (smE_no (k := 216) rfl), (smE_no (k := 280) rfl), (smE_no (k := 281) rfl), r_M_plan_0, r_M_plan_1, r_M_plan_2, r_M_plan_4, r_M_plan_7, r_M_plan_10, r_M_plan_11, r_M_plan_12, r_M_plan_15, r_M_plan_18, r_M_plan_19, r_M_plan_20, r_M_plan_21, r_M_plan_22, r_M_plan_25, r_M_plan_26, r_M_plan_27, r_M_plan_30, r_M_plan_31, r_M_plan_32, r_M_plan_35, r_M_plan_36, r_M_plan_39, r_M_plan_40, r_M_plan_41, r_M_plan_44, r_M_plan_45, r_M_plan_48, r_M_plan_49, r_M_plan_52, r_M_plan_55, r_M_plan_56, r_M_plan_59, r_M_plan_62, r_M_plan_63, r_M_plan_66, r_M_plan_67, r_M_plan_70, r_M_plan_71, r_M_plan_72, r_M_plan_75, r_M_plan_76, r_M_plan_79, r_M_plan_80, r_M_plan_83, r_M_plan_84, r_M_plan_85, r_M_plan_86, r_M_plan_87, r_M_plan_89, r_M_plan_91, r_M_plan_92, r_M_plan_95, r_M_plan_98, r_M_plan_99, r_M_plan_101, r_M_plan_104, r_M_plan_107, r_M_plan_108, r_M_plan_109, r_M_plan_110, r_M_plan_111, r_M_plan_114, r_M_plan_117, r_M_plan_118, (shS_o hs), (shS_r_now hs), (shS_k_now hs), I_val, I_add, I_sub, I_mul, ShM_mk, hs, hM_j2, inB, beq_iff_eq, hM_jr, h37]
    repeat' (first | with_reducible apply And.intro | intro _)
    all_goals try (clear kK; omega)
    all_goals first | omega | exact hQ
  | succ j ih =>
    intro k n r hj h0 hn ho hL hl hA h37 hz hQ
    obtain ⟨hq, ha⟩ := hA k h0 (by omega)
    obtain ⟨⟨u1', u2'⟩, ⟨u3', u4'⟩, u5'⟩ := ac_un hq ha
    have e1 : ex1 L (r 2199) (Q' k) = doS L (r 2199) (r 2218 k) (r 2219 k) (r 2220 k) (r 2221 k) := by unfold ex1; rw [u1', u2', u3', u4']
    have e2 : ex2 (r 2199) (Q' k) = @ite _ (doP (r 2199) (r 2218 k) (r 2219 k) (r 2220 k) (r 2221 k)) (Classical.propDecidable _) 1 0 := by unfold ex2; rw [u1', u2', u3', u4']
    rw [exF, e1, e2] at hQ
    refine G_ev ok_M_plan (smE_ok (d := d - 1) (by omega)) (fun pc => pc == 40 || pc == 70 || pc == 89) 200 (by omega) (fun K kK => ?_)
    simp (disch := omega) only [ev_s, evN_ap, List.getElem?_cons_zero, List.getElem?_cons_succ, List.set_cons_zero, List.set_cons_succ, Bool.false_eq_true, ↓reduceIte, qrest_n, qrest_1, qrest_2, qrest_3, qrest_4, qrest_5, qrest_6, qtr_i, qtr_r, true_and, and_true, List.length_cons, List.length_nil, Int.cast_ofNat_Int, Int32.toInt_zero, false_implies, true_implies, not_false_eq_true, not_true_eq_false, Option.toList_some, Option.toList_none, List.cons_append, List.nil_append, Nat.reduceBEq, Nat.reduceEqDiff, Bool.or_self, or_self, Nat.reduceAdd, Nat.reduceLT, Nat.zero_add, Int.reduceAdd, Int.reduceLE, Int.reduceLT, Int.reduceEq, and_self, Int.reduceNeg, qrok_i, qrok_b0, qrok_b1, qrok_bI, Option.some.injEq, Value.int.injEq, J_bI0, J_bI1, Classical.not_not, Int.zero_add, Int.add_zero, Int.sub_zero, false_and, and_false, and_true, true_and, e_0, v_0, e_1, v_1, e_2, v_2, e_3, v_3, e_5, v_5, e_6, v_6, e_13, v_13, e_14, v_14, e_15, v_15, e_19, v_19, e_21, v_21, e_40, e_44, e_45, qspl_z, qspl_s, evC_s, evD_none, evD_v, evD_s, c_0, c_1, c_2, c_3, c_5, b_0, smE_169, sw_M_in, (smE_no (k := 216) rfl), (smE_no (k := 280) rfl), (smE_no (k := 281) rfl), r_M_plan_0, r_M_plan_1, r_M_plan_2, r_M_plan_4, r_M_plan_7, r_M_plan_10, r_M_plan_11, r_M_plan_12, r_M_plan_15, r_M_plan_18, r_M_plan_19, r_M_plan_20, r_M_plan_21, r_M_plan_22, r_M_plan_25, r_M_plan_26, r_M_plan_27, r_M_plan_30, r_M_plan_31, r_M_plan_32, r_M_plan_35, r_M_plan_36, r_M_plan_39, r_M_plan_40, r_M_plan_41, r_M_plan_44, r_M_plan_45, r_M_plan_48, r_M_plan_49, r_M_plan_52, r_M_plan_55, r_M_plan_56, r_M_plan_59, r_M_plan_62, r_M_plan_63, r_M_plan_66, r_M_plan_67, r_M_plan_70, r_M_plan_71, r_M_plan_72, r_M_plan_75, r_M_plan_76, r_M_plan_79, r_M_plan_80, r_M_plan_83, r_M_plan_84, r_M_plan_85, r_M_plan_86, r_M_plan_87, r_M_plan_89, r_M_plan_91, r_M_plan_92, r_M_plan_95, r_M_plan_98, r_M_plan_99, r_M_plan_101, r_M_plan_104, r_M_plan_107, r_M_plan_108, r_M_plan_109, r_M_plan_110, r_M_plan_111, r_M_plan_114, r_M_plan_117, r_M_plan_118, (shS_o hs), (shS_r_now hs), (shS_k_now hs), I_val, I_add, I_sub, I_mul, ShM_mk, hs, hM_j2, inB, beq_iff_eq, hM_jr, h37]
    repeat' (first | with_reducible apply And.intro | intro _)
    all_goals try (clear kK; omega)
    all_goals try omega
    refine kK _ _ _ _ (GCZ ok_M_plan r_M_plan_101 ⟨by decide, by decide⟩ qm_M_isDone (T_M_isDone (d := d - 1) (k := k) (by omega) hs (by omega) ho hL ha) rfl rfl (fun _ => rcM hs) rfl (Nat.le_of_ble_eq_true rfl) (by omega) (fun r1 y1 x1 => ?_))
    have o1 : RSt (r1 2199) := by rw [y1]; exact RSt_do ho lwR_ok
    have l1 : lwR r1 = L := by rw [Rz_lw x1 hL, hl]
    have A1 : RlA r1 m Q' := by
      intro i i0 i1
      rw [Rz_a x1 (a := 2218) (by omega), Rz_a x1 (a := 2219) (by omega), Rz_a x1 (a := 2220) (by omega), Rz_a x1 (a := 2221) (by omega)]
      exact hA i i0 i1
    have s1 : r1 2198 37 = m := by rw [x1.2 37 (by omega), h37]
    rw [hl] at y1
    by_cases qq : doP (r 2199) (r 2218 k) (r 2219 k) (r 2220 k) (r 2221 k)
    · rw [if_pos qq] at hQ
      have gg := ih (k + 1) (n + 1) r1 (by omega) (by omega) (by omega) o1 (Rz_LOK x1 hL) l1 A1 s1 (Rz_tr hz x1) (by rw [y1]; exact hQ)
      clear hQ ih
      rw [bT qq]
      refine G_ev ok_M_plan (smE_ok (d := d - 1) (by omega)) (fun pc => pc == 40 || pc == 70 || pc == 89) 200 (by omega) (fun K kK => ?_)
      simp (disch := omega) only [ev_s, evN_ap, List.getElem?_cons_zero, List.getElem?_cons_succ, List.set_cons_zero, List.set_cons_succ, Bool.false_eq_true, ↓reduceIte, qrest_n, qrest_1, qrest_2, qrest_3, qrest_4, qrest_5, qrest_6, qtr_i, qtr_r, true_and, and_true, List.length_cons, List.length_nil, Int.cast_ofNat_Int, Int32.toInt_zero, false_implies, true_implies, not_false_eq_true, not_true_eq_false, Option.toList_some, Option.toList_none, List.cons_append, List.nil_append, Nat.reduceBEq, Nat.reduceEqDiff, Bool.or_self, or_self, Nat.reduceAdd, Nat.reduceLT, Nat.zero_add, Int.reduceAdd, Int.reduceLE, Int.reduceLT, Int.reduceEq, and_self, Int.reduceNeg, qrok_i, qrok_b0, qrok_b1, qrok_bI, Option.some.injEq, Value.int.injEq, J_bI0, J_bI1, Classical.not_not, Int.zero_add, Int.add_zero, Int.sub_zero, false_and, and_false, and_true, true_and, e_0, v_0, e_1, v_1, e_2, v_2, e_3, v_3, e_5, v_5, e_6, v_6, e_13, v_13, e_14, v_14, e_15, v_15, e_19, v_19, e_21, v_21, e_40, e_44, e_45, qspl_z, qspl_s, evC_s, evD_none, evD_v, evD_s, c_0, c_1, c_2, c_3, c_5, b_0, smE_169, sw_M_in, (smE_no (k := 216) rfl), (smE_no (k := 280) rfl), (smE_no (k := 281) rfl), r_M_plan_0, r_M_plan_1, r_M_plan_2, r_M_plan_4, r_M_plan_7, r_M_plan_10, r_M_plan_11, r_M_plan_12, r_M_plan_15, r_M_plan_18, r_M_plan_19, r_M_plan_20, r_M_plan_21, r_M_plan_22, r_M_plan_25, r_M_plan_26, r_M_plan_27, r_M_plan_30, r_M_plan_31, r_M_plan_32, r_M_plan_35, r_M_plan_36, r_M_plan_39, r_M_plan_40, r_M_plan_41, r_M_plan_44, r_M_plan_45, r_M_plan_48, r_M_plan_49, r_M_plan_52, r_M_plan_55, r_M_plan_56, r_M_plan_59, r_M_plan_62, r_M_plan_63, r_M_plan_66, r_M_plan_67, r_M_plan_70, r_M_plan_71, r_M_plan_72, r_M_plan_75, r_M_plan_76, r_M_plan_79, r_M_plan_80, r_M_plan_83, r_M_plan_84, r_M_plan_85, r_M_plan_86, r_M_plan_87, r_M_plan_89, r_M_plan_91, r_M_plan_92, r_M_plan_95, r_M_plan_98, r_M_plan_99, r_M_plan_101, r_M_plan_104, r_M_plan_107, r_M_plan_108, r_M_plan_109, r_M_plan_110, r_M_plan_111, r_M_plan_114, r_M_plan_117, r_M_plan_118, (shS_o hs), (shS_r_now hs), (shS_k_now hs), I_val, I_add, I_sub, I_mul, ShM_mk, hs, hM_j2, inB, beq_iff_eq]
      repeat' (first | with_reducible apply And.intro | intro _)
      all_goals try (clear kK; omega)
      all_goals first | omega | exact kK _ _ _ _ gg
    · rw [if_neg qq, Int.add_zero] at hQ
      have gg := ih (k + 1) n r1 (by omega) (by omega) (by omega) o1 (Rz_LOK x1 hL) l1 A1 s1 (Rz_tr hz x1) (by rw [y1]; exact hQ)
      clear hQ ih
      rw [bF qq]
      refine G_ev ok_M_plan (smE_ok (d := d - 1) (by omega)) (fun pc => pc == 40 || pc == 70 || pc == 89) 200 (by omega) (fun K kK => ?_)
      simp (disch := omega) only [ev_s, evN_ap, List.getElem?_cons_zero, List.getElem?_cons_succ, List.set_cons_zero, List.set_cons_succ, Bool.false_eq_true, ↓reduceIte, qrest_n, qrest_1, qrest_2, qrest_3, qrest_4, qrest_5, qrest_6, qtr_i, qtr_r, true_and, and_true, List.length_cons, List.length_nil, Int.cast_ofNat_Int, Int32.toInt_zero, false_implies, true_implies, not_false_eq_true, not_true_eq_false, Option.toList_some, Option.toList_none, List.cons_append, List.nil_append, Nat.reduceBEq, Nat.reduceEqDiff, Bool.or_self, or_self, Nat.reduceAdd, Nat.reduceLT, Nat.zero_add, Int.reduceAdd, Int.reduceLE, Int.reduceLT, Int.reduceEq, and_self, Int.reduceNeg, qrok_i, qrok_b0, qrok_b1, qrok_bI, Option.some.injEq, Value.int.injEq, J_bI0, J_bI1, Classical.not_not, Int.zero_add, Int.add_zero, Int.sub_zero, false_and, and_false, and_true, true_and, e_0, v_0, e_1, v_1, e_2, v_2, e_3, v_3, e_5, v_5, e_6, v_6, e_13, v_13, e_14, v_14, e_15, v_15, e_19, v_19, e_21, v_21, e_40, e_44, e_45, qspl_z, qspl_s, evC_s, evD_none, evD_v, evD_s, c_0, c_1, c_2, c_3, c_5, b_0, smE_169, sw_M_in, (smE_no (k := 216) rfl), (smE_no (k := 280) rfl), (smE_no (k := 281) rfl), r_M_plan_0, r_M_plan_1, r_M_plan_2, r_M_plan_4, r_M_plan_7, r_M_plan_10, r_M_plan_11, r_M_plan_12, r_M_plan_15, r_M_plan_18, r_M_plan_19, r_M_plan_20, r_M_plan_21, r_M_plan_22, r_M_plan_25, r_M_plan_26, r_M_plan_27, r_M_plan_30, r_M_plan_31, r_M_plan_32, r_M_plan_35, r_M_plan_36, r_M_plan_39, r_M_plan_40, r_M_plan_41, r_M_plan_44, r_M_plan_45, r_M_plan_48, r_M_plan_49, r_M_plan_52, r_M_plan_55, r_M_plan_56, r_M_plan_59, r_M_plan_62, r_M_plan_63, r_M_plan_66, r_M_plan_67, r_M_plan_70, r_M_plan_71, r_M_plan_72, r_M_plan_75, r_M_plan_76, r_M_plan_79, r_M_plan_80, r_M_plan_83, r_M_plan_84, r_M_plan_85, r_M_plan_86, r_M_plan_87, r_M_plan_89, r_M_plan_91, r_M_plan_92, r_M_plan_95, r_M_plan_98, r_M_plan_99, r_M_plan_101, r_M_plan_104, r_M_plan_107, r_M_plan_108, r_M_plan_109, r_M_plan_110, r_M_plan_111, r_M_plan_114, r_M_plan_117, r_M_plan_118, (shS_o hs), (shS_r_now hs), (shS_k_now hs), I_val, I_add, I_sub, I_mul, ShM_mk, hs, hM_j2, inB, beq_iff_eq]
      repeat' (first | with_reducible apply And.intro | intro _)
      all_goals try (clear kK; omega)
      all_goals first | omega | exact kK _ _ _ _ gg
set_option maxHeartbeats 2000000 in
set_option maxRecDepth 100000 in
theorem LM_turn (hd : 26 ≤ d) (hs : ShMs s) {Q0 : Int → Int} {x3 x4 : Value} (hn : 0 ≤ n ∧ n ≤ 240)
    (hY : ∀ r' m' Q', RlF r0 r' → RlA r' m' Q' → (r' 2198 37 = m' ∧ 0 ≤ m' ∧ m' ≤ 200) → Rch (fT r0) n (pB 0 0 Q0 []) (pD m' Q') → G l V mi_M_plan (rm d) 0 0 Q 0 0 70 [.ref 2198, .int (Int32.ofInt n), .int (Int32.ofInt 1), x3, x4] [] (mkH s (jn c r')))
    (hN : ∀ r' k, RlF r0 r' → k ≠ 0 → r' 2198 9 = k → Rch (fT r0) n (pB 0 0 Q0 []) (pF k) → G l V mi_M_plan (rm d) 0 0 Q 0 0 70 [.ref 2198, .int (Int32.ofInt n), .int (Int32.ofInt 0), x3, x4] [] (mkH s (jn c r'))) {p m : Int} {Q' : Int → Int} {z : List (Int × Int × Int)}
    (hC : ∀ r' p' m' Q' z', p < p' → RlF r0 r' → RlS r' n p' m' Q' z' → Rch (fT r0) n (pB 0 0 Q0 []) (pE p' m' Q' z') → (z' = [] ∨ sgF (fT r0) n p' ≠ 41) → G l V mi_M_plan (rm d) 0 0 Q 0 0 40 [.ref 2198, .int (Int32.ofInt n), .int (Int32.ofInt 1), x3, x4] [] (mkH s (jn c r')))
    (hF : RlF r0 r) (hS : RlS r n p m Q' z) (hX : Rch (fT r0) n (pB 0 0 Q0 []) (pE p m Q' z)) (hz : z = [] ∨ sgF (fT r0) n p ≠ 41) :
    G l V mi_M_plan (rm d) 0 0 Q 0 0 40 [.ref 2198, .int (Int32.ofInt n), .int (Int32.ofInt 1), x3, x4] [] (mkH s (jn c r)) := by
  have pv0 : PV n (pB 0 0 Q0 []) := fun _ => ⟨by show 0 ≤ (0 : Int) ∧ (0 : Int) ≤ n; omega, by show 0 ≤ (0 : Int) ∧ (0 : Int) ≤ 200; omega, fun k k0 k1 => by have k1' : k < 0 := k1; omega, fun b hb => absurd hb (by simp [pB])⟩
  have hS' := hS
  obtain ⟨⟨⟨h7, h8⟩, h37, h38⟩, ⟨hA, hZ⟩, ⟨hp, -, hm⟩, hz2, hb⟩ := hS'
  by_cases q : z = [] ∧ n ≤ p
  · obtain ⟨rfl, q⟩ := q
    have h38 : r 2198 38 = 0 := h38
    have g := hY r m Q' hF hA ⟨h37, hm⟩ (Rch_tr hX (Rch_s (by
      rw [stp_E]
      show Rch (fT r0) n (if p < n then pB p m Q' [] else pD m Q') (pD m Q')
      rw [if_neg (by omega)]; exact Rch_rf)))
    clear hY hN hC
    refine G_ev ok_M_plan (smE_ok (d := d - 1) (by omega)) (fun pc => pc == 40 || pc == 70 || pc == 89) 200 (by omega) (fun K kK => ?_)
    simp (disch := omega) only [ev_s, evN_ap, List.getElem?_cons_zero, List.getElem?_cons_succ, List.set_cons_zero, List.set_cons_succ, Bool.false_eq_true, ↓reduceIte, qrest_n, qrest_1, qrest_2, qrest_3, qrest_4, qrest_5, qrest_6, qtr_i, qtr_r, true_and, and_true, List.length_cons, List.length_nil, Int.cast_ofNat_Int, Int32.toInt_zero, false_implies, true_implies, not_false_eq_true, not_true_eq_false, Option.toList_some, Option.toList_none, List.cons_append, List.nil_append, Nat.reduceBEq, Nat.reduceEqDiff, Bool.or_self, or_self, Nat.reduceAdd, Nat.reduceLT, Nat.zero_add, Int.reduceAdd, Int.reduceLE, Int.reduceLT, Int.reduceEq, and_self, Int.reduceNeg, qrok_i, qrok_b0, qrok_b1, qrok_bI, Option.some.injEq, Value.int.injEq, J_bI0, J_bI1, Classical.not_not, Int.zero_add, Int.add_zero, Int.sub_zero, false_and, and_false, and_true, true_and, e_0, v_0, e_1, v_1, e_2, v_2, e_3, v_3, e_5, v_5, e_6, v_6, e_13, v_13, e_14, v_14, e_15, v_15, e_19, v_19, e_21, v_21, e_40, e_44, e_45, qspl_z, qspl_s, evC_s, evD_none, evD_v, evD_s, c_0, c_1, c_2, c_3, c_5, b_0, smE_169, sw_M_in, (smE_no (k := 216) rfl), (smE_no (k := 280) rfl), (smE_no (k := 281) rfl), r_M_plan_0, r_M_plan_1, r_M_plan_2, r_M_plan_4, r_M_plan_7, r_M_plan_10, r_M_plan_11, r_M_plan_12, r_M_plan_15, r_M_plan_18, r_M_plan_19, r_M_plan_20, r_M_plan_21, r_M_plan_22, r_M_plan_25, r_M_plan_26, r_M_plan_27, r_M_plan_30, r_M_plan_31, r_M_plan_32, r_M_plan_35, r_M_plan_36, r_M_plan_39, r_M_plan_40, r_M_plan_41, r_M_plan_44, r_M_plan_45, r_M_plan_48, r_M_plan_49, r_M_plan_52, r_M_plan_55, r_M_plan_56, r_M_plan_59, r_M_plan_62, r_M_plan_63, r_M_plan_66, r_M_plan_67, r_M_plan_70, r_M_plan_71, r_M_plan_72, r_M_plan_75, r_M_plan_76, r_M_plan_79, r_M_plan_80, r_M_plan_83, r_M_plan_84, r_M_plan_85, r_M_plan_86, r_M_plan_87, r_M_plan_89, r_M_plan_91, r_M_plan_92, r_M_plan_95, r_M_plan_98, r_M_plan_99, r_M_plan_101, r_M_plan_104, r_M_plan_107, r_M_plan_108, r_M_plan_109, r_M_plan_110, r_M_plan_111, r_M_plan_114, r_M_plan_117, r_M_plan_118, (shS_o hs), (shS_r_now hs), (shS_k_now hs), I_val, I_add, I_sub, I_mul, ShM_mk, hs, hM_j2, inB, beq_iff_eq, hM_jr, h7, h8, h38]
    repeat' (first | with_reducible apply And.intro | intro _)
    all_goals try (clear kK; omega)
    all_goals first | omega | exact kK _ _ _ _ g
  · have hX2 : Rch (fT r0) n (pB 0 0 Q0 []) (pB p m Q' z) := Rch_tr hX (Rch_s (by
      rw [stp_E]
      cases z with
      | nil =>
        show Rch (fT r0) n (if p < n then pB p m Q' [] else pD m Q') (pB p m Q' [])
        rw [if_pos (by simp at q; omega)]; exact Rch_rf
      | cons b z =>
        obtain ⟨ba, bt, bf⟩ := b
        show Rch (fT r0) n (if sgF (fT r0) n p = 41 then reF (p + 1) m Q' ba bt bf z else pB p m Q' ((ba, bt, bf) :: z)) (pB p m Q' ((ba, bt, bf) :: z))
        rw [if_neg (by
          rcases hz with hz | hz
          · exact absurd hz (by simp)
          · exact hz)]
        exact Rch_rf))
    have zq : p < n ∨ 0 < (z.length : Int) := by
      cases z with
      | nil => simp at q; omega
      | cons b z => rw [List.length_cons]; omega
    have zb : 0 ≤ (z.length : Int) ∧ (z.length : Int) ≤ 2 := by omega
    have pv := PV_R fT_rng hn pv0 hX2
    have tl := T_M_readsAct (l := l) (V := V) (d := d - 1) (c := c) (s := s) (by omega) hs hS Rch_rf
    have nx : ∀ v1 h1, RaQ r n (pB p m Q' z) c s v1 h1 → G l V mi_M_plan (rm d) 0 0 Q 0 0 66 [.ref 2198, .int (Int32.ofInt n), .int (Int32.ofInt 1), x3, x4] (v1.toList ++ []) h1 := by
      intro v1 h1 q1
      rcases q1 with ⟨r', p', m', Q'', z', rfl, rfl, f1, f2, f3, f4⟩ | ⟨r', k, rfl, rfl, f1, f2, f3, f4⟩
      · rw [RlF_fT hF] at f3 f4
        have g := hC r' p' m' Q'' z' (PM_R fT_rng hn pv f3) (RlF_tr hF f1) f2 (Rch_tr hX2 f3) f4
        clear hY hN hC
        refine G_ev ok_M_plan (smE_ok (d := d - 1) (by omega)) (fun pc => pc == 40) 200 (by omega) (fun K kK => ?_)
        simp (disch := omega) only [ev_s, evN_ap, List.getElem?_cons_zero, List.getElem?_cons_succ, List.set_cons_zero, List.set_cons_succ, Bool.false_eq_true, ↓reduceIte, qrest_n, qrest_1, qrest_2, qrest_3, qrest_4, qrest_5, qrest_6, qtr_i, qtr_r, true_and, and_true, List.length_cons, List.length_nil, Int.cast_ofNat_Int, Int32.toInt_zero, false_implies, true_implies, not_false_eq_true, not_true_eq_false, Option.toList_some, Option.toList_none, List.cons_append, List.nil_append, Nat.reduceBEq, Nat.reduceEqDiff, Bool.or_self, or_self, Nat.reduceAdd, Nat.reduceLT, Nat.zero_add, Int.reduceAdd, Int.reduceLE, Int.reduceLT, Int.reduceEq, and_self, Int.reduceNeg, qrok_i, qrok_b0, qrok_b1, qrok_bI, Option.some.injEq, Value.int.injEq, J_bI0, J_bI1, Classical.not_not, Int.zero_add, Int.add_zero, Int.sub_zero, false_and, and_false, and_true, true_and, e_0, v_0, e_1, v_1, e_2, v_2, e_3, v_3, e_5, v_5, e_6, v_6, e_13, v_13, e_14, v_14, e_15, v_15, e_19, v_19, e_21, v_21, e_40, e_44, e_45, qspl_z, qspl_s, evC_s, evD_none, evD_v, evD_s, c_0, c_1, c_2, c_3, c_5, b_0, smE_169, sw_M_in, (smE_no (k := 216) rfl), (smE_no (k := 280) rfl), (smE_no (k := 281) rfl), r_M_plan_0, r_M_plan_1, r_M_plan_2, r_M_plan_4, r_M_plan_7, r_M_plan_10, r_M_plan_11, r_M_plan_12, r_M_plan_15, r_M_plan_18, r_M_plan_19, r_M_plan_20, r_M_plan_21, r_M_plan_22, r_M_plan_25, r_M_plan_26, r_M_plan_27, r_M_plan_30, r_M_plan_31, r_M_plan_32, r_M_plan_35, r_M_plan_36, r_M_plan_39, r_M_plan_40, r_M_plan_41, r_M_plan_44, r_M_plan_45, r_M_plan_48, r_M_plan_49, r_M_plan_52, r_M_plan_55, r_M_plan_56, r_M_plan_59, r_M_plan_62, r_M_plan_63, r_M_plan_66, r_M_plan_67, r_M_plan_70, r_M_plan_71, r_M_plan_72, r_M_plan_75, r_M_plan_76, r_M_plan_79, r_M_plan_80, r_M_plan_83, r_M_plan_84, r_M_plan_85, r_M_plan_86, r_M_plan_87, r_M_plan_89, r_M_plan_91, r_M_plan_92, r_M_plan_95, r_M_plan_98, r_M_plan_99, r_M_plan_101, r_M_plan_104, r_M_plan_107, r_M_plan_108, r_M_plan_109, r_M_plan_110, r_M_plan_111, r_M_plan_114, r_M_plan_117, r_M_plan_118, (shS_o hs), (shS_r_now hs), (shS_k_now hs), I_val, I_add, I_sub, I_mul, ShM_mk, hs, hM_j2, inB, beq_iff_eq]
        exact kK _ _ _ _ g
      · rw [RlF_fT hF] at f4
        have g := hN r' k (RlF_tr hF f1) f2 f3 (Rch_tr hX2 f4)
        clear hY hN hC
        refine G_ev ok_M_plan (smE_ok (d := d - 1) (by omega)) (fun pc => pc == 70) 200 (by omega) (fun K kK => ?_)
        simp (disch := omega) only [ev_s, evN_ap, List.getElem?_cons_zero, List.getElem?_cons_succ, List.set_cons_zero, List.set_cons_succ, Bool.false_eq_true, ↓reduceIte, qrest_n, qrest_1, qrest_2, qrest_3, qrest_4, qrest_5, qrest_6, qtr_i, qtr_r, true_and, and_true, List.length_cons, List.length_nil, Int.cast_ofNat_Int, Int32.toInt_zero, false_implies, true_implies, not_false_eq_true, not_true_eq_false, Option.toList_some, Option.toList_none, List.cons_append, List.nil_append, Nat.reduceBEq, Nat.reduceEqDiff, Bool.or_self, or_self, Nat.reduceAdd, Nat.reduceLT, Nat.zero_add, Int.reduceAdd, Int.reduceLE, Int.reduceLT, Int.reduceEq, and_self, Int.reduceNeg, qrok_i, qrok_b0, qrok_b1, qrok_bI, Option.some.injEq, Value.int.injEq, J_bI0, J_bI1, Classical.not_not, Int.zero_add, Int.add_zero, Int.sub_zero, false_and, and_false, and_true, true_and, e_0, v_0, e_1, v_1, e_2, v_2, e_3, v_3, e_5, v_5, e_6, v_6, e_13, v_13, e_14, v_14, e_15, v_15, e_19, v_19, e_21, v_21, e_40, e_44, e_45, qspl_z, qspl_s, evC_s, evD_none, evD_v, evD_s, c_0, c_1, c_2, c_3, c_5, b_0, smE_169, sw_M_in, (smE_no (k := 216) rfl), (smE_no (k := 280) rfl), (smE_no (k := 281) rfl), r_M_plan_0, r_M_plan_1, r_M_plan_2, r_M_plan_4, r_M_plan_7, r_M_plan_10, r_M_plan_11, r_M_plan_12, r_M_plan_15, r_M_plan_18, r_M_plan_19, r_M_plan_20, r_M_plan_21, r_M_plan_22, r_M_plan_25, r_M_plan_26, r_M_plan_27, r_M_plan_30, r_M_plan_31, r_M_plan_32, r_M_plan_35, r_M_plan_36, r_M_plan_39, r_M_plan_40, r_M_plan_41, r_M_plan_44, r_M_plan_45, r_M_plan_48, r_M_plan_49, r_M_plan_52, r_M_plan_55, r_M_plan_56, r_M_plan_59, r_M_plan_62, r_M_plan_63, r_M_plan_66, r_M_plan_67, r_M_plan_70, r_M_plan_71, r_M_plan_72, r_M_plan_75, r_M_plan_76, r_M_plan_79, r_M_plan_80, r_M_plan_83, r_M_plan_84, r_M_plan_85, r_M_plan_86, r_M_plan_87, r_M_plan_89, r_M_plan_91, r_M_plan_92, r_M_plan_95, r_M_plan_98, r_M_plan_99, r_M_plan_101, r_M_plan_104, r_M_plan_107, r_M_plan_108, r_M_plan_109, r_M_plan_110, r_M_plan_111, r_M_plan_114, r_M_plan_117, r_M_plan_118, (shS_o hs), (shS_r_now hs), (shS_k_now hs), I_val, I_add, I_sub, I_mul, ShM_mk, hs, hM_j2, inB, beq_iff_eq]
        exact kK _ _ _ _ g
    clear hY hN hC
    refine G_ev ok_M_plan (smE_ok (d := d - 1) (by omega)) (fun _ => false) 200 (by omega) (fun K kK => ?_)
    simp (disch := omega) only [ev_s, evN_ap, List.getElem?_cons_zero, List.getElem?_cons_succ, List.set_cons_zero, List.set_cons_succ, Bool.false_eq_true, ↓reduceIte, qrest_n, qrest_1, qrest_2, qrest_3, qrest_4, qrest_5, qrest_6, qtr_i, qtr_r, true_and, and_true, List.length_cons, List.length_nil, Int.cast_ofNat_Int, Int32.toInt_zero, false_implies, true_implies, not_false_eq_true, not_true_eq_false, Option.toList_some, Option.toList_none, List.cons_append, List.nil_append, Nat.reduceBEq, Nat.reduceEqDiff, Bool.or_self, or_self, Nat.reduceAdd, Nat.reduceLT, Nat.zero_add, Int.reduceAdd, Int.reduceLE, Int.reduceLT, Int.reduceEq, and_self, Int.reduceNeg, qrok_i, qrok_b0, qrok_b1, qrok_bI, Option.some.injEq, Value.int.injEq, J_bI0, J_bI1, Classical.not_not, Int.zero_add, Int.add_zero, Int.sub_zero, false_and, and_false, and_true, true_and, e_0, v_0, e_1, v_1, e_2, v_2, e_3, v_3, e_5, v_5, e_6, v_6, e_13, v_13, e_14, v_14, e_15, v_15, e_19, v_19, e_21, v_21, e_40, e_44, e_45, qspl_z, qspl_s, evC_s, evD_none, evD_v, evD_s, c_0, c_1, c_2, c_3, c_5, b_0, smE_169, sw_M_in, (smE_no (k := 216) rfl), (smE_no (k := 280) rfl), (smE_no (k := 281) rfl), r_M_plan_0, r_M_plan_1, r_M_plan_2, r_M_plan_4, r_M_plan_7, r_M_plan_10, r_M_plan_11, r_M_plan_12, r_M_plan_15, r_M_plan_18, r_M_plan_19, r_M_plan_20, r_M_plan_21, r_M_plan_22, r_M_plan_25, r_M_plan_26, r_M_plan_27, r_M_plan_30, r_M_plan_31, r_M_plan_32, r_M_plan_35, r_M_plan_36, r_M_plan_39, r_M_plan_40, r_M_plan_41, r_M_plan_44, r_M_plan_45, r_M_plan_48, r_M_plan_49, r_M_plan_52, r_M_plan_55, r_M_plan_56, r_M_plan_59, r_M_plan_62, r_M_plan_63, r_M_plan_66, r_M_plan_67, r_M_plan_70, r_M_plan_71, r_M_plan_72, r_M_plan_75, r_M_plan_76, r_M_plan_79, r_M_plan_80, r_M_plan_83, r_M_plan_84, r_M_plan_85, r_M_plan_86, r_M_plan_87, r_M_plan_89, r_M_plan_91, r_M_plan_92, r_M_plan_95, r_M_plan_98, r_M_plan_99, r_M_plan_101, r_M_plan_104, r_M_plan_107, r_M_plan_108, r_M_plan_109, r_M_plan_110, r_M_plan_111, r_M_plan_114, r_M_plan_117, r_M_plan_118, (shS_o hs), (shS_r_now hs), (shS_k_now hs), I_val, I_add, I_sub, I_mul, ShM_mk, hs, hM_j2, inB, beq_iff_eq, hM_jr, h7, h8, h38]
    repeat' (first | with_reducible apply And.intro | intro _)
    all_goals try (clear kK; omega)
    all_goals try omega
    all_goals exact kK _ _ _ _ (GCQ ok_M_plan r_M_plan_63 ⟨by decide, by decide⟩ qm_M_readsAct tl rfl rfl (fun _ => rcM hs) rfl (Nat.le_of_ble_eq_true rfl) (by omega) nx)
theorem LM_out (hd : 26 ≤ d) (hs : ShMs s) {Q0 : Int → Int} {x3 x4 : Value} (hn : 0 ≤ n ∧ n ≤ 240)
    (hY : ∀ r' m' Q', RlF r0 r' → RlA r' m' Q' → (r' 2198 37 = m' ∧ 0 ≤ m' ∧ m' ≤ 200) → Rch (fT r0) n (pB 0 0 Q0 []) (pD m' Q') → G l V mi_M_plan (rm d) 0 0 Q 0 0 70 [.ref 2198, .int (Int32.ofInt n), .int (Int32.ofInt 1), x3, x4] [] (mkH s (jn c r')))
    (hN : ∀ r' k, RlF r0 r' → k ≠ 0 → r' 2198 9 = k → Rch (fT r0) n (pB 0 0 Q0 []) (pF k) → G l V mi_M_plan (rm d) 0 0 Q 0 0 70 [.ref 2198, .int (Int32.ofInt n), .int (Int32.ofInt 0), x3, x4] [] (mkH s (jn c r'))) :
    ∀ (j : Nat) (p m : Int) (Q' : Int → Int) (z : List (Int × Int × Int)) (r : qI), n - p ≤ j → RlF r0 r → RlS r n p m Q' z → Rch (fT r0) n (pB 0 0 Q0 []) (pE p m Q' z) → (z = [] ∨ sgF (fT r0) n p ≠ 41) →
    G l V mi_M_plan (rm d) 0 0 Q 0 0 40 [.ref 2198, .int (Int32.ofInt n), .int (Int32.ofInt 1), x3, x4] [] (mkH s (jn c r)) := by
  intro j
  induction j with
  | zero =>
    intro p m Q' z r hj hF hS hX hz
    refine LM_turn hd hs hn hY hN (fun r' p' m' Q'' z' lt f1 f2 f3 f4 => ?_) hF hS hX hz
    have := f2.2.2.1.1.2
    omega
  | succ j ih =>
    intro p m Q' z r hj hF hS hX hz
    exact LM_turn hd hs hn hY hN (fun r' p' m' Q'' z' lt f1 f2 f3 f4 => ih p' m' Q'' z' r' (by omega) f1 f2 f3 f4) hF hS hX hz
set_option maxHeartbeats 2000000 in
set_option maxRecDepth 100000 in
theorem T_M_plan (hd : 27 ≤ d) (hs : ShMs s) {n : Int} (hb : -2147483648 ≤ n ∧ n ≤ 2147483647) (h6 : 0 ≤ r 2198 6 ∧ r 2198 6 ≤ 260) (ho : RSt (r 2199)) (hL : LOK r) {Q0 : Int → Int} : T l V mi_M_plan (rm d) 0 0 [.ref 2198, .int (Int32.ofInt n)] (mkH s (jn c r)) (fun v h' => MpQ r n Q0 c s v h') := by
  refine T_ev qm_M_plan [.ref 2198, .int (Int32.ofInt n), .retAddr 0, .retAddr 0, .retAddr 0] rfl rfl (Nat.le_of_ble_eq_true rfl) ok_M_plan (smE_ok (d := d - 1) (by omega)) (fun pc => pc == 40 || pc == 70 || pc == 89) 200 (by omega) (fun K kK => ?_)
  unfold MpQ
  unfold MpQ at kK
  by_cases q : plQ n (r 2198 6)
  · simp only [if_pos q]
    simp only [if_pos q] at kK
    unfold plQ at q
    have pv0 : PV n (pB 0 0 Q0 []) := fun _ => ⟨by show 0 ≤ (0 : Int) ∧ (0 : Int) ≤ n; omega, by show 0 ≤ (0 : Int) ∧ (0 : Int) ≤ 200; omega, fun k k0 k1 => by have k1' : k < 0 := k1; omega, fun b hb => absurd hb (by simp [pB])⟩
    generalize hR : uA r 2198 (u1 (u1 (u1 (u1 (u1 (u1 (r 2198) 7 0) 8 n) 12 0) 14 0) 37 0) 38 0) = R1
    have e98 : R1 2198 = u1 (u1 (u1 (u1 (u1 (u1 (r 2198) 7 0) 8 n) 12 0) 14 0) 37 0) 38 0 := by rw [← hR, uA_same]
    have eo : ∀ a, a ≠ 2198 → R1 a = r a := fun a h => by rw [← hR, uA_ne h]
    have eT : fT R1 = fT r := by rw [← hR, fT_c]
    have hF1 : ∀ r' r'' , RlF R1 r' → Rz (uA r' 2198 (u1 (r' 2198) 6 0)) r'' → Pz r r'' ∧ r'' 2198 6 = 0 := by
      intro r' r'' h1 h2
      refine ⟨⟨fun a a1 a2 a3 a4 a5 a6 a7 => ?_, fun k k1 k2 k3 k4 k5 => ?_⟩, ?_⟩
      · rw [h2.1 a a2 a3 a4 a5 a6 a1, uA_ne a1, h1.1 a a1 (by omega) (by omega) (by omega) (by omega) (by omega) (by omega) (by omega), eo a a1]
      · rw [h2.2 k k4, uA_same, u1_ne (by omega), h1.2 k (by omega) (by omega) (by omega) (by omega) (by omega) (by omega) (by omega) (by omega) (by omega) (by omega), e98, u1_ne (by omega), u1_ne (by omega), u1_ne k3, u1_ne k2, u1_ne (by omega), u1_ne (by omega)]
      · rw [h2.2 6 (by omega), uA_same, u1_same]
    have hL1 : LOK R1 ∧ lwR R1 = lwR r := by
      refine ⟨?_, ?_⟩
      · unfold LOK LOKq
        rw [e98, u1_ne (by omega), u1_ne (by omega), u1_ne (by omega), u1_ne (by omega), u1_ne (by omega), u1_ne (by omega), eo 2211 (by omega), eo 2212 (by omega), eo 2213 (by omega), eo 2214 (by omega), eo 2215 (by omega)]
        exact hL
      · funext F
        exact lwR_c (fun a a1 a2 => eo a (by omega)) (by rw [e98, u1_ne (by omega), u1_ne (by omega), u1_ne (by omega), u1_ne (by omega), u1_ne (by omega), u1_ne (by omega)]) hL (fun _ _ _ => rfl)
    have hS1 : RlS R1 n 0 0 Q0 [] := ⟨⟨⟨by rw [e98, u1_ne (by omega), u1_ne (by omega), u1_ne (by omega), u1_ne (by omega), u1_ne (by omega), u1_same], by rw [e98, u1_ne (by omega), u1_ne (by omega), u1_ne (by omega), u1_ne (by omega), u1_same]⟩, by rw [e98, u1_ne (by omega), u1_same], by rw [e98, u1_same]; rfl⟩, ⟨fun k k0 k1 => by omega, trivial⟩, ⟨by omega, by omega, by omega⟩, by show 0 ≤ 2; omega, fun b hb => absurd hb (by simp)⟩
    have h70Y : ∀ r' m' Q' x3 x4, RlF R1 r' → RlA r' m' Q' → (r' 2198 37 = m' ∧ 0 ≤ m' ∧ m' ≤ 200) → Rch (fT R1) n (pB 0 0 Q0 []) (pD m' Q') → G l V mi_M_plan (rm d) 0 0 (fun v h' => ∃ t, (plQ n (r 2198 6) → Rch (fT r) n (pB 0 0 Q0 []) t ∧ PT t) ∧ v = some (.int (Int32.ofInt (plA (lwR r) (r 2199) t))) ∧ ∃ r', h' = mkH s (jn c r') ∧ r' 2199 = plS (lwR r) (r 2199) t ∧ Pz r r' ∧ r' 2198 6 = 0) 0 0 70 [.ref 2198, .int (Int32.ofInt n), .int (Int32.ofInt 1), x3, x4] [] (mkH s (jn c r')) := by
      intro r' m' Q' x3 x4 f1 f2 f3 f4
      have e99 : r' 2199 = r 2199 := by rw [f1.1 2199 (by omega) (by omega) (by omega) (by omega) (by omega) (by omega) (by omega) (by omega), eo 2199 (by omega)]
      have f5 := RlF_LOK f1 hL1.1
      have f6 := RlF_lw f1 hL1.1
      generalize hR2 : uA r' 2198 (u1 (r' 2198) 6 0) = R2 at *
      have d98 : R2 2198 = u1 (r' 2198) 6 0 := by rw [← hR2, uA_same]
      have d0 : ∀ a, a ≠ 2198 → R2 a = r' a := fun a h => by rw [← hR2, uA_ne h]
      have d99 : R2 2199 = r 2199 := by rw [d0 2199 (by omega), e99]
      have l2 : LOK R2 := by
        unfold LOK LOKq
        rw [d98, u1_ne (by omega), d0 2211 (by omega), d0 2212 (by omega), d0 2213 (by omega), d0 2214 (by omega), d0 2215 (by omega)]
        exact f5
      have l3 : lwR R2 = lwR r := by
        rw [← hL1.2, ← f6]
        funext F
        exact lwR_c (fun a a1 a2 => d0 a (by omega)) (by rw [d98, u1_ne (by omega)]) f5 (fun _ _ _ => rfl)
      have gg := LM_done (l := l) (V := V) (d := d) (c := c) (s := s) (r0 := R2) (x1 := .int (Int32.ofInt n)) (x2 := .int (Int32.ofInt 1)) (Q := fun v h' => ∃ t, (plQ n (r 2198 6) → Rch (fT r) n (pB 0 0 Q0 []) t ∧ PT t) ∧ v = some (.int (Int32.ofInt (plA (lwR r) (r 2199) t))) ∧ ∃ r', h' = mkH s (jn c r') ∧ r' 2199 = plS (lwR r) (r 2199) t ∧ Pz r r' ∧ r' 2198 6 = 0) (by omega) hs f3.2 (m := m') (Q' := Q') (L := lwR r) m'.toNat 0 0 R2 (by omega) (by omega) (by omega) (by rw [d99]; exact ho) l2 l3 (fun k k0 k1 => by
          rw [d0 2218 (by omega), d0 2219 (by omega), d0 2220 (by omega), d0 2221 (by omega)]
          exact f2 k k0 k1) (by rw [d98, u1_ne (by omega)]; exact f3.1) (Rz_rf _) (fun r'' b1 b2 => ⟨pD m' Q', fun _ => ⟨by rw [← eT]; exact f4, Or.inr rfl⟩, by
          rw [d99]; rfl, r'', rfl, by rw [b1, d99]; rfl, by rw [← hR2] at b2; exact hF1 r' r'' f1 b2⟩)
      refine G_ev ok_M_plan (smE_ok (d := d - 1) (by omega)) (fun pc => pc == 89) 200 (by omega) (fun K kK => ?_)
      simp (disch := omega) only [ev_s, evN_ap, List.getElem?_cons_zero, List.getElem?_cons_succ, List.set_cons_zero, List.set_cons_succ, Bool.false_eq_true, ↓reduceIte, qrest_n, qrest_1, qrest_2, qrest_3, qrest_4, qrest_5, qrest_6, qtr_i, qtr_r, true_and, and_true, List.length_cons, List.length_nil, Int.cast_ofNat_Int, Int32.toInt_zero, false_implies, true_implies, not_false_eq_true, not_true_eq_false, Option.toList_some, Option.toList_none, List.cons_append, List.nil_append, Nat.reduceBEq, Nat.reduceEqDiff, Bool.or_self, or_self, Nat.reduceAdd, Nat.reduceLT, Nat.zero_add, Int.reduceAdd, Int.reduceLE, Int.reduceLT, Int.reduceEq, and_self, Int.reduceNeg, qrok_i, qrok_b0, qrok_b1, qrok_bI, Option.some.injEq, Value.int.injEq, J_bI0, J_bI1, Classical.not_not, Int.zero_add, Int.add_zero, Int.sub_zero, false_and, and_false, and_true, true_and, e_0, v_0, e_1, v_1, e_2, v_2, e_3, v_3, e_5, v_5, e_6, v_6, e_13, v_13, e_14, v_14, e_15, v_15, e_19, v_19, e_21, v_21, e_40, e_44, e_45, qspl_z, qspl_s, evC_s, evD_none, evD_v, evD_s, c_0, c_1, c_2, c_3, c_5, b_0, smE_169, sw_M_in, (smE_no (k := 216) rfl), (smE_no (k := 280) rfl), (smE_no (k := 281) rfl), r_M_plan_0, r_M_plan_1, r_M_plan_2, r_M_plan_4, r_M_plan_7, r_M_plan_10, r_M_plan_11, r_M_plan_12, r_M_plan_15, r_M_plan_18, r_M_plan_19, r_M_plan_20, r_M_plan_21, r_M_plan_22, r_M_plan_25, r_M_plan_26, r_M_plan_27, r_M_plan_30, r_M_plan_31, r_M_plan_32, r_M_plan_35, r_M_plan_36, r_M_plan_39, r_M_plan_40, r_M_plan_41, r_M_plan_44, r_M_plan_45, r_M_plan_48, r_M_plan_49, r_M_plan_52, r_M_plan_55, r_M_plan_56, r_M_plan_59, r_M_plan_62, r_M_plan_63, r_M_plan_66, r_M_plan_67, r_M_plan_70, r_M_plan_71, r_M_plan_72, r_M_plan_75, r_M_plan_76, r_M_plan_79, r_M_plan_80, r_M_plan_83, r_M_plan_84, r_M_plan_85, r_M_plan_86, r_M_plan_87, r_M_plan_89, r_M_plan_91, r_M_plan_92, r_M_plan_95, r_M_plan_98, r_M_plan_99, r_M_plan_101, r_M_plan_104, r_M_plan_107, r_M_plan_108, r_M_plan_109, r_M_plan_110, r_M_plan_111, r_M_plan_114, r_M_plan_117, r_M_plan_118, (shS_o hs), (shS_r_now hs), (shS_k_now hs), I_val, I_add, I_sub, I_mul, ShM_mk, hs, hM_j2, inB, beq_iff_eq, hM_jr, set_jA]
      rw [hR2]
      exact kK _ _ _ _ gg
    have h70N : ∀ r' k x3 x4, RlF R1 r' → k ≠ 0 → r' 2198 9 = k → Rch (fT R1) n (pB 0 0 Q0 []) (pF k) → G l V mi_M_plan (rm d) 0 0 (fun v h' => ∃ t, (plQ n (r 2198 6) → Rch (fT r) n (pB 0 0 Q0 []) t ∧ PT t) ∧ v = some (.int (Int32.ofInt (plA (lwR r) (r 2199) t))) ∧ ∃ r', h' = mkH s (jn c r') ∧ r' 2199 = plS (lwR r) (r 2199) t ∧ Pz r r' ∧ r' 2198 6 = 0) 0 0 70 [.ref 2198, .int (Int32.ofInt n), .int (Int32.ofInt 0), x3, x4] [] (mkH s (jn c r')) := by
      intro r' k x3 x4 f1 f2 f3 f4
      have e99 : r' 2199 = r 2199 := by rw [f1.1 2199 (by omega) (by omega) (by omega) (by omega) (by omega) (by omega) (by omega) (by omega), eo 2199 (by omega)]
      have gg : ∃ t, (plQ n (r 2198 6) → Rch (fT r) n (pB 0 0 Q0 []) t ∧ PT t) ∧ Int32.ofInt k = Int32.ofInt (plA (lwR r) (r 2199) t) ∧ ∃ r'', mkH s (jn c (uA r' 2198 (u1 (r' 2198) 6 0))) = mkH s (jn c r'') ∧ r'' 2199 = plS (lwR r) (r 2199) t ∧ Pz r r'' ∧ r'' 2198 6 = 0 := ⟨pF k, fun _ => ⟨by rw [← eT]; exact f4, Or.inl rfl⟩, rfl, _, rfl, by rw [uA_ne (by omega), e99]; rfl, hF1 r' _ f1 (Rz_rf _)⟩
      refine G_ev ok_M_plan (smE_ok (d := d - 1) (by omega)) (fun _ => false) 200 (by omega) (fun K kK => ?_)
      simp (disch := omega) only [ev_s, evN_ap, List.getElem?_cons_zero, List.getElem?_cons_succ, List.set_cons_zero, List.set_cons_succ, Bool.false_eq_true, ↓reduceIte, qrest_n, qrest_1, qrest_2, qrest_3, qrest_4, qrest_5, qrest_6, qtr_i, qtr_r, true_and, and_true, List.length_cons, List.length_nil, Int.cast_ofNat_Int, Int32.toInt_zero, false_implies, true_implies, not_false_eq_true, not_true_eq_false, Option.toList_some, Option.toList_none, List.cons_append, List.nil_append, Nat.reduceBEq, Nat.reduceEqDiff, Bool.or_self, or_self, Nat.reduceAdd, Nat.reduceLT, Nat.zero_add, Int.reduceAdd, Int.reduceLE, Int.reduceLT, Int.reduceEq, and_self, Int.reduceNeg, qrok_i, qrok_b0, qrok_b1, qrok_bI, Option.some.injEq, Value.int.injEq, J_bI0, J_bI1, Classical.not_not, Int.zero_add, Int.add_zero, Int.sub_zero, false_and, and_false, and_true, true_and, e_0, v_0, e_1, v_1, e_2, v_2, e_3, v_3, e_5, v_5, e_6, v_6, e_13, v_13, e_14, v_14, e_15, v_15, e_19, v_19, e_21, v_21, e_40, e_44, e_45, qspl_z, qspl_s, evC_s, evD_none, evD_v, evD_s, c_0, c_1, c_2, c_3, c_5, b_0, smE_169, sw_M_in, (smE_no (k := 216) rfl), (smE_no (k := 280) rfl), (smE_no (k := 281) rfl), r_M_plan_0, r_M_plan_1, r_M_plan_2, r_M_plan_4, r_M_plan_7, r_M_plan_10, r_M_plan_11, r_M_plan_12, r_M_plan_15, r_M_plan_18, r_M_plan_19, r_M_plan_20, r_M_plan_21, r_M_plan_22, r_M_plan_25, r_M_plan_26, r_M_plan_27, r_M_plan_30, r_M_plan_31, r_M_plan_32, r_M_plan_35, r_M_plan_36, r_M_plan_39, r_M_plan_40, r_M_plan_41, r_M_plan_44, r_M_plan_45, r_M_plan_48, r_M_plan_49, r_M_plan_52, r_M_plan_55, r_M_plan_56, r_M_plan_59, r_M_plan_62, r_M_plan_63, r_M_plan_66, r_M_plan_67, r_M_plan_70, r_M_plan_71, r_M_plan_72, r_M_plan_75, r_M_plan_76, r_M_plan_79, r_M_plan_80, r_M_plan_83, r_M_plan_84, r_M_plan_85, r_M_plan_86, r_M_plan_87, r_M_plan_89, r_M_plan_91, r_M_plan_92, r_M_plan_95, r_M_plan_98, r_M_plan_99, r_M_plan_101, r_M_plan_104, r_M_plan_107, r_M_plan_108, r_M_plan_109, r_M_plan_110, r_M_plan_111, r_M_plan_114, r_M_plan_117, r_M_plan_118, (shS_o hs), (shS_r_now hs), (shS_k_now hs), I_val, I_add, I_sub, I_mul, ShM_mk, hs, hM_j2, inB, beq_iff_eq, hM_jr, set_jA, uA_same, u1_ne, f3]
      exact gg
    have nx : ∀ v1 h1, RaQ R1 n (pB 0 0 Q0 []) c s v1 h1 → ∀ x2 x3 x4, G l V mi_M_plan (rm d) 0 0 (fun v h' => ∃ t, (plQ n (r 2198 6) → Rch (fT r) n (pB 0 0 Q0 []) t ∧ PT t) ∧ v = some (.int (Int32.ofInt (plA (lwR r) (r 2199) t))) ∧ ∃ r', h' = mkH s (jn c r') ∧ r' 2199 = plS (lwR r) (r 2199) t ∧ Pz r r' ∧ r' 2198 6 = 0) 0 0 39 [.ref 2198, .int (Int32.ofInt n), x2, x3, x4] (v1.toList ++ []) h1 := by
      intro v1 h1 q1 x2 x3 x4
      rcases q1 with ⟨r', p', m', Q'', z', rfl, rfl, f1, f2, f3, f4⟩ | ⟨r', k, rfl, rfl, f1, f2, f3, f4⟩
      · have g := LM_out (l := l) (V := V) (d := d) (c := c) (s := s) (r0 := R1) (by omega) hs (by omega) (fun r' m' Q' => h70Y r' m' Q' x3 x4) (fun r' k => h70N r' k x3 x4) (n - p').toNat p' m' Q'' z' r' (by omega) f1 f2 f3 f4
        clear h70Y h70N
        refine G_ev ok_M_plan (smE_ok (d := d - 1) (by omega)) (fun pc => pc == 40) 200 (by omega) (fun K kK => ?_)
        simp (disch := omega) only [ev_s, evN_ap, List.getElem?_cons_zero, List.getElem?_cons_succ, List.set_cons_zero, List.set_cons_succ, Bool.false_eq_true, ↓reduceIte, qrest_n, qrest_1, qrest_2, qrest_3, qrest_4, qrest_5, qrest_6, qtr_i, qtr_r, true_and, and_true, List.length_cons, List.length_nil, Int.cast_ofNat_Int, Int32.toInt_zero, false_implies, true_implies, not_false_eq_true, not_true_eq_false, Option.toList_some, Option.toList_none, List.cons_append, List.nil_append, Nat.reduceBEq, Nat.reduceEqDiff, Bool.or_self, or_self, Nat.reduceAdd, Nat.reduceLT, Nat.zero_add, Int.reduceAdd, Int.reduceLE, Int.reduceLT, Int.reduceEq, and_self, Int.reduceNeg, qrok_i, qrok_b0, qrok_b1, qrok_bI, Option.some.injEq, Value.int.injEq, J_bI0, J_bI1, Classical.not_not, Int.zero_add, Int.add_zero, Int.sub_zero, false_and, and_false, and_true, true_and, e_0, v_0, e_1, v_1, e_2, v_2, e_3, v_3, e_5, v_5, e_6, v_6, e_13, v_13, e_14, v_14, e_15, v_15, e_19, v_19, e_21, v_21, e_40, e_44, e_45, qspl_z, qspl_s, evC_s, evD_none, evD_v, evD_s, c_0, c_1, c_2, c_3, c_5, b_0, smE_169, sw_M_in, (smE_no (k := 216) rfl), (smE_no (k := 280) rfl), (smE_no (k := 281) rfl), r_M_plan_0, r_M_plan_1, r_M_plan_2, r_M_plan_4, r_M_plan_7, r_M_plan_10, r_M_plan_11, r_M_plan_12, r_M_plan_15, r_M_plan_18, r_M_plan_19, r_M_plan_20, r_M_plan_21, r_M_plan_22, r_M_plan_25, r_M_plan_26, r_M_plan_27, r_M_plan_30, r_M_plan_31, r_M_plan_32, r_M_plan_35, r_M_plan_36, r_M_plan_39, r_M_plan_40, r_M_plan_41, r_M_plan_44, r_M_plan_45, r_M_plan_48, r_M_plan_49, r_M_plan_52, r_M_plan_55, r_M_plan_56, r_M_plan_59, r_M_plan_62, r_M_plan_63, r_M_plan_66, r_M_plan_67, r_M_plan_70, r_M_plan_71, r_M_plan_72, r_M_plan_75, r_M_plan_76, r_M_plan_79, r_M_plan_80, r_M_plan_83, r_M_plan_84, r_M_plan_85, r_M_plan_86, r_M_plan_87, r_M_plan_89, r_M_plan_91, r_M_plan_92, r_M_plan_95, r_M_plan_98, r_M_plan_99, r_M_plan_101, r_M_plan_104, r_M_plan_107, r_M_plan_108, r_M_plan_109, r_M_plan_110, r_M_plan_111, r_M_plan_114, r_M_plan_117, r_M_plan_118, (shS_o hs), (shS_r_now hs), (shS_k_now hs), I_val, I_add, I_sub, I_mul, ShM_mk, hs, hM_j2, inB, beq_iff_eq]
        exact kK _ _ _ _ g
      · have g := h70N r' k x3 x4 f1 f2 f3 f4
        clear h70Y h70N
        refine G_ev ok_M_plan (smE_ok (d := d - 1) (by omega)) (fun pc => pc == 70) 200 (by omega) (fun K kK => ?_)
        simp (disch := omega) only [ev_s, evN_ap, List.getElem?_cons_zero, List.getElem?_cons_succ, List.set_cons_zero, List.set_cons_succ, Bool.false_eq_true, ↓reduceIte, qrest_n, qrest_1, qrest_2, qrest_3, qrest_4, qrest_5, qrest_6, qtr_i, qtr_r, true_and, and_true, List.length_cons, List.length_nil, Int.cast_ofNat_Int, Int32.toInt_zero, false_implies, true_implies, not_false_eq_true, not_true_eq_false, Option.toList_some, Option.toList_none, List.cons_append, List.nil_append, Nat.reduceBEq, Nat.reduceEqDiff, Bool.or_self, or_self, Nat.reduceAdd, Nat.reduceLT, Nat.zero_add, Int.reduceAdd, Int.reduceLE, Int.reduceLT, Int.reduceEq, and_self, Int.reduceNeg, qrok_i, qrok_b0, qrok_b1, qrok_bI, Option.some.injEq, Value.int.injEq, J_bI0, J_bI1, Classical.not_not, Int.zero_add, Int.add_zero, Int.sub_zero, false_and, and_false, and_true, true_and, e_0, v_0, e_1, v_1, e_2, v_2, e_3, v_3, e_5, v_5, e_6, v_6, e_13, v_13, e_14, v_14, e_15, v_15, e_19, v_19, e_21, v_21, e_40, e_44, e_45, qspl_z, qspl_s, evC_s, evD_none, evD_v, evD_s, c_0, c_1, c_2, c_3, c_5, b_0, smE_169, sw_M_in, (smE_no (k := 216) rfl), (smE_no (k := 280) rfl), (smE_no (k := 281) rfl), r_M_plan_0, r_M_plan_1, r_M_plan_2, r_M_plan_4, r_M_plan_7, r_M_plan_10, r_M_plan_11, r_M_plan_12, r_M_plan_15, r_M_plan_18, r_M_plan_19, r_M_plan_20, r_M_plan_21, r_M_plan_22, r_M_plan_25, r_M_plan_26, r_M_plan_27, r_M_plan_30, r_M_plan_31, r_M_plan_32, r_M_plan_35, r_M_plan_36, r_M_plan_39, r_M_plan_40, r_M_plan_41, r_M_plan_44, r_M_plan_45, r_M_plan_48, r_M_plan_49, r_M_plan_52, r_M_plan_55, r_M_plan_56, r_M_plan_59, r_M_plan_62, r_M_plan_63, r_M_plan_66, r_M_plan_67, r_M_plan_70, r_M_plan_71, r_M_plan_72, r_M_plan_75, r_M_plan_76, r_M_plan_79, r_M_plan_80, r_M_plan_83, r_M_plan_84, r_M_plan_85, r_M_plan_86, r_M_plan_87, r_M_plan_89, r_M_plan_91, r_M_plan_92, r_M_plan_95, r_M_plan_98, r_M_plan_99, r_M_plan_101, r_M_plan_104, r_M_plan_107, r_M_plan_108, r_M_plan_109, r_M_plan_110, r_M_plan_111, r_M_plan_114, r_M_plan_117, r_M_plan_118, (shS_o hs), (shS_r_now hs), (shS_k_now hs), I_val, I_add, I_sub, I_mul, ShM_mk, hs, hM_j2, inB, beq_iff_eq]
        exact kK _ _ _ _ g
    clear h70Y h70N hF1 hL1
    simp (disch := omega) only [ev_s, evN_ap, List.getElem?_cons_zero, List.getElem?_cons_succ, List.set_cons_zero, List.set_cons_succ, Bool.false_eq_true, ↓reduceIte, qrest_n, qrest_1, qrest_2, qrest_3, qrest_4, qrest_5, qrest_6, qtr_i, qtr_r, true_and, and_true, List.length_cons, List.length_nil, Int.cast_ofNat_Int, Int32.toInt_zero, false_implies, true_implies, not_false_eq_true, not_true_eq_false, Option.toList_some, Option.toList_none, List.cons_append, List.nil_append, Nat.reduceBEq, Nat.reduceEqDiff, Bool.or_self, or_self, Nat.reduceAdd, Nat.reduceLT, Nat.zero_add, Int.reduceAdd, Int.reduceLE, Int.reduceLT, Int.reduceEq, and_self, Int.reduceNeg, qrok_i, qrok_b0, qrok_b1, qrok_bI, Option.some.injEq, Value.int.injEq, J_bI0, J_bI1, Classical.not_not, Int.zero_add, Int.add_zero, Int.sub_zero, false_and, and_false, and_true, true_and, e_0, v_0, e_1, v_1, e_2, v_2, e_3, v_3, e_5, v_5, e_6, v_6, e_13, v_13, e_14, v_14, e_15, v_15, e_19, v_19, e_21, v_21, e_40, e_44, e_45, qspl_z, qspl_s, evC_s, evD_none, evD_v, evD_s, c_0, c_1, c_2, c_3, c_5, b_0, smE_169, sw_M_in, (smE_no (k := 216) rfl), (smE_no (k := 280) rfl), (smE_no (k := 281) rfl), r_M_plan_0, r_M_plan_1, r_M_plan_2, r_M_plan_4, r_M_plan_7, r_M_plan_10, r_M_plan_11, r_M_plan_12, r_M_plan_15, r_M_plan_18, r_M_plan_19, r_M_plan_20, r_M_plan_21, r_M_plan_22, r_M_plan_25, r_M_plan_26, r_M_plan_27, r_M_plan_30, r_M_plan_31, r_M_plan_32, r_M_plan_35, r_M_plan_36, r_M_plan_39, r_M_plan_40, r_M_plan_41, r_M_plan_44, r_M_plan_45, r_M_plan_48, r_M_plan_49, r_M_plan_52, r_M_plan_55, r_M_plan_56, r_M_plan_59, r_M_plan_62, r_M_plan_63, r_M_plan_66, r_M_plan_67, r_M_plan_70, r_M_plan_71, r_M_plan_72, r_M_plan_75, r_M_plan_76, r_M_plan_79, r_M_plan_80, r_M_plan_83, r_M_plan_84, r_M_plan_85, r_M_plan_86, r_M_plan_87, r_M_plan_89, r_M_plan_91, r_M_plan_92, r_M_plan_95, r_M_plan_98, r_M_plan_99, r_M_plan_101, r_M_plan_104, r_M_plan_107, r_M_plan_108, r_M_plan_109, r_M_plan_110, r_M_plan_111, r_M_plan_114, r_M_plan_117, r_M_plan_118, (shS_o hs), (shS_r_now hs), (shS_k_now hs), I_val, I_add, I_sub, I_mul, ShM_mk, hs, hM_j2, inB, beq_iff_eq, hM_jr, bI_z]
    repeat' (first | with_reducible apply And.intro | intro _)
    all_goals try (clear kK; omega)
    all_goals try omega
    refine kK _ _ _ _ (GCD ok_M_plan r_M_plan_22 ⟨by decide, by decide⟩ qm_M_beginsText (T_M_beginsText (d := d - 1) (n := n) (by omega) hs rfl) rfl rfl (fun _ => rcM hs) rfl (Nat.le_of_ble_eq_true rfl) (by omega) ?_)
    refine G_ev ok_M_plan (smE_ok (d := d - 1) (by omega)) (fun pc => pc == 36) 200 (by omega) (fun K kK => ?_)
    simp (disch := omega) only [ev_s, evN_ap, List.getElem?_cons_zero, List.getElem?_cons_succ, List.set_cons_zero, List.set_cons_succ, Bool.false_eq_true, ↓reduceIte, qrest_n, qrest_1, qrest_2, qrest_3, qrest_4, qrest_5, qrest_6, qtr_i, qtr_r, true_and, and_true, List.length_cons, List.length_nil, Int.cast_ofNat_Int, Int32.toInt_zero, false_implies, true_implies, not_false_eq_true, not_true_eq_false, Option.toList_some, Option.toList_none, List.cons_append, List.nil_append, Nat.reduceBEq, Nat.reduceEqDiff, Bool.or_self, or_self, Nat.reduceAdd, Nat.reduceLT, Nat.zero_add, Int.reduceAdd, Int.reduceLE, Int.reduceLT, Int.reduceEq, and_self, Int.reduceNeg, qrok_i, qrok_b0, qrok_b1, qrok_bI, Option.some.injEq, Value.int.injEq, J_bI0, J_bI1, Classical.not_not, Int.zero_add, Int.add_zero, Int.sub_zero, false_and, and_false, and_true, true_and, e_0, v_0, e_1, v_1, e_2, v_2, e_3, v_3, e_5, v_5, e_6, v_6, e_13, v_13, e_14, v_14, e_15, v_15, e_19, v_19, e_21, v_21, e_40, e_44, e_45, qspl_z, qspl_s, evC_s, evD_none, evD_v, evD_s, c_0, c_1, c_2, c_3, c_5, b_0, smE_169, sw_M_in, (smE_no (k := 216) rfl), (smE_no (k := 280) rfl), (smE_no (k := 281) rfl), r_M_plan_0, r_M_plan_1, r_M_plan_2, r_M_plan_4, r_M_plan_7, r_M_plan_10, r_M_plan_11, r_M_plan_12, r_M_plan_15, r_M_plan_18, r_M_plan_19, r_M_plan_20, r_M_plan_21, r_M_plan_22, r_M_plan_25, r_M_plan_26, r_M_plan_27, r_M_plan_30, r_M_plan_31, r_M_plan_32, r_M_plan_35, r_M_plan_36, r_M_plan_39, r_M_plan_40, r_M_plan_41, r_M_plan_44, r_M_plan_45, r_M_plan_48, r_M_plan_49, r_M_plan_52, r_M_plan_55, r_M_plan_56, r_M_plan_59, r_M_plan_62, r_M_plan_63, r_M_plan_66, r_M_plan_67, r_M_plan_70, r_M_plan_71, r_M_plan_72, r_M_plan_75, r_M_plan_76, r_M_plan_79, r_M_plan_80, r_M_plan_83, r_M_plan_84, r_M_plan_85, r_M_plan_86, r_M_plan_87, r_M_plan_89, r_M_plan_91, r_M_plan_92, r_M_plan_95, r_M_plan_98, r_M_plan_99, r_M_plan_101, r_M_plan_104, r_M_plan_107, r_M_plan_108, r_M_plan_109, r_M_plan_110, r_M_plan_111, r_M_plan_114, r_M_plan_117, r_M_plan_118, (shS_o hs), (shS_r_now hs), (shS_k_now hs), I_val, I_add, I_sub, I_mul, ShM_mk, hs, hM_j2, inB, beq_iff_eq, hM_jr, set_jA, uA_uA, uA_same]
    rw [hR]
    refine kK _ _ _ _ ?_
    refine G_ev ok_M_plan (smE_ok (d := d - 1) (by omega)) (fun _ => false) 200 (by omega) (fun K kK => ?_)
    simp (disch := omega) only [ev_s, evN_ap, List.getElem?_cons_zero, List.getElem?_cons_succ, List.set_cons_zero, List.set_cons_succ, Bool.false_eq_true, ↓reduceIte, qrest_n, qrest_1, qrest_2, qrest_3, qrest_4, qrest_5, qrest_6, qtr_i, qtr_r, true_and, and_true, List.length_cons, List.length_nil, Int.cast_ofNat_Int, Int32.toInt_zero, false_implies, true_implies, not_false_eq_true, not_true_eq_false, Option.toList_some, Option.toList_none, List.cons_append, List.nil_append, Nat.reduceBEq, Nat.reduceEqDiff, Bool.or_self, or_self, Nat.reduceAdd, Nat.reduceLT, Nat.zero_add, Int.reduceAdd, Int.reduceLE, Int.reduceLT, Int.reduceEq, and_self, Int.reduceNeg, qrok_i, qrok_b0, qrok_b1, qrok_bI, Option.some.injEq, Value.int.injEq, J_bI0, J_bI1, Classical.not_not, Int.zero_add, Int.add_zero, Int.sub_zero, false_and, and_false, and_true, true_and, e_0, v_0, e_1, v_1, e_2, v_2, e_3, v_3, e_5, v_5, e_6, v_6, e_13, v_13, e_14, v_14, e_15, v_15, e_19, v_19, e_21, v_21, e_40, e_44, e_45, qspl_z, qspl_s, evC_s, evD_none, evD_v, evD_s, c_0, c_1, c_2, c_3, c_5, b_0, smE_169, sw_M_in, (smE_no (k := 216) rfl), (smE_no (k := 280) rfl), (smE_no (k := 281) rfl), r_M_plan_0, r_M_plan_1, r_M_plan_2, r_M_plan_4, r_M_plan_7, r_M_plan_10, r_M_plan_11, r_M_plan_12, r_M_plan_15, r_M_plan_18, r_M_plan_19, r_M_plan_20, r_M_plan_21, r_M_plan_22, r_M_plan_25, r_M_plan_26, r_M_plan_27, r_M_plan_30, r_M_plan_31, r_M_plan_32, r_M_plan_35, r_M_plan_36, r_M_plan_39, r_M_plan_40, r_M_plan_41, r_M_plan_44, r_M_plan_45, r_M_plan_48, r_M_plan_49, r_M_plan_52, r_M_plan_55, r_M_plan_56, r_M_plan_59, r_M_plan_62, r_M_plan_63, r_M_plan_66, r_M_plan_67, r_M_plan_70, r_M_plan_71, r_M_plan_72, r_M_plan_75, r_M_plan_76, r_M_plan_79, r_M_plan_80, r_M_plan_83, r_M_plan_84, r_M_plan_85, r_M_plan_86, r_M_plan_87, r_M_plan_89, r_M_plan_91, r_M_plan_92, r_M_plan_95, r_M_plan_98, r_M_plan_99, r_M_plan_101, r_M_plan_104, r_M_plan_107, r_M_plan_108, r_M_plan_109, r_M_plan_110, r_M_plan_111, r_M_plan_114, r_M_plan_117, r_M_plan_118, (shS_o hs), (shS_r_now hs), (shS_k_now hs), I_val, I_add, I_sub, I_mul, ShM_mk, hs, hM_j2, inB, beq_iff_eq]
    exact kK _ _ _ _ (GCQ ok_M_plan r_M_plan_36 ⟨by decide, by decide⟩ qm_M_readsAct (T_M_readsAct (d := d - 1) (by omega) hs hS1 Rch_rf) rfl rfl (fun _ => rcM hs) rfl (Nat.le_of_ble_eq_true rfl) (by omega) (fun v1 h1 q1 => nx v1 h1 q1 _ _ _))
  · simp only [if_neg q]
    simp only [if_neg q] at kK
    have q' := q
    unfold plQ at q
    have g : ∃ t, (plQ n (r 2198 6) → Rch (fT r) n (pB 0 0 Q0 []) t ∧ PT t) ∧ ∃ r', mkH s (jn c r) = mkH s (jn c r') ∧ r' 2199 = r 2199 ∧ Pz r r' ∧ r' 2198 6 = r 2198 6 := ⟨pF 0, fun z => absurd z q', r, rfl, rfl, ⟨fun _ _ _ _ _ _ _ _ => rfl, fun _ _ _ _ _ _ => rfl⟩, rfl⟩
    simp (disch := omega) only [ev_s, evN_ap, List.getElem?_cons_zero, List.getElem?_cons_succ, List.set_cons_zero, List.set_cons_succ, Bool.false_eq_true, ↓reduceIte, qrest_n, qrest_1, qrest_2, qrest_3, qrest_4, qrest_5, qrest_6, qtr_i, qtr_r, true_and, and_true, List.length_cons, List.length_nil, Int.cast_ofNat_Int, Int32.toInt_zero, false_implies, true_implies, not_false_eq_true, not_true_eq_false, Option.toList_some, Option.toList_none, List.cons_append, List.nil_append, Nat.reduceBEq, Nat.reduceEqDiff, Bool.or_self, or_self, Nat.reduceAdd, Nat.reduceLT, Nat.zero_add, Int.reduceAdd, Int.reduceLE, Int.reduceLT, Int.reduceEq, and_self, Int.reduceNeg, qrok_i, qrok_b0, qrok_b1, qrok_bI, Option.some.injEq, Value.int.injEq, J_bI0, J_bI1, Classical.not_not, Int.zero_add, Int.add_zero, Int.sub_zero, false_and, and_false, and_true, true_and, e_0, v_0, e_1, v_1, e_2, v_2, e_3, v_3, e_5, v_5, e_6, v_6, e_13, v_13, e_14, v_14, e_15, v_15, e_19, v_19, e_21, v_21, e_40, e_44, e_45, qspl_z, qspl_s, evC_s, evD_none, evD_v, evD_s, c_0, c_1, c_2, c_3, c_5, b_0, smE_169, sw_M_in, (smE_no (k := 216) rfl), (smE_no (k := 280) rfl), (smE_no (k := 281) rfl), r_M_plan_0, r_M_plan_1, r_M_plan_2, r_M_plan_4, r_M_plan_7, r_M_plan_10, r_M_plan_11, r_M_plan_12, r_M_plan_15, r_M_plan_18, r_M_plan_19, r_M_plan_20, r_M_plan_21, r_M_plan_22, r_M_plan_25, r_M_plan_26, r_M_plan_27, r_M_plan_30, r_M_plan_31, r_M_plan_32, r_M_plan_35, r_M_plan_36, r_M_plan_39, r_M_plan_40, r_M_plan_41, r_M_plan_44, r_M_plan_45, r_M_plan_48, r_M_plan_49, r_M_plan_52, r_M_plan_55, r_M_plan_56, r_M_plan_59, r_M_plan_62, r_M_plan_63, r_M_plan_66, r_M_plan_67, r_M_plan_70, r_M_plan_71, r_M_plan_72, r_M_plan_75, r_M_plan_76, r_M_plan_79, r_M_plan_80, r_M_plan_83, r_M_plan_84, r_M_plan_85, r_M_plan_86, r_M_plan_87, r_M_plan_89, r_M_plan_91, r_M_plan_92, r_M_plan_95, r_M_plan_98, r_M_plan_99, r_M_plan_101, r_M_plan_104, r_M_plan_107, r_M_plan_108, r_M_plan_109, r_M_plan_110, r_M_plan_111, r_M_plan_114, r_M_plan_117, r_M_plan_118, (shS_o hs), (shS_r_now hs), (shS_k_now hs), I_val, I_add, I_sub, I_mul, ShM_mk, hs, hM_j2, inB, beq_iff_eq, hM_jr, bI_z]
    repeat' (first | with_reducible apply And.intro | intro _)
    all_goals try (clear kK; omega)
    all_goals first | omega | exact g
end MS
