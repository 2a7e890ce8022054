/-! the class: rows are taken over, one by one -/
noncomputable def bcC (c : qI) (P : Nat → Int → Prop) (w w' : Nat) : qI := fun x k => @ite _ (w ≤ x ∧ P (x - w) k) (Classical.propDecidable _) (c (x - w + w') k) (c x k)
def cN (p : Nat) (k : Int) : Prop := (p = 0 ∧ (k = 1 ∨ k = 2 ∨ k = 3 ∨ k = 5 ∨ k = 7 ∨ k = 8 ∨ k = 10 ∨ k = 11 ∨ k = 12 ∨ k = 16 ∨ k = 17)) ∨ (p = 1 ∧ 0 ≤ k ∧ k < 48) ∨ (p = 2 ∧ 0 ≤ k ∧ k < 4) ∨ ((p = 3 ∨ p = 4) ∧ 0 ≤ k ∧ k < 8) ∨ ((p = 5 ∨ p = 6 ∨ p = 7) ∧ 0 ≤ k ∧ k < 7)
def pN (n : Int) (o : Nat) (k : Int) : Prop := (11 + 8 * n.toNat ≤ o ∧ o < 19 + 8 * n.toNat) ∧ cN (o - 11 - 8 * n.toNat) k
def pR (i : Int) (o : Nat) (k : Int) : Prop := o = 711 + i.toNat ∧ 0 ≤ k ∧ k < 6
def cG (k : Int) : Prop := k = 0 ∨ k = 1 ∨ k = 2 ∨ k = 3 ∨ k = 4 ∨ k = 5 ∨ k = 6 ∨ k = 7 ∨ k = 8 ∨ k = 9 ∨ k = 11
section Bc
variable {c : qI} {w w' p : Nat} {P : Nat → Int → Prop} {n k i : Int}
theorem bc_y {o : Nat} (h : P o k) : bcC c P w w' (w + o) k = c (w' + o) k := by
  unfold bcC
  rw [if_pos ⟨by omega, by rw [Nat.add_sub_cancel_left]; exact h⟩, Nat.add_sub_cancel_left, Nat.add_comm]
theorem bc_n {o : Nat} (h : ¬ P o k) : bcC c P w w' (w + o) k = c (w + o) k := by
  unfold bcC
  rw [if_neg (fun z => h (by rw [Nat.add_sub_cancel_left] at z; exact z.2))]
theorem bc_o {x : Nat} (h : x < w ∨ ∀ k, ¬ P (x - w) k) : bcC c P w w' x = c x := by
  funext k
  unfold bcC
  rw [if_neg (fun z => by rcases h with h | h; (· omega); (· exact h k z.2))]
theorem nd_o : ndA w n p = w + (11 + 8 * n.toNat + p) := by unfold ndA; omega
theorem pN_N (hp : p < 8) : pN n (11 + 8 * n.toNat + p) k ↔ cN p k := by
  unfold pN
  rw [show 11 + 8 * n.toNat + p - 11 - 8 * n.toNat = p by omega]
  exact ⟨fun h => h.2, fun h => ⟨by omega, h⟩⟩
theorem bcN_y (hp : p < 8) (h : cN p k) : bcC c (pN n) w w' (ndA w n p) k = c (ndA w' n p) k := by
  rw [nd_o, nd_o]; exact bc_y ((pN_N hp).mpr h)
theorem bcN_n (hp : p < 8) (h : ¬ cN p k) : bcC c (pN n) w w' (ndA w n p) k = c (ndA w n p) k := by
  rw [nd_o]; exact bc_n (fun z => h ((pN_N hp).mp z))
/-- a node's cells, once written, are the copied ones -/
theorem bcN_eq {F : qI} (h : ∀ p k, p < 8 → cN p k → F (ndA w n p) k = c (ndA w' n p) k) (h' : ∀ p k, p < 8 → ¬ cN p k → F (ndA w n p) k = c (ndA w n p) k) (ho : ∀ x, (∀ p, p < 8 → x ≠ ndA w n p) → F x = c x) : F = bcC c (pN n) w w' := by
  funext x k
  by_cases hx : w + 11 + 8 * n.toNat ≤ x ∧ x < w + 19 + 8 * n.toNat
  · have e : x = ndA w n (x - w - 11 - 8 * n.toNat) := by unfold ndA; omega
    rw [e]
    by_cases q : cN (x - w - 11 - 8 * n.toNat) k
    · rw [bcN_y (by omega) q, h _ _ (by omega) q]
    · rw [bcN_n (by omega) q, h' _ _ (by omega) q]
  · rw [ho x (fun p hp => by unfold ndA; omega), bc_o]
    by_cases q : x < w
    · exact Or.inl q
    · exact Or.inr (fun k z => by unfold pN at z; omega)
end Bc
section CS
variable {l : Launch} {V : qV} {d : Nat} {s : qS} {w w' : Nat} {S : qN} {c g r : qI} {R n i v : Int} {Q : Option Value → qH → Prop}
theorem rcR {m : qI} {as : List Value} (h : ShW s w) (hi : 0 ≤ i ∧ i < 16) : ∃ x as', (Value.ref (rdA w i) :: as) = .ref x :: as' ∧ (hK (mkH s m) x).1 = 5 ∧ 5 < 10 := ⟨_, as, rfl, by rw [sv_kr h hi], by decide⟩
set_option maxHeartbeats 2000000 in
set_option maxRecDepth 100000 in
theorem C_Node_takeAll (hd : 5 ≤ d) (hw : 8 ≤ w ∧ w ≤ 1462) (hw' : 8 ≤ w' ∧ w' ≤ 1462) (hS : ShW s w) (hS' : ShW s w') (hww : w + 727 ≤ w' ∨ w' + 727 ≤ w) (hn : 0 ≤ n ∧ n ≤ 6) (hu : c (ndA w' n 0) 1 = 0 ∨ c (ndA w' n 0) 1 = 1) : T l V mi_Node_takeAll (rm d) 0 0 [.ref (ndA w n 0), .ref (ndA w' n 0)] (mkH s (jn c r)) (fun v h' => v = none ∧ h' = mkH s (jn (bcC c (pN n) w w') r)) := by
  refine T_ev qm_Node_takeAll [.ref (ndA w n 0), .ref (ndA w' n 0)] rfl rfl (Nat.le_of_ble_eq_true rfl) ok_Node_takeAll (smL_ok (d := d - 1) (by omega)) (fun _ => false) 200 (by omega) (fun K kK => ?_)
  have ne : ∀ p p', p < 8 → p' < 8 → ndA w' n p' ≠ ndA w n p := fun p p' a b => by unfold ndA; omega
  have ub : ∀ (X : qI) k v p p' j, p < 8 → p' < 8 → up X (ndA w n p) k v (ndA w' n p') j = X (ndA w' n p') j := fun X k v p p' j a b => up_ne (Or.inl (ne p p' a b))
  have uc : ∀ (X : qI) a0 sp dp m p p' j, p < 8 → p' < 8 → cp X a0 sp (ndA w n p) dp m (ndA w' n p') j = X (ndA w' n p') j := fun X a0 sp dp m p p' j a b => by unfold cp; rw [if_neg (fun z => ne p p' a b z.1)]
  have ca : ∀ (c : qI) p m, p < 8 → cpyM (mkH s (jn c r)) (ndA w' n p) 0 (ndA w n p) 0 m = mkH s (jn (cp c (ndA w' n p) 0 (ndA w n p) 0 m) r) := fun c p m hp => cpy_c (ndA_lt hw' hn hp) (ndA_lt hw hn hp)
  have hu2 : Int32.ofInt (c (ndA w' n 0) 1) = 0 ∨ Int32.ofInt (c (ndA w' n 0) 1) = 1 := by
    rcases hu with q | q
    · rw [q]; exact Or.inl rfl
    · rw [q]; exact Or.inr rfl
  simp (disch := omega) only [ev_s, evN_ap, List.getElem?_cons_zero, List.getElem?_cons_succ, List.set_cons_zero, List.set_cons_succ, Bool.false_eq_true, ↓reduceIte, qrest_n, qrest_1, qrest_2, qrest_3, qrest_4, qrest_5, qrest_6, qtr_i, qtr_r, true_and, and_true, List.length_cons, List.length_nil, Int.cast_ofNat_Int, Int32.toInt_zero, false_implies, true_implies, not_false_eq_true, not_true_eq_false, Option.toList_some, Option.toList_none, List.cons_append, List.nil_append, Nat.reduceBEq, Nat.reduceEqDiff, Bool.or_self, or_self, Nat.reduceAdd, Nat.reduceLT, Nat.zero_add, Int.reduceAdd, Int.reduceLE, Int.reduceLT, Int.reduceEq, and_self, Int.reduceNeg, qrok_i, qrok_b0, qrok_b1, qrok_bI, Option.some.injEq, Value.int.injEq, J_bI0, J_bI1, Classical.not_not, Int.zero_add, Int.add_zero, Int.sub_zero, false_and, and_false, and_true, true_and, e_0, v_0, e_2, v_2, e_19, v_19, e_20, v_20, e_21, v_21, e_22, v_22, e_33, v_33, e_41, e_44, qspl_z, qspl_s, evC_s, evD_none, evD_v, evD_s, (smL_no (k := 77) rfl), r_Node_takeAll_0, r_Node_takeAll_1, r_Node_takeAll_2, r_Node_takeAll_5, r_Node_takeAll_8, r_Node_takeAll_9, r_Node_takeAll_10, r_Node_takeAll_13, r_Node_takeAll_16, r_Node_takeAll_17, r_Node_takeAll_18, r_Node_takeAll_21, r_Node_takeAll_24, r_Node_takeAll_25, r_Node_takeAll_28, r_Node_takeAll_29, r_Node_takeAll_30, r_Node_takeAll_33, r_Node_takeAll_34, r_Node_takeAll_36, r_Node_takeAll_39, r_Node_takeAll_40, r_Node_takeAll_41, r_Node_takeAll_44, r_Node_takeAll_47, r_Node_takeAll_48, r_Node_takeAll_51, r_Node_takeAll_52, r_Node_takeAll_55, r_Node_takeAll_58, r_Node_takeAll_59, r_Node_takeAll_60, r_Node_takeAll_63, r_Node_takeAll_66, r_Node_takeAll_67, r_Node_takeAll_68, r_Node_takeAll_71, r_Node_takeAll_74, r_Node_takeAll_75, r_Node_takeAll_78, r_Node_takeAll_79, r_Node_takeAll_80, r_Node_takeAll_83, r_Node_takeAll_84, r_Node_takeAll_86, r_Node_takeAll_89, r_Node_takeAll_90, r_Node_takeAll_91, r_Node_takeAll_94, r_Node_takeAll_97, r_Node_takeAll_98, r_Node_takeAll_99, r_Node_takeAll_102, r_Node_takeAll_105, r_Node_takeAll_106, r_Node_takeAll_107, r_Node_takeAll_110, r_Node_takeAll_113, r_Node_takeAll_114, r_Node_takeAll_117, r_Node_takeAll_118, r_Node_takeAll_119, r_Node_takeAll_122, r_Node_takeAll_123, r_Node_takeAll_125, r_Node_takeAll_128, r_Node_takeAll_129, r_Node_takeAll_132, r_Node_takeAll_133, r_Node_takeAll_134, r_Node_takeAll_137, r_Node_takeAll_138, r_Node_takeAll_140, r_Node_takeAll_143, r_Node_takeAll_144, r_Node_takeAll_147, r_Node_takeAll_148, r_Node_takeAll_149, r_Node_takeAll_152, r_Node_takeAll_153, r_Node_takeAll_155, r_Node_takeAll_158, r_Node_takeAll_159, r_Node_takeAll_160, r_Node_takeAll_163, r_Node_takeAll_166, r_Node_takeAll_167, r_Node_takeAll_168, r_Node_takeAll_171, r_Node_takeAll_174, sv_k hS, sv_0 hS, sv_1 hS, sv_k1 hS, sv_n hS, sv_2 hS, sv_k2 hS, sv_b, sv_4, sv_5 hS, sv_k7 hS, sv_r hS, sv_kr hS, sv_7 hS, sv_k8 hS, sv_10 hS, sv_k9 hS, sv_11 hS, sv_k10 hS, sn_k hS, sn_4 hS, sn_k1 hS, sn_6 hS, sn_k2 hS, sn_24 hS, sn_k3 hS, sn_9 hS, sn_k4 hS, sn_13 hS, sn_k5 hS, sn_14 hS, sn_k6 hS, sn_15 hS, sn_k7 hS, sl_k hS, sl_2 hS, sl_k4 hS, sl_3 hS, sl_k5 hS, sl_4 hS, sl_k6 hS, sl_5 hS, sl_k7 hS, hM_cN, set_cN, cpy_cN, I_val, I_add, I_sub, I_mul, inB, beq_iff_eq, or_false, false_or, Bool.or_eq_true, Bool.or_false, Bool.false_or, bI_z, mnJ, mxJ, sn_k hS', sn_4 hS', sn_k1 hS', sn_6 hS', sn_k2 hS', sn_24 hS', sn_k3 hS', sn_9 hS', sn_k4 hS', sn_13 hS', sn_k5 hS', sn_14 hS', sn_k6 hS', sn_15 hS', sn_k7 hS', ub, uc, ca]
  refine ⟨hu2, ?_⟩
  repeat refine And.intro (by omega) ?_
  refine kK _ _ _ _ (GCD ok_Node_takeAll r_Node_takeAll_55 ⟨by decide, by decide⟩ qm_Snap_takeAll (C_snapR (d := d - 1) (by omega) (fun _ => sn_k2 hS hn) (fun _ => sn_24 hS hn) (fun _ => sn_k3 hS hn) (fun _ => sn_k2 hS' hn) (fun _ => sn_24 hS' hn) (fun _ => sn_k3 hS' hn) ⟨ndA_lt hw hn (by omega), ndA_lt hw hn (by omega), ndA_lt hw' hn (by omega), ndA_lt hw' hn (by omega)⟩ (Ne.symm (ne 2 2 (by omega) (by omega)))) rfl rfl (fun _ => by first | exact rcN hS (by omega) | exact rcW hS | exact rcG hS (by assumption) | exact rcL hS | exact rcN2 hS (by omega) | exact rcG2 hS (by assumption)) rfl (Nat.le_of_ble_eq_true rfl) (by omega) ?_)
  unfold stC
  refine G_ev ok_Node_takeAll (smL_ok (d := d - 1) (by omega)) (fun _ => false) 200 (by omega) (fun K kK => ?_)
  simp (disch := omega) only [ev_s, evN_ap, List.getElem?_cons_zero, List.getElem?_cons_succ, List.set_cons_zero, List.set_cons_succ, Bool.false_eq_true, ↓reduceIte, qrest_n, qrest_1, qrest_2, qrest_3, qrest_4, qrest_5, qrest_6, qtr_i, qtr_r, true_and, and_true, List.length_cons, List.length_nil, Int.cast_ofNat_Int, Int32.toInt_zero, false_implies, true_implies, not_false_eq_true, not_true_eq_false, Option.toList_some, Option.toList_none, List.cons_append, List.nil_append, Nat.reduceBEq, Nat.reduceEqDiff, Bool.or_self, or_self, Nat.reduceAdd, Nat.reduceLT, Nat.zero_add, Int.reduceAdd, Int.reduceLE, Int.reduceLT, Int.reduceEq, and_self, Int.reduceNeg, qrok_i, qrok_b0, qrok_b1, qrok_bI, Option.some.injEq, Value.int.injEq, J_bI0, J_bI1, Classical.not_not, Int.zero_add, Int.add_zero, Int.sub_zero, false_and, and_false, and_true, true_and, e_0, v_0, e_2, v_2, e_19, v_19, e_20, v_20, e_21, v_21, e_22, v_22, e_33, v_33, e_41, e_44, qspl_z, qspl_s, evC_s, evD_none, evD_v, evD_s, (smL_no (k := 77) rfl), r_Node_takeAll_0, r_Node_takeAll_1, r_Node_takeAll_2, r_Node_takeAll_5, r_Node_takeAll_8, r_Node_takeAll_9, r_Node_takeAll_10, r_Node_takeAll_13, r_Node_takeAll_16, r_Node_takeAll_17, r_Node_takeAll_18, r_Node_takeAll_21, r_Node_takeAll_24, r_Node_takeAll_25, r_Node_takeAll_28, r_Node_takeAll_29, r_Node_takeAll_30, r_Node_takeAll_33, r_Node_takeAll_34, r_Node_takeAll_36, r_Node_takeAll_39, r_Node_takeAll_40, r_Node_takeAll_41, r_Node_takeAll_44, r_Node_takeAll_47, r_Node_takeAll_48, r_Node_takeAll_51, r_Node_takeAll_52, r_Node_takeAll_55, r_Node_takeAll_58, r_Node_takeAll_59, r_Node_takeAll_60, r_Node_takeAll_63, r_Node_takeAll_66, r_Node_takeAll_67, r_Node_takeAll_68, r_Node_takeAll_71, r_Node_takeAll_74, r_Node_takeAll_75, r_Node_takeAll_78, r_Node_takeAll_79, r_Node_takeAll_80, r_Node_takeAll_83, r_Node_takeAll_84, r_Node_takeAll_86, r_Node_takeAll_89, r_Node_takeAll_90, r_Node_takeAll_91, r_Node_takeAll_94, r_Node_takeAll_97, r_Node_takeAll_98, r_Node_takeAll_99, r_Node_takeAll_102, r_Node_takeAll_105, r_Node_takeAll_106, r_Node_takeAll_107, r_Node_takeAll_110, r_Node_takeAll_113, r_Node_takeAll_114, r_Node_takeAll_117, r_Node_takeAll_118, r_Node_takeAll_119, r_Node_takeAll_122, r_Node_takeAll_123, r_Node_takeAll_125, r_Node_takeAll_128, r_Node_takeAll_129, r_Node_takeAll_132, r_Node_takeAll_133, r_Node_takeAll_134, r_Node_takeAll_137, r_Node_takeAll_138, r_Node_takeAll_140, r_Node_takeAll_143, r_Node_takeAll_144, r_Node_takeAll_147, r_Node_takeAll_148, r_Node_takeAll_149, r_Node_takeAll_152, r_Node_takeAll_153, r_Node_takeAll_155, r_Node_takeAll_158, r_Node_takeAll_159, r_Node_takeAll_160, r_Node_takeAll_163, r_Node_takeAll_166, r_Node_takeAll_167, r_Node_takeAll_168, r_Node_takeAll_171, r_Node_takeAll_174, sv_k hS, sv_0 hS, sv_1 hS, sv_k1 hS, sv_n hS, sv_2 hS, sv_k2 hS, sv_b, sv_4, sv_5 hS, sv_k7 hS, sv_r hS, sv_kr hS, sv_7 hS, sv_k8 hS, sv_10 hS, sv_k9 hS, sv_11 hS, sv_k10 hS, sn_k hS, sn_4 hS, sn_k1 hS, sn_6 hS, sn_k2 hS, sn_24 hS, sn_k3 hS, sn_9 hS, sn_k4 hS, sn_13 hS, sn_k5 hS, sn_14 hS, sn_k6 hS, sn_15 hS, sn_k7 hS, sl_k hS, sl_2 hS, sl_k4 hS, sl_3 hS, sl_k5 hS, sl_4 hS, sl_k6 hS, sl_5 hS, sl_k7 hS, hM_cN, set_cN, cpy_cN, I_val, I_add, I_sub, I_mul, inB, beq_iff_eq, or_false, false_or, Bool.or_eq_true, Bool.or_false, Bool.false_or, bI_z, mnJ, mxJ, sn_k hS', sn_4 hS', sn_k1 hS', sn_6 hS', sn_k2 hS', sn_24 hS', sn_k3 hS', sn_9 hS', sn_k4 hS', sn_13 hS', sn_k5 hS', sn_14 hS', sn_k6 hS', sn_15 hS', sn_k7 hS', ub, uc, ca]
  repeat refine And.intro (by omega) ?_
  refine congrArg (fun c => mkH s (jn c r)) (bcN_eq (fun p k hp q => ?_) (fun p k hp q => ?_) (fun x hx => ?_))
  · have ne0 : ∀ p p', p < 8 → p' < 8 → ¬ ndA w' n p' = ndA w n p := ne
    unfold cN at q
    rcases q with ⟨rfl, q⟩ | ⟨rfl, q⟩ | ⟨rfl, q⟩ | ⟨q1, q⟩ | ⟨q1, q⟩
    · rcases q with rfl | rfl | rfl | rfl | rfl | rfl | rfl | rfl | rfl | rfl | rfl <;> simp [up, cp, ndA_eq, ne0]
    · simp [up, cp, ndA_eq, ne0, q]
    · have q2 : k = 0 ∨ k = 1 ∨ k = 2 ∨ k = 3 := by omega
      rcases q2 with rfl | rfl | rfl | rfl <;> simp [up, cp, ndA_eq, ne0]
    · rcases q1 with rfl | rfl <;> simp [up, cp, ndA_eq, ne0, q]
    · rcases q1 with rfl | rfl | rfl <;> simp [up, cp, ndA_eq, ne0, q]
  · have hp8 : p = 0 ∨ p = 1 ∨ p = 2 ∨ p = 3 ∨ p = 4 ∨ p = 5 ∨ p = 6 ∨ p = 7 := by omega
    unfold cN at q
    rcases hp8 with rfl | rfl | rfl | rfl | rfl | rfl | rfl | rfl
    · simp [up, cp, ndA_eq]
      grind
    · have : ¬ (0 ≤ k ∧ k < 48) := by omega
      simp [up, cp, ndA_eq, this]
    · have : ¬ k = 0 ∧ ¬ k = 1 ∧ ¬ k = 2 ∧ ¬ k = 3 := by omega
      simp [up, cp, ndA_eq, this]
    · have : ¬ (0 ≤ k ∧ k < 8) := by omega
      simp [up, cp, ndA_eq, this]
    · have : ¬ (0 ≤ k ∧ k < 8) := by omega
      simp [up, cp, ndA_eq, this]
    all_goals
      have : ¬ (0 ≤ k ∧ k < 7) := by omega
      simp [up, cp, ndA_eq, this]
  · have x0 := hx 0 (by omega)
    have x1 := hx 1 (by omega)
    have x2 := hx 2 (by omega)
    have x3 := hx 3 (by omega)
    have x4 := hx 4 (by omega)
    have x5 := hx 5 (by omega)
    have x6 := hx 6 (by omega)
    have x7 := hx 7 (by omega)
    funext k
    simp [up, cp, x0, x1, x2, x3, x4, x5, x6, x7]
set_option maxHeartbeats 2000000 in
set_option maxRecDepth 100000 in
theorem C_Read_takeAll (hd : 3 ≤ d) (hw : 8 ≤ w ∧ w ≤ 1462) (hw' : 8 ≤ w' ∧ w' ≤ 1462) (hS : ShW s w) (hS' : ShW s w') (hww : w + 727 ≤ w' ∨ w' + 727 ≤ w) (hi : 0 ≤ i ∧ i < 16) : T l V mi_Read_takeAll (rm d) 0 0 [.ref (rdA w i), .ref (rdA w' i)] (mkH s (jn c r)) (fun v h' => v = none ∧ h' = mkH s (jn (bcC c (pR i) w w') r)) := by
  refine T_ev qm_Read_takeAll [.ref (rdA w i), .ref (rdA w' i)] rfl rfl (Nat.le_of_ble_eq_true rfl) ok_Read_takeAll (smL_ok (d := d - 1) (by omega)) (fun _ => false) 200 (by omega) (fun K kK => ?_)
  have ne : rdA w' i ≠ rdA w i := by unfold rdA; omega
  have h1 : ∀ m, hK (mkH s m) (rdA w i) = (5, 0) := fun _ => sv_kr hS hi
  have h2 : ∀ m, hK (mkH s m) (rdA w' i) = (5, 0) := fun _ => sv_kr hS' hi
  have sa : ∀ (c : qI) k v, setM (mkH s (jn c r)) (rdA w i) k (Int32.ofInt v) = mkH s (jn (up c (rdA w i) k v) r) := fun c k v => set_c (rdA_lt hw hi)
  have rb : ∀ (c : qI) k, hM (mkH s (jn c r)) (rdA w' i) k = Int32.ofInt (c (rdA w' i) k) := fun c k => hM_c (rdA_lt hw' hi)
  have ub : ∀ (X : qI) k v j, up X (rdA w i) k v (rdA w' i) j = X (rdA w' i) j := fun X k v j => up_ne (Or.inl ne)
  simp (disch := omega) only [ev_s, evN_ap, List.getElem?_cons_zero, List.getElem?_cons_succ, List.set_cons_zero, List.set_cons_succ, Bool.false_eq_true, ↓reduceIte, qrest_n, qrest_1, qrest_2, qrest_3, qrest_4, qrest_5, qrest_6, qtr_i, qtr_r, true_and, and_true, List.length_cons, List.length_nil, Int.cast_ofNat_Int, Int32.toInt_zero, false_implies, true_implies, not_false_eq_true, not_true_eq_false, Option.toList_some, Option.toList_none, List.cons_append, List.nil_append, Nat.reduceBEq, Nat.reduceEqDiff, Bool.or_self, or_self, Nat.reduceAdd, Nat.reduceLT, Nat.zero_add, Int.reduceAdd, Int.reduceLE, Int.reduceLT, Int.reduceEq, and_self, Int.reduceNeg, qrok_i, qrok_b0, qrok_b1, qrok_bI, Option.some.injEq, Value.int.injEq, J_bI0, J_bI1, Classical.not_not, Int.zero_add, Int.add_zero, Int.sub_zero, false_and, and_false, and_true, true_and, e_2, v_2, e_19, v_19, e_21, v_21, e_41, r_Read_takeAll_0, r_Read_takeAll_1, r_Read_takeAll_2, r_Read_takeAll_5, r_Read_takeAll_8, r_Read_takeAll_9, r_Read_takeAll_10, r_Read_takeAll_13, r_Read_takeAll_16, r_Read_takeAll_17, r_Read_takeAll_18, r_Read_takeAll_21, r_Read_takeAll_24, r_Read_takeAll_25, r_Read_takeAll_26, r_Read_takeAll_29, r_Read_takeAll_32, r_Read_takeAll_33, r_Read_takeAll_34, r_Read_takeAll_37, r_Read_takeAll_40, r_Read_takeAll_41, r_Read_takeAll_42, r_Read_takeAll_45, r_Read_takeAll_48, h1, h2, sa, rb, ub, I_val]
  refine congrArg (fun c => mkH s (jn c r)) ?_
  funext x k
  by_cases hx : x = rdA w i
  · subst hx
    have e : rdA w i = w + (711 + i.toNat) := by unfold rdA; omega
    have e' : rdA w' i = w' + (711 + i.toNat) := by unfold rdA; omega
    by_cases q : 0 ≤ k ∧ k < 6
    · rw [e, e', bc_y ⟨rfl, q⟩]
      have q2 : k = 0 ∨ k = 1 ∨ k = 2 ∨ k = 3 ∨ k = 4 ∨ k = 5 := by omega
      rcases q2 with rfl | rfl | rfl | rfl | rfl | rfl <;> simp [up]
    · rw [e, e', bc_n (fun z => q z.2)]
      have q2 : ¬ k = 0 ∧ ¬ k = 1 ∧ ¬ k = 2 ∧ ¬ k = 3 ∧ ¬ k = 4 ∧ ¬ k = 5 := by omega
      simp [up, q2]
  · rw [bc_o (by
      by_cases q : x < w
      · exact Or.inl q
      · exact Or.inr (fun k z => by unfold pR at z; unfold rdA at hx; omega))]
    simp [up, hx]
end CS
