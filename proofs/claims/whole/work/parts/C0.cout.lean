/-! the class's world: a message is taken out of the box -/
def shR (s : qS) (w : Nat) (a b : Int) : qS := (s.1, s.2.1, fun x k => if x = w + 2 ∧ a ≤ k ∧ k < b then rf s x (k + 1) else rf s x k)
def toR (s : qS) (w : Nat) (a b : Int) : qS := upR (upR (shR s w a b) (w + 2) b (inh s w)) w 4 (bx s w a)
section Ou
variable {R : Int} {s : qS} {w : Nat} {S : qN} {g : qI} {a b : Int}
theorem shR_0 : shR s w a a = s := by
  unfold shR
  have : (fun x k => if x = w + 2 ∧ a ≤ k ∧ k < a then rf s x (k + 1) else rf s x k) = s.2.2 := by
    funext x k
    rw [if_neg (by omega)]; rfl
  rw [this]
theorem shR_s (h : a ≤ b) : upR (shR s w a b) (w + 2) b (rf (shR s w a b) (w + 2) (b + 1)) = shR s w a (b + 1) := by
  unfold upR
  have : (fun a' k' => if a' = w + 2 ∧ k' = b then rf (shR s w a b) (w + 2) (b + 1) else (shR s w a b).2.2 a' k') = (shR s w a (b + 1)).2.2 := by
    funext x k
    show (if x = w + 2 ∧ k = b then (if w + 2 = w + 2 ∧ a ≤ b + 1 ∧ b + 1 < b then rf s (w + 2) (b + 1 + 1) else rf s (w + 2) (b + 1)) else if x = w + 2 ∧ a ≤ k ∧ k < b then rf s x (k + 1) else rf s x k) = if x = w + 2 ∧ a ≤ k ∧ k < b + 1 then rf s x (k + 1) else rf s x k
    by_cases h1 : x = w + 2 ∧ k = b
    · rw [if_pos h1, if_neg (by omega), if_pos (by omega), h1.1, h1.2]
    · rw [if_neg h1]
      by_cases h2 : x = w + 2 ∧ a ≤ k ∧ k < b
      · rw [if_pos h2, if_pos (by omega)]
      · rw [if_neg h2, if_neg (by omega)]
  show (s.1, s.2.1, _) = (s.1, s.2.1, _)
  rw [this]
  rfl
theorem to_bx {i : Int} : bx (toR s w a b) w i = if i = b then inh s w else if a ≤ i ∧ i < b then bx s w (i + 1) else bx s w i := by
  show (if w + 2 = w ∧ i = 4 then _ else if w + 2 = w + 2 ∧ i = b then _ else if w + 2 = w + 2 ∧ a ≤ i ∧ i < b then _ else _) = _
  rw [if_neg (by omega)]
  simp only [true_and]
  rfl
theorem to_inh : inh (toR s w a b) w = bx s w a := by
  show (if w = w ∧ (4 : Int) = 4 then _ else _) = _
  rw [if_pos ⟨rfl, rfl⟩]
theorem to_rf {x : Nat} {k : Int} (h : x ≠ w + 2 ∧ (x ≠ w ∨ k ≠ 4)) : rf (toR s w a b) x k = rf s x k := by
  show (if x = w ∧ k = 4 then _ else if x = w + 2 ∧ k = b then _ else if x = w + 2 ∧ a ≤ k ∧ k < b then _ else _) = _
  rw [if_neg (by omega), if_neg (by omega), if_neg (by omega)]
theorem to_kd {x : Nat} : kd (toR s w a b) x = kd s x := rfl
theorem to_sh (hw : 8 ≤ w) (hS : ShW s w) (ha : 0 ≤ a ∧ a ≤ b ∧ b ≤ 159) : ShW (toR s w a b) w := by
  obtain ⟨v, ⟨b1, b2, b3⟩, l⟩ := hS
  have moN : ∀ o, isMO w o → ∀ i, i < 4 → o + i ≠ w ∧ o + i ≠ w + 2 := fun o ho i hi => by rcases ho with h | ⟨j, h1, h2⟩ <;> omega
  have mo0 : ∀ o, isMO w o → o ≠ w ∧ o ≠ w + 2 := fun o ho => by rcases ho with h | ⟨j, h1, h2⟩ <;> omega
  have ndN : ∀ n p, ndA w n p ≠ w ∧ ndA w n p ≠ w + 2 := fun n p => by unfold ndA; omega
  refine ⟨?_, ⟨?_, ?_, ?_⟩, ?_⟩
  · obtain ⟨v0, v1, v2, v3, v4, v5, v6, v7, v8, v9, v10, v11⟩ := v
    refine ⟨v0, ?_, ?_, ?_, ?_, ?_, ?_, ?_, ?_, ?_, ?_, ?_⟩
    · rw [to_rf (by omega)]; exact v1
    · rw [to_rf (by omega)]; exact v2
    · intro n h1 h2; rw [to_rf (by omega)]; exact v3 n h1 h2
    · rw [to_rf (by omega)]; exact v4
    · rw [to_rf (by omega)]; exact v5
    · intro i h1 h2; rw [to_rf (by omega)]; exact v6 i h1 h2
    · rw [to_rf (by omega)]; exact v7
    · rw [to_rf (by omega)]; exact v8
    · rw [to_rf (by omega)]; exact v9
    · intro n h1 h2
      have q0 := ndN n 0
      have q2 := ndN n 2
      unfold ShN
      rw [to_rf (by omega), to_rf (by omega), to_rf (by omega), to_rf (by omega), to_rf (by omega), to_rf (by omega), to_rf (by omega)]
      exact v10 n h1 h2
    · intro o ho
      have q0 := mo0 o ho
      have q2 := moN o ho 2 (by omega)
      unfold ShG
      rw [to_rf (by omega), to_rf (by omega), to_rf (by omega)]
      exact v11 o ho
  · intro i h1 h2
    rw [to_bx, to_inh]
    split
    · refine ⟨b2, Ne.symm (b1 a (by omega) (by omega)).2⟩
    · split
      · refine ⟨(b1 (i + 1) (by omega) (by omega)).1, ?_⟩
        exact Ne.symm (b3 a (i + 1) (by omega) (by omega) (by omega))
      · refine ⟨(b1 i h1 h2).1, ?_⟩
        rcases Int.lt_or_le i a with q | q
        · exact b3 i a h1 q (by omega)
        · exact Ne.symm (b3 a i (by omega) (by omega) h2)
  · rw [to_inh]; exact (b1 a (by omega) (by omega)).1
  · intro i j h1 h2 h3
    rw [to_bx, to_bx]
    split
    · rw [if_neg (by omega), if_neg (by omega)]
      exact Ne.symm (b1 j (by omega) (by omega)).2
    · split
      · split
        · exact (b1 (i + 1) (by omega) (by omega)).2
        · split
          · exact b3 (i + 1) (j + 1) (by omega) (by omega) (by omega)
          · exact b3 (i + 1) j (by omega) (by omega) (by omega)
      · split
        · exact (b1 i h1 (by omega)).2
        · split
          · exact b3 i (j + 1) h1 (by omega) (by omega)
          · exact b3 i j h1 h2 h3
  · obtain ⟨l1, l2, l3, l4, l5⟩ := l
    refine ⟨l1, ?_, ?_, ?_, ?_⟩
    · rw [to_rf (by omega)]; exact l2
    · rw [to_rf (by omega)]; exact l3
    · rw [to_rf (by omega)]; exact l4
    · rw [to_rf (by omega)]; exact l5
theorem rm_mk (ho : OK R S) (ha : 0 ≤ a ∧ a < S 11133) : mkC w (u1 S 11133 (S 11133 - 1)) g = mkC w (rmM S a) g := by
  have h160 := OK_160 ho
  have g0 := OK_g ho
  refine mkC_cg (fun j h1 h2 => ?_) (fun j h1 h2 => ?_)
  · rw [rm_off g0 ha (by omega) (by omega), u1_ne (by omega)]
  · by_cases hj : j = 11133
    · rw [hj]
      unfold rmM
      rw [u1_same, u1_same]
    · rw [rm_off g0 ha (by omega) hj, u1_ne hj]
theorem rm_ms (hw : 8 ≤ w) (ho : OK R S) (hS : ShW s w) (ha : 0 ≤ a ∧ a < S 11133) (hm : MsC s w g S) : MsC (toR s w a (S 11133 - 1)) w g (rmM S a) := by
  have h160 := OK_160 ho
  have g0 := OK_g ho
  have e3 : rmM S a 11133 = S 11133 - 1 := by unfold rmM; exact u1_same
  refine ⟨fun m m0 m1 => ?_, hm.2⟩
  rw [e3] at m1
  have em : ∀ k, 0 ≤ k → k < 27 → ml (rmM S a) m k = ml S (if m < a then m else m + 1) k := fun k k0 k1 => rm_ml g0 ha ⟨m0, m1⟩ ⟨k0, k1⟩
  have eb : bx (toR s w a (S 11133 - 1)) w m = bx s w (if m < a then m else m + 1) := by
    rw [to_bx, if_neg (by omega)]
    split
    · rw [if_neg (by omega)]
    · rw [if_pos (by omega)]
  have hj : 0 ≤ (if m < a then m else m + 1) ∧ (if m < a then m else m + 1) < S 11133 := by split <;> omega
  obtain ⟨a1, a2⟩ := hm.1 _ hj.1 hj.2
  rw [eb]
  exact ⟨MgC_M (OK_m5 ho _ hj.1 hj.2) (fun k k0 k1 _ => em k k0 k1) a1, by rw [a2, em 4 (by omega) (by omega)]⟩
end Ou
section CS
variable {l : Launch} {V : qV} {d : Nat} {s : qS} {w : Nat} {S : qN} {c g r : qI} {R n : Int} {Q : Option Value → qH → Prop}
theorem sh_k {x : Nat} {m : qI} {a b : Int} : hK (mkH (shR s w a b) m) x = hK (mkH s m) x := rfl
theorem sh_r {x : Nat} {m : qI} {a b k : Int} (h : x ≠ w + 2) : hR (mkH (shR s w a b) m) x k = hR (mkH s m) x k := by
  show (if x = w + 2 ∧ a ≤ k ∧ k < b then _ else _) = _
  rw [if_neg (by omega)]
  rfl
theorem sh_b {m : qI} {a b k : Int} (h : b ≤ k) : hR (mkH (shR s w a b) m) (w + 2) k = bx s w k := by
  show (if w + 2 = w + 2 ∧ a ≤ k ∧ k < b then _ else _) = _
  rw [if_neg (by omega)]
  rfl
theorem LC_takeOut (hd : 3 ≤ d) (hw : 8 ≤ w ∧ w ≤ 1462) (hS : ShW s w) {N a : Int} {x1 : Value} (hN : S 11133 = N) (h160 : 0 ≤ a ∧ a ≤ N ∧ N ≤ 159) (hQ : Q none (mkH (toR s w a N) (jn (mkC w S g) r))) : ∀ (j : Nat) (i : Int), i + j = N → a ≤ i →
    G l V mi_World_takeOut (rm d) 0 0 Q 0 0 19 [.ref w, x1, .ref (bx s w a), .int (Int32.ofInt i)] [] (mkH (shR s w a i) (jn (mkC w S g) r)) := by
  have sr2 : ∀ b (m : qI), hR (mkH (shR s w a b) m) w 2 = w + 2 := fun b m => (sh_r (by omega)).trans (sv_2 hS)
  have sr4 : ∀ b (m : qI), hR (mkH (shR s w a b) m) w 4 = inh s w := fun b m => (sh_r (by omega)).trans sv_4
  intro j
  induction j with
  | zero =>
    intro i h1 h2
    have hi : i = N := by omega
    subst hi
    have hk4 : ∀ m, hK (mkH s m) (inh s w) = (2, 0) := fun m => sg_k hS hS.2.1.2.1
    have hka : ∀ m, hK (mkH s m) (bx s w a) = (2, 0) := fun m => sg_k hS (hS.2.1.1 a (by omega) (by omega)).1
    have x1 : ∀ x k v (m : qI) z, hK (mkH (upR (shR s w a i) x k v) m) z = hK (mkH s m) z := fun _ _ _ _ _ => rfl
    refine G_ev ok_World_takeOut (smL_ok (d := d - 1) (by omega)) (fun pc => pc == 19) 200 (by omega) (fun K kK => ?_)
    simp (disch := omega) only [ev_s, evN_ap, List.getElem?_cons_zero, List.getElem?_cons_succ, List.set_cons_zero, List.set_cons_succ, Bool.false_eq_true, ↓reduceIte, qrest_n, qrest_1, qrest_2, qrest_3, qrest_4, qrest_5, qrest_6, qtr_i, qtr_r, true_and, and_true, List.length_cons, List.length_nil, Int.cast_ofNat_Int, Int32.toInt_zero, false_implies, true_implies, not_false_eq_true, not_true_eq_false, Option.toList_some, Option.toList_none, List.cons_append, List.nil_append, Nat.reduceBEq, Nat.reduceEqDiff, Bool.or_self, or_self, Nat.reduceAdd, Nat.reduceLT, Nat.zero_add, Int.reduceAdd, Int.reduceLE, Int.reduceLT, Int.reduceEq, and_self, Int.reduceNeg, qrok_i, qrok_b0, qrok_b1, qrok_bI, Option.some.injEq, Value.int.injEq, J_bI0, J_bI1, Classical.not_not, Int.zero_add, Int.add_zero, Int.sub_zero, false_and, and_false, and_true, true_and, e_0, v_0, e_1, v_1, e_2, v_2, e_3, v_3, e_4, v_4, e_5, v_5, e_6, v_6, e_10, v_10, e_13, v_13, e_15, v_15, e_19, v_19, e_20, v_20, e_21, v_21, e_23, v_23, e_26, v_26, e_27, v_27, e_41, c_3, b_0, b_1, r_World_takeOut_0, r_World_takeOut_1, r_World_takeOut_4, r_World_takeOut_5, r_World_takeOut_6, r_World_takeOut_7, r_World_takeOut_8, r_World_takeOut_9, r_World_takeOut_12, r_World_takeOut_13, r_World_takeOut_14, r_World_takeOut_17, r_World_takeOut_18, r_World_takeOut_19, r_World_takeOut_20, r_World_takeOut_21, r_World_takeOut_24, r_World_takeOut_27, r_World_takeOut_28, r_World_takeOut_31, r_World_takeOut_32, r_World_takeOut_33, r_World_takeOut_36, r_World_takeOut_37, r_World_takeOut_38, r_World_takeOut_39, r_World_takeOut_40, r_World_takeOut_41, r_World_takeOut_44, r_World_takeOut_47, r_World_takeOut_48, r_World_takeOut_51, r_World_takeOut_52, r_World_takeOut_55, r_World_takeOut_56, r_World_takeOut_59, r_World_takeOut_60, r_World_takeOut_61, r_World_takeOut_62, r_World_takeOut_65, sh_k, sr2, sr4, setR_mk, hk4, hka, x1, sv_k hS, sv_k2 hS, rw_3, hN, I_val, I_add, inB, beq_iff_eq, or_false, false_or]
    repeat' (first | with_reducible apply And.intro | intro _)
    all_goals try (clear kK; omega)
    all_goals first | omega | exact hQ | trivial
  | succ j ih =>
    intro i h1 h2
    have hkb : ∀ m, hK (mkH s m) (bx s w (i + 1)) = (2, 0) := fun m => sg_k hS (hS.2.1.1 (i + 1) (by omega) (by omega)).1
    have sb : ∀ m, hR (mkH (shR s w a i) m) (w + 2) (i + 1) = bx s w (i + 1) := fun m => sh_b (by omega)
    have st : upR (shR s w a i) (w + 2) i (bx s w (i + 1)) = shR s w a (i + 1) := by
      rw [← shR_s h2]
      congr 1
      exact (sh_b (m := fun _ _ => 0) (by omega)).symm
    refine G_ev ok_World_takeOut (smL_ok (d := d - 1) (by omega)) (fun pc => pc == 19) 200 (by omega) (fun K kK => ?_)
    simp (disch := omega) only [ev_s, evN_ap, List.getElem?_cons_zero, List.getElem?_cons_succ, List.set_cons_zero, List.set_cons_succ, Bool.false_eq_true, ↓reduceIte, qrest_n, qrest_1, qrest_2, qrest_3, qrest_4, qrest_5, qrest_6, qtr_i, qtr_r, true_and, and_true, List.length_cons, List.length_nil, Int.cast_ofNat_Int, Int32.toInt_zero, false_implies, true_implies, not_false_eq_true, not_true_eq_false, Option.toList_some, Option.toList_none, List.cons_append, List.nil_append, Nat.reduceBEq, Nat.reduceEqDiff, Bool.or_self, or_self, Nat.reduceAdd, Nat.reduceLT, Nat.zero_add, Int.reduceAdd, Int.reduceLE, Int.reduceLT, Int.reduceEq, and_self, Int.reduceNeg, qrok_i, qrok_b0, qrok_b1, qrok_bI, Option.some.injEq, Value.int.injEq, J_bI0, J_bI1, Classical.not_not, Int.zero_add, Int.add_zero, Int.sub_zero, false_and, and_false, and_true, true_and, e_0, v_0, e_1, v_1, e_2, v_2, e_3, v_3, e_4, v_4, e_5, v_5, e_6, v_6, e_10, v_10, e_13, v_13, e_15, v_15, e_19, v_19, e_20, v_20, e_21, v_21, e_23, v_23, e_26, v_26, e_27, v_27, e_41, c_3, b_0, b_1, r_World_takeOut_0, r_World_takeOut_1, r_World_takeOut_4, r_World_takeOut_5, r_World_takeOut_6, r_World_takeOut_7, r_World_takeOut_8, r_World_takeOut_9, r_World_takeOut_12, r_World_takeOut_13, r_World_takeOut_14, r_World_takeOut_17, r_World_takeOut_18, r_World_takeOut_19, r_World_takeOut_20, r_World_takeOut_21, r_World_takeOut_24, r_World_takeOut_27, r_World_takeOut_28, r_World_takeOut_31, r_World_takeOut_32, r_World_takeOut_33, r_World_takeOut_36, r_World_takeOut_37, r_World_takeOut_38, r_World_takeOut_39, r_World_takeOut_40, r_World_takeOut_41, r_World_takeOut_44, r_World_takeOut_47, r_World_takeOut_48, r_World_takeOut_51, r_World_takeOut_52, r_World_takeOut_55, r_World_takeOut_56, r_World_takeOut_59, r_World_takeOut_60, r_World_takeOut_61, r_World_takeOut_62, r_World_takeOut_65, sh_k, sr2, sr4, setR_mk, hkb, sb, st, sv_k hS, sv_k2 hS, rw_3, hN, I_val, I_add, inB, beq_iff_eq, or_false, false_or]
    repeat' (first | with_reducible apply And.intro | intro _)
    all_goals try (clear kK; omega)
    all_goals first | omega | exact kK _ _ _ _ (ih (i + 1) (by omega) (by omega)) | trivial
set_option maxHeartbeats 2000000 in
set_option maxRecDepth 100000 in
theorem C_World_takeOut (hd : 4 ≤ d) (hw : 8 ≤ w ∧ w ≤ 1462) (hS : ShW s w) {a : Int} (ho : OK R S) (ha : 0 ≤ a ∧ a < S 11133) : T l V mi_World_takeOut (rm d) 0 0 [.ref w, .int (Int32.ofInt a)] (mkH s (jn (mkC w S g) r)) (fun v h' => v = none ∧ h' = mkH (toR s w a (S 11133 - 1)) (jn (mkC w (rmM S a) g) r)) := by
  refine T_ev qm_World_takeOut [.ref w, .int (Int32.ofInt a), .retAddr 0, .retAddr 0] rfl rfl (Nat.le_of_ble_eq_true rfl) ok_World_takeOut (smL_ok (d := d - 1) (by omega)) (fun pc => pc == 19) 200 (by omega) (fun K kK => ?_)
  have h160 := OK_160 ho
  simp (disch := omega) only [ev_s, evN_ap, List.getElem?_cons_zero, List.getElem?_cons_succ, List.set_cons_zero, List.set_cons_succ, Bool.false_eq_true, ↓reduceIte, qrest_n, qrest_1, qrest_2, qrest_3, qrest_4, qrest_5, qrest_6, qtr_i, qtr_r, true_and, and_true, List.length_cons, List.length_nil, Int.cast_ofNat_Int, Int32.toInt_zero, false_implies, true_implies, not_false_eq_true, not_true_eq_false, Option.toList_some, Option.toList_none, List.cons_append, List.nil_append, Nat.reduceBEq, Nat.reduceEqDiff, Bool.or_self, or_self, Nat.reduceAdd, Nat.reduceLT, Nat.zero_add, Int.reduceAdd, Int.reduceLE, Int.reduceLT, Int.reduceEq, and_self, Int.reduceNeg, qrok_i, qrok_b0, qrok_b1, qrok_bI, Option.some.injEq, Value.int.injEq, J_bI0, J_bI1, Classical.not_not, Int.zero_add, Int.add_zero, Int.sub_zero, false_and, and_false, and_true, true_and, e_0, v_0, e_1, v_1, e_2, v_2, e_3, v_3, e_4, v_4, e_5, v_5, e_6, v_6, e_10, v_10, e_13, v_13, e_15, v_15, e_19, v_19, e_20, v_20, e_21, v_21, e_23, v_23, e_26, v_26, e_27, v_27, e_41, c_3, b_0, b_1, r_World_takeOut_0, r_World_takeOut_1, r_World_takeOut_4, r_World_takeOut_5, r_World_takeOut_6, r_World_takeOut_7, r_World_takeOut_8, r_World_takeOut_9, r_World_takeOut_12, r_World_takeOut_13, r_World_takeOut_14, r_World_takeOut_17, r_World_takeOut_18, r_World_takeOut_19, r_World_takeOut_20, r_World_takeOut_21, r_World_takeOut_24, r_World_takeOut_27, r_World_takeOut_28, r_World_takeOut_31, r_World_takeOut_32, r_World_takeOut_33, r_World_takeOut_36, r_World_takeOut_37, r_World_takeOut_38, r_World_takeOut_39, r_World_takeOut_40, r_World_takeOut_41, r_World_takeOut_44, r_World_takeOut_47, r_World_takeOut_48, r_World_takeOut_51, r_World_takeOut_52, r_World_takeOut_55, r_World_takeOut_56, r_World_takeOut_59, r_World_takeOut_60, r_World_takeOut_61, r_World_takeOut_62, r_World_takeOut_65, sv_k hS, sv_0 hS, sv_1 hS, sv_k1 hS, sv_n hS, sv_2 hS, sv_k2 hS, sv_b, sv_4, sv_5 hS, sv_k7 hS, sv_r hS, sv_kr hS, sv_7 hS, sv_k8 hS, sv_10 hS, sv_k9 hS, sv_11 hS, sv_k10 hS, sn_k hS, sn_4 hS, sn_k1 hS, sn_6 hS, sn_k2 hS, sn_24 hS, sn_k3 hS, sn_9 hS, sn_k4 hS, sn_13 hS, sn_k5 hS, sn_14 hS, sn_k6 hS, sn_15 hS, sn_k7 hS, sl_k hS, sl_2 hS, sl_k4 hS, sl_3 hS, sl_k5 hS, sl_4 hS, sl_k6 hS, sl_5 hS, sl_k7 hS, rn_0, rn_1, rn_2, rn_3, rn_5, rn_7, rn_8, rn_10, rn_11, rn_12, rn_16, rn_17, rn_log, rn_20, rn_21, rn_22, rn_23, rn_sk, rn_key, rn_next, rn_match, rn_heard, rw_3, rw_6, rw_8, rw_9, rw_12, rw_13, rw_14, rw_15, rw_he, rw_ld, rw_cu, rr_0, rr_1, rr_2, rr_3, rr_4, rr_5, su_2, su_8, su_10, su_12, su_16, su_17, su_20, su_21, su_22, su_23, su_sk, su_key, su_next, su_match, su_heard, su_3m, su_3, su_11m, su_11, su_7, sw_3, sw_8, sw_12, sw_13, sw_14, sw_15, sw_ld, sw_cu, sr_0, sr_5, I_val, I_add, I_sub, I_mul, inB, beq_iff_eq, or_false, false_or, u1_ne, u1_same, nd_u1, nd_u1s, lpS_u1, Bool.or_eq_true, Bool.or_false, Bool.false_or, bI_z, mnI_I, mxI_I]
  repeat' (first | with_reducible apply And.intro | intro _)
  all_goals try (clear kK; omega)
  all_goals first | omega | skip
  refine kK _ _ _ _ ?_
  have := LC_takeOut (l := l) (V := V) (d := d) (r := r) (g := g) (s := s) (S := u1 S 11133 (S 11133 - 1)) (a := a) (N := S 11133 - 1) (x1 := .int (Int32.ofInt a)) (Q := fun v h' => v = none ∧ h' = mkH (toR s w a (S 11133 - 1)) (jn (mkC w (rmM S a) g) r)) (by omega) hw hS u1_same (by omega) ⟨rfl, by rw [rm_mk ho ha]⟩ (S 11133 - 1 - a).toNat a (by omega) (by omega)
  rw [shR_0] at this
  exact this
end CS
