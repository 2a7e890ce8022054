/-! the reference's reader of laws: numbers, factors -/
section Lr
variable {r r' r'' : qI} {n o o' p' b : Int} {K : LK} {U : LU} {W W' : List Int} {X : qN} {Y : List (Int × Int × Int)}
theorem wcX_a {X1 X2 : List Int} : wcX (X1 ++ X2) Y = X1.map (fun a => 1048576 * a) ++ wcX X2 Y := by simp [wcX]
theorem wcX_l {X1 : List Int} : ((wcX X1 Y).length : Int) = X1.length + Y.length := by simp [wcX, wcY]
theorem WtR_s : ∀ (V : List Int) {W : List Int}, WtR r (V ++ W) → WtR r W
  | [], _, h => h
  | _ :: V, _, h => WtR_s V h.2
theorem LrS_push (h : LrS r n K U W o) (hp : 0 ≤ p' ∧ p' ≤ n) (hq : K.2.1 ≤ p' + 1 ∧ (W.length : Int) ≤ p') (hb : 0 ≤ b ∧ b ≤ 20000000) : LrS (uA (uA r 2206 (u1 (r 2206) (W.length : Int) b)) 2198 (u1 (u1 (r 2198) 13 ((W.length : Int) + 1)) 7 p')) n (atK K p') U (b :: W) o := by
  obtain ⟨⟨⟨h7, h8⟩, h12, h05⟩, ⟨⟨h14, h07⟩, h08, h09, h10⟩, ⟨⟨h13, hW⟩, h11⟩, ⟨hpp, hn, hm⟩, hl, ⟨ho, hu⟩, hbb, hc⟩ := h
  have e98 : uA (uA r 2206 (u1 (r 2206) (W.length : Int) b)) 2198 (u1 (u1 (r 2198) 13 ((W.length : Int) + 1)) 7 p') 2198 = u1 (u1 (r 2198) 13 ((W.length : Int) + 1)) 7 p' := uA_same
  have e06 : uA (uA r 2206 (u1 (r 2206) (W.length : Int) b)) 2198 (u1 (u1 (r 2198) 13 ((W.length : Int) + 1)) 7 p') 2206 = u1 (r 2206) (W.length : Int) b := by rw [uA_ne (by omega), uA_same]
  have eo : ∀ a', a' ≠ 2198 → a' ≠ 2206 → uA (uA r 2206 (u1 (r 2206) (W.length : Int) b)) 2198 (u1 (u1 (r 2198) 13 ((W.length : Int) + 1)) 7 p') a' = r a' := fun a' a1 a2 => by rw [uA_ne a1, uA_ne a2]
  generalize uA (uA r 2206 (u1 (r 2206) (W.length : Int) b)) 2198 (u1 (u1 (r 2198) 13 ((W.length : Int) + 1)) 7 p') = R1 at *
  unfold LrS
  rw [e98, eo 2205 (by omega) (by omega), eo 2207 (by omega) (by omega), eo 2208 (by omega) (by omega), eo 2209 (by omega) (by omega), eo 2210 (by omega) (by omega)]
  refine ⟨⟨⟨u1_same, by rw [u1_ne (by omega), u1_ne (by omega)]; exact h8⟩, by rw [u1_ne (by omega), u1_ne (by omega)]; exact h12, h05⟩, ⟨⟨by rw [u1_ne (by omega), u1_ne (by omega)]; exact h14, h07⟩, h08, h09, h10⟩, ⟨⟨by rw [u1_ne (by omega), u1_same, List.length_cons]; omega, ?_, ?_⟩, by rw [u1_ne (by omega), u1_ne (by omega)]; exact h11⟩, ⟨hp, hn, by show 0 ≤ K.2.1 ∧ K.2.1 ≤ p' + 1; omega⟩, by rw [List.length_cons]; show _ ≤ p' + 1; omega, ⟨by omega, hu⟩, fun b' hb' => ?_, hc⟩
  · rw [e06, u1_same]
  · refine WtR_c (fun i i1 i2 => ?_) hW
    rw [e06, u1_ne (by omega)]
  · rcases List.mem_cons.mp hb' with rfl | hb'
    · exact hb
    · exact hbb b' hb'
theorem LrF_push {X : qN} {q : qN} (h : ∀ k, k ≠ 7 → k ≠ 13 → X k = r 2198 k) : LrF r (uA (uA r 2206 q) 2198 X) := ⟨fun a a1 a2 => by rw [uA_ne a1, uA_ne (by omega)], fun k k1 k2 => by rw [uA_same]; exact h k k1 (by omega)⟩
end Lr
section MS
variable {l : Launch} {V : qV} {d : Nat} {s : qS} {c r r0 : qI} {R n p o b : Int} {Q : Option Value → qH → Prop} {K : LK} {U : LU} {W : List Int} {Y : List (Int × Int × Int)}
set_option maxHeartbeats 2000000 in
set_option maxRecDepth 100000 in
theorem LM_ho (hd : 6 ≤ d) (hs : ShMs s) {X : List Int} {x1 : Value} (h : LrS r n K U (wcX X Y) o) (hx : ∀ a ∈ X, 2 ≤ a ∧ a ≤ 14) (hQ : Q (some (.int (bI (14 ∈ X)))) (mkH s (jn c r))) : ∀ (j : Nat) (X1 X2 : List Int), X1.length = j → X = X1 ++ X2 → 14 ∉ X2 →
    G l V mi_M_hasOpenSum (rm d) 0 0 Q 0 0 2 [.ref 2198, x1, .int (Int32.ofInt ((X2.length : Int) + Y.length))] [] (mkH s (jn c r)) := by
  have h13 := (LrS_p h).2.2.1
  have bb : (X.length : Int) + Y.length ≤ 250 := by
    have b1 := LrS_b h
    rw [wcX_l] at b1
    have b2 := b1.2.1.2
    have b3 := b1.1.1.2
    have b4 := b1.1.2.1.2
    omega
  rw [wcX_l] at h13
  intro j
  induction j with
  | zero =>
    intro X1 X2 hj e h14
    have e1 : X1 = [] := List.eq_nil_of_length_eq_zero hj
    rw [e1, List.nil_append] at e
    subst e
    rw [bF h14] at hQ
    have h0 : 0 ≤ (X.length : Int) := by omega
    have h1 : 0 ≤ (Y.length : Int) := by omega
    clear h hx h14
    generalize (X.length : Int) = L at *
    generalize (Y.length : Int) = M at *
    refine G_ev ok_M_hasOpenSum (smE_ok (d := d - 1) (by omega)) (fun _ => false) 200 (by omega) (fun Kc kK => ?_)
    simp (disch := omega) only [ev_s, evN_ap, List.getElem?_cons_zero, List.getElem?_cons_succ, List.set_cons_zero, List.set_cons_succ, Bool.false_eq_true, ↓reduceIte, qrest_n, qrest_1, qrest_2, qrest_3, qrest_4, qrest_5, qrest_6, qtr_i, qtr_r, true_and, and_true, List.length_cons, List.length_nil, Int.cast_ofNat_Int, Int32.toInt_zero, false_implies, true_implies, not_false_eq_true, not_true_eq_false, Option.toList_some, Option.toList_none, List.cons_append, List.nil_append, Nat.reduceBEq, Nat.reduceEqDiff, Bool.or_self, or_self, Nat.reduceAdd, Nat.reduceLT, Nat.zero_add, Int.reduceAdd, Int.reduceLE, Int.reduceLT, Int.reduceEq, and_self, Int.reduceNeg, qrok_i, qrok_b0, qrok_b1, qrok_bI, Option.some.injEq, Value.int.injEq, J_bI0, J_bI1, Classical.not_not, Int.zero_add, Int.add_zero, Int.sub_zero, false_and, and_false, and_true, true_and, e_0, v_0, e_1, v_1, e_2, v_2, e_3, v_3, e_5, v_5, e_7, v_7, e_13, v_13, e_15, v_15, e_19, v_19, e_20, v_20, e_24, v_24, e_40, c_1, c_3, r_M_hasOpenSum_0, r_M_hasOpenSum_1, r_M_hasOpenSum_2, r_M_hasOpenSum_3, r_M_hasOpenSum_4, r_M_hasOpenSum_7, r_M_hasOpenSum_10, r_M_hasOpenSum_11, r_M_hasOpenSum_14, r_M_hasOpenSum_15, r_M_hasOpenSum_16, r_M_hasOpenSum_18, r_M_hasOpenSum_19, r_M_hasOpenSum_21, r_M_hasOpenSum_24, r_M_hasOpenSum_25, r_M_hasOpenSum_26, r_M_hasOpenSum_29, r_M_hasOpenSum_32, r_M_hasOpenSum_33, (shS_o hs), (shS_r_now hs), (shS_k_now hs), I_val, I_add, I_sub, I_mul, ShM_mk, hs, hM_j2, inB, beq_iff_eq, hM_jr, h13]
    repeat' (first | with_reducible apply And.intro | intro _)
    all_goals try (clear kK; omega)
    all_goals first | omega | exact hQ
  | succ j ih =>
    intro X1 X2 hj e h14
    obtain ⟨X3, a, rfl⟩ : ∃ X3 a, X1 = X3 ++ [a] := by
      have : X1 ≠ [] := by intro z; rw [z] at hj; simp at hj
      exact ⟨X1.dropLast, X1.getLast this, (List.dropLast_concat_getLast this).symm⟩
    have e2 : X = X3 ++ (a :: X2) := by rw [e]; simp
    have va : r 2206 ((X2.length : Int) + Y.length) = 1048576 * a := by
      have hW := h.2.2.1.1.2
      rw [e2, wcX_a] at hW
      have hW2 : WtR r (1048576 * a :: wcX X2 Y) := WtR_s _ hW
      have := hW2.1
      rw [wcX_l] at this
      exact this
    have ha : 2 ≤ a ∧ a ≤ 14 := hx a (by rw [e2]; simp)
    have hl : (X2.length : Int) + 1 ≤ X.length := by rw [e2]; simp; omega
    have e14 : 1048576 * a / 1048576 = a := by omega
    have h0 : 0 ≤ (X2.length : Int) := by omega
    have h1 : 0 ≤ (Y.length : Int) := by omega
    by_cases q : a = 14
    · rw [bT (show 14 ∈ X by rw [e2, q]; simp)] at hQ
      clear ih h hx e e2 hj h14
      generalize (X2.length : Int) = L at *
      generalize (X.length : Int) = L2 at *
      generalize (Y.length : Int) = M at *
      refine G_ev ok_M_hasOpenSum (smE_ok (d := d - 1) (by omega)) (fun pc => pc == 2) 200 (by omega) (fun Kc kK => ?_)
      simp (disch := omega) only [ev_s, evN_ap, List.getElem?_cons_zero, List.getElem?_cons_succ, List.set_cons_zero, List.set_cons_succ, Bool.false_eq_true, ↓reduceIte, qrest_n, qrest_1, qrest_2, qrest_3, qrest_4, qrest_5, qrest_6, qtr_i, qtr_r, true_and, and_true, List.length_cons, List.length_nil, Int.cast_ofNat_Int, Int32.toInt_zero, false_implies, true_implies, not_false_eq_true, not_true_eq_false, Option.toList_some, Option.toList_none, List.cons_append, List.nil_append, Nat.reduceBEq, Nat.reduceEqDiff, Bool.or_self, or_self, Nat.reduceAdd, Nat.reduceLT, Nat.zero_add, Int.reduceAdd, Int.reduceLE, Int.reduceLT, Int.reduceEq, and_self, Int.reduceNeg, qrok_i, qrok_b0, qrok_b1, qrok_bI, Option.some.injEq, Value.int.injEq, J_bI0, J_bI1, Classical.not_not, Int.zero_add, Int.add_zero, Int.sub_zero, false_and, and_false, and_true, true_and, e_0, v_0, e_1, v_1, e_2, v_2, e_3, v_3, e_5, v_5, e_7, v_7, e_13, v_13, e_15, v_15, e_19, v_19, e_20, v_20, e_24, v_24, e_40, c_1, c_3, r_M_hasOpenSum_0, r_M_hasOpenSum_1, r_M_hasOpenSum_2, r_M_hasOpenSum_3, r_M_hasOpenSum_4, r_M_hasOpenSum_7, r_M_hasOpenSum_10, r_M_hasOpenSum_11, r_M_hasOpenSum_14, r_M_hasOpenSum_15, r_M_hasOpenSum_16, r_M_hasOpenSum_18, r_M_hasOpenSum_19, r_M_hasOpenSum_21, r_M_hasOpenSum_24, r_M_hasOpenSum_25, r_M_hasOpenSum_26, r_M_hasOpenSum_29, r_M_hasOpenSum_32, r_M_hasOpenSum_33, (shS_o hs), (shS_r_now hs), (shS_k_now hs), I_val, I_add, I_sub, I_mul, ShM_mk, hs, hM_j2, inB, beq_iff_eq, (shS_o hs), (shS_r_waitsAt hs), (shS_k_waitsAt hs), hM_jr, h13, va, I_div, e14]
      repeat' (first | with_reducible apply And.intro | intro _)
      all_goals try (clear kK; omega)
      all_goals first | omega | exact hQ
    · have g := ih X3 (a :: X2) (by simp at hj; exact hj) e2 (fun z => by
        rcases List.mem_cons.mp z with z | z
        · exact q z.symm
        · exact h14 z)
      rw [List.length_cons, show (((X2.length + 1 : Nat) : Int) + Y.length) = (X2.length : Int) + Y.length + 1 by omega] at g
      clear ih hQ h hx e e2 hj h14
      generalize (X2.length : Int) = L at *
      generalize (X.length : Int) = L2 at *
      generalize (Y.length : Int) = M at *
      refine G_ev ok_M_hasOpenSum (smE_ok (d := d - 1) (by omega)) (fun pc => pc == 2) 200 (by omega) (fun Kc kK => ?_)
      simp (disch := omega) only [ev_s, evN_ap, List.getElem?_cons_zero, List.getElem?_cons_succ, List.set_cons_zero, List.set_cons_succ, Bool.false_eq_true, ↓reduceIte, qrest_n, qrest_1, qrest_2, qrest_3, qrest_4, qrest_5, qrest_6, qtr_i, qtr_r, true_and, and_true, List.length_cons, List.length_nil, Int.cast_ofNat_Int, Int32.toInt_zero, false_implies, true_implies, not_false_eq_true, not_true_eq_false, Option.toList_some, Option.toList_none, List.cons_append, List.nil_append, Nat.reduceBEq, Nat.reduceEqDiff, Bool.or_self, or_self, Nat.reduceAdd, Nat.reduceLT, Nat.zero_add, Int.reduceAdd, Int.reduceLE, Int.reduceLT, Int.reduceEq, and_self, Int.reduceNeg, qrok_i, qrok_b0, qrok_b1, qrok_bI, Option.some.injEq, Value.int.injEq, J_bI0, J_bI1, Classical.not_not, Int.zero_add, Int.add_zero, Int.sub_zero, false_and, and_false, and_true, true_and, e_0, v_0, e_1, v_1, e_2, v_2, e_3, v_3, e_5, v_5, e_7, v_7, e_13, v_13, e_15, v_15, e_19, v_19, e_20, v_20, e_24, v_24, e_40, c_1, c_3, r_M_hasOpenSum_0, r_M_hasOpenSum_1, r_M_hasOpenSum_2, r_M_hasOpenSum_3, r_M_hasOpenSum_4, r_M_hasOpenSum_7, r_M_hasOpenSum_10, r_M_hasOpenSum_11, r_M_hasOpenSum_14, r_M_hasOpenSum_15, r_M_hasOpenSum_16, r_M_hasOpenSum_18, r_M_hasOpenSum_19, r_M_hasOpenSum_21, r_M_hasOpenSum_24, r_M_hasOpenSum_25, r_M_hasOpenSum_26, r_M_hasOpenSum_29, r_M_hasOpenSum_32, r_M_hasOpenSum_33, (shS_o hs), (shS_r_now hs), (shS_k_now hs), I_val, I_add, I_sub, I_mul, ShM_mk, hs, hM_j2, inB, beq_iff_eq, (shS_o hs), (shS_r_waitsAt hs), (shS_k_waitsAt hs), hM_jr, h13, va, I_div, e14]
      repeat' (first | with_reducible apply And.intro | intro _)
      all_goals try (clear kK; omega)
      all_goals first | omega | exact kK _ _ _ _ g
set_option maxHeartbeats 2000000 in
set_option maxRecDepth 100000 in
theorem T_M_hasOpenSum (hd : 7 ≤ d) (hs : ShMs s) {b : Int} {X : List Int} (h : LrS r n K U (wcX X Y) o) (hb : b = (Y.length : Int)) (hx : ∀ a ∈ X, 2 ≤ a ∧ a ≤ 14) : T l V mi_M_hasOpenSum (rm d) 0 0 [.ref 2198, .int (Int32.ofInt b)] (mkH s (jn c r)) (fun v h' => v = some (.int (bI (14 ∈ X))) ∧ h' = mkH s (jn c r)) := by
  refine T_ev qm_M_hasOpenSum [.ref 2198, .int (Int32.ofInt b), .retAddr 0] rfl rfl (Nat.le_of_ble_eq_true rfl) ok_M_hasOpenSum (smE_ok (d := d - 1) (by omega)) (fun pc => pc == 2) 200 (by omega) (fun Kc kK => ?_)
  have g := LM_ho (l := l) (V := V) (d := d) (c := c) (s := s) (x1 := .int (Int32.ofInt b)) (Q := fun v h' => v = some (.int (bI (14 ∈ X))) ∧ h' = mkH s (jn c r)) (by omega) hs h hx ⟨rfl, rfl⟩ X.length X [] rfl (by simp) (by simp)
  have e : ((([] : List Int).length : Int) + Y.length) = b := by rw [hb]; simp
  rw [e] at g
  simp (disch := omega) only [ev_s, evN_ap, List.getElem?_cons_zero, List.getElem?_cons_succ, List.set_cons_zero, List.set_cons_succ, Bool.false_eq_true, ↓reduceIte, qrest_n, qrest_1, qrest_2, qrest_3, qrest_4, qrest_5, qrest_6, qtr_i, qtr_r, true_and, and_true, List.length_cons, List.length_nil, Int.cast_ofNat_Int, Int32.toInt_zero, false_implies, true_implies, not_false_eq_true, not_true_eq_false, Option.toList_some, Option.toList_none, List.cons_append, List.nil_append, Nat.reduceBEq, Nat.reduceEqDiff, Bool.or_self, or_self, Nat.reduceAdd, Nat.reduceLT, Nat.zero_add, Int.reduceAdd, Int.reduceLE, Int.reduceLT, Int.reduceEq, and_self, Int.reduceNeg, qrok_i, qrok_b0, qrok_b1, qrok_bI, Option.some.injEq, Value.int.injEq, J_bI0, J_bI1, Classical.not_not, Int.zero_add, Int.add_zero, Int.sub_zero, false_and, and_false, and_true, true_and, e_0, v_0, e_1, v_1, e_2, v_2, e_3, v_3, e_5, v_5, e_7, v_7, e_13, v_13, e_15, v_15, e_19, v_19, e_20, v_20, e_24, v_24, e_40, c_1, c_3, r_M_hasOpenSum_0, r_M_hasOpenSum_1, r_M_hasOpenSum_2, r_M_hasOpenSum_3, r_M_hasOpenSum_4, r_M_hasOpenSum_7, r_M_hasOpenSum_10, r_M_hasOpenSum_11, r_M_hasOpenSum_14, r_M_hasOpenSum_15, r_M_hasOpenSum_16, r_M_hasOpenSum_18, r_M_hasOpenSum_19, r_M_hasOpenSum_21, r_M_hasOpenSum_24, r_M_hasOpenSum_25, r_M_hasOpenSum_26, r_M_hasOpenSum_29, r_M_hasOpenSum_32, r_M_hasOpenSum_33, (shS_o hs), (shS_r_now hs), (shS_k_now hs), I_val, I_add, I_sub, I_mul, ShM_mk, hs, hM_j2, inB, beq_iff_eq]
  exact kK _ _ _ _ g
set_option maxHeartbeats 2000000 in
set_option maxRecDepth 100000 in
theorem LM_nu (hd : 12 ≤ d) (hs : ShMs s) {st : Int} (hF0 : ∀ r' : qI, LrF r0 r' → fT r' = fT r0)
    (hN : ∀ r' p, LrF r0 r' → dgQ (sgF (fT r0) n p) → p = (nuF (fT r0) n 5 st 0).1 → r' 2198 9 = -2000 - p → Q (some (.int (Int32.ofInt 0))) (mkH s (jn c r')))
    (hY : ∀ r', LrF r0 r' → ¬ dgQ (sgF (fT r0) n (nuF (fT r0) n 5 st 0).1) → LrS r' n (atK K (nuF (fT r0) n 5 st 0).1) U W o → r' 2198 10 = (nuF (fT r0) n 5 st 0).2 → Q (some (.int (Int32.ofInt 1))) (mkH s (jn c r'))) : ∀ (j : Nat) (p a : Int) (r : qI), p = st + 5 - j → LrF r0 r → LrS r n (atK K p) U W o → r 2198 10 = a → nuF (fT r0) n 5 st 0 = nuF (fT r0) n j p a → (0 ≤ a ∧ a ≤ 99999) → (j = 5 → a = 0) → (j = 4 → a ≤ 9) → (j = 3 → a ≤ 99) → (j = 2 → a ≤ 999) → (j = 1 → a ≤ 9999) → (j ≤ 5 ∧ 0 ≤ st) →
    G l V mi_M_readsNumber (rm d) 0 0 Q 0 0 10 [.ref 2198, .int (Int32.ofInt st)] [] (mkH s (jn c r)) := by
  intro j
  induction j with
  | zero =>
    intro p a r hp hF h h10 hnu ha a0 a1 a2 a3 a4 hj
    have eT := hF0 r hF
    have e0 : nuF (fT r0) n 0 p a = (p, a) := rfl
    rw [e0] at hnu
    have bb := LrS_b h
    have hpn : 0 ≤ p ∧ p ≤ n := bb.1.1
    have h7 : r 2198 7 = p := (LrS_p h).1
    have hW := LrS_PN h
    have hW : PN r p n := hW
    have sr := sgF_rng (fT_rng (r := r)) (by omega) hpn.1 (n := n)
    rw [hnu] at hN hY
    refine G_ev ok_M_readsNumber (smE_ok (d := d - 1) (by omega)) (fun _ => false) 200 (by omega) (fun Kc kK => ?_)
    simp (disch := omega) only [ev_s, evN_ap, List.getElem?_cons_zero, List.getElem?_cons_succ, List.set_cons_zero, List.set_cons_succ, Bool.false_eq_true, ↓reduceIte, qrest_n, qrest_1, qrest_2, qrest_3, qrest_4, qrest_5, qrest_6, qtr_i, qtr_r, true_and, and_true, List.length_cons, List.length_nil, Int.cast_ofNat_Int, Int32.toInt_zero, false_implies, true_implies, not_false_eq_true, not_true_eq_false, Option.toList_some, Option.toList_none, List.cons_append, List.nil_append, Nat.reduceBEq, Nat.reduceEqDiff, Bool.or_self, or_self, Nat.reduceAdd, Nat.reduceLT, Nat.zero_add, Int.reduceAdd, Int.reduceLE, Int.reduceLT, Int.reduceEq, and_self, Int.reduceNeg, qrok_i, qrok_b0, qrok_b1, qrok_bI, Option.some.injEq, Value.int.injEq, J_bI0, J_bI1, Classical.not_not, Int.zero_add, Int.add_zero, Int.sub_zero, false_and, and_false, and_true, true_and, e_0, v_0, e_1, v_1, e_2, v_2, e_3, v_3, e_6, v_6, e_13, v_13, e_14, v_14, e_15, v_15, e_19, v_19, e_21, v_21, e_40, e_44, qspl_z, qspl_s, evC_s, evD_none, evD_v, evD_s, c_0, c_1, b_0, b_1, b_2, (smE_no (k := 196) rfl), (smE_no (k := 197) rfl), (smE_no (k := 198) rfl), r_M_readsNumber_0, r_M_readsNumber_1, r_M_readsNumber_4, r_M_readsNumber_5, r_M_readsNumber_6, r_M_readsNumber_7, r_M_readsNumber_10, r_M_readsNumber_11, r_M_readsNumber_14, r_M_readsNumber_17, r_M_readsNumber_18, r_M_readsNumber_21, r_M_readsNumber_22, r_M_readsNumber_23, r_M_readsNumber_24, r_M_readsNumber_27, r_M_readsNumber_28, r_M_readsNumber_29, r_M_readsNumber_30, r_M_readsNumber_33, r_M_readsNumber_36, r_M_readsNumber_37, r_M_readsNumber_38, r_M_readsNumber_40, r_M_readsNumber_41, r_M_readsNumber_44, r_M_readsNumber_45, r_M_readsNumber_46, r_M_readsNumber_49, r_M_readsNumber_50, r_M_readsNumber_52, r_M_readsNumber_53, r_M_readsNumber_56, r_M_readsNumber_57, r_M_readsNumber_58, r_M_readsNumber_61, r_M_readsNumber_62, r_M_readsNumber_63, r_M_readsNumber_66, r_M_readsNumber_69, r_M_readsNumber_70, (shS_o hs), (shS_r_now hs), (shS_k_now hs), I_val, I_add, I_sub, I_mul, ShM_mk, hs, hM_j2, inB, beq_iff_eq]
    refine kK _ _ _ _ (GCD ok_M_readsNumber r_M_readsNumber_11 ⟨by decide, by decide⟩ qm_M_isDigit (T_M_isDigit (d := d - 1) (by omega) hs hW) rfl rfl (fun _ => rcM hs) rfl (Nat.le_of_ble_eq_true rfl) (by omega) ?_)
    rw [eT]
    by_cases q : dgQ (sgF (fT r0) n p)
    · have g := hN (uA r 2198 (u1 (r 2198) 9 (-2000 - p))) p (LrF_tr hF (LrF_98 (fun k k1 k2 => u1_ne (by omega)))) q rfl (by rw [uA_same, u1_same])
      rw [bT q]
      clear hN hY
      refine G_ev ok_M_readsNumber (smE_ok (d := d - 1) (by omega)) (fun _ => false) 200 (by omega) (fun Kc kK => ?_)
      simp (disch := omega) only [ev_s, evN_ap, List.getElem?_cons_zero, List.getElem?_cons_succ, List.set_cons_zero, List.set_cons_succ, Bool.false_eq_true, ↓reduceIte, qrest_n, qrest_1, qrest_2, qrest_3, qrest_4, qrest_5, qrest_6, qtr_i, qtr_r, true_and, and_true, List.length_cons, List.length_nil, Int.cast_ofNat_Int, Int32.toInt_zero, false_implies, true_implies, not_false_eq_true, not_true_eq_false, Option.toList_some, Option.toList_none, List.cons_append, List.nil_append, Nat.reduceBEq, Nat.reduceEqDiff, Bool.or_self, or_self, Nat.reduceAdd, Nat.reduceLT, Nat.zero_add, Int.reduceAdd, Int.reduceLE, Int.reduceLT, Int.reduceEq, and_self, Int.reduceNeg, qrok_i, qrok_b0, qrok_b1, qrok_bI, Option.some.injEq, Value.int.injEq, J_bI0, J_bI1, Classical.not_not, Int.zero_add, Int.add_zero, Int.sub_zero, false_and, and_false, and_true, true_and, e_0, v_0, e_1, v_1, e_2, v_2, e_3, v_3, e_6, v_6, e_13, v_13, e_14, v_14, e_15, v_15, e_19, v_19, e_21, v_21, e_40, e_44, qspl_z, qspl_s, evC_s, evD_none, evD_v, evD_s, c_0, c_1, b_0, b_1, b_2, (smE_no (k := 196) rfl), (smE_no (k := 197) rfl), (smE_no (k := 198) rfl), r_M_readsNumber_0, r_M_readsNumber_1, r_M_readsNumber_4, r_M_readsNumber_5, r_M_readsNumber_6, r_M_readsNumber_7, r_M_readsNumber_10, r_M_readsNumber_11, r_M_readsNumber_14, r_M_readsNumber_17, r_M_readsNumber_18, r_M_readsNumber_21, r_M_readsNumber_22, r_M_readsNumber_23, r_M_readsNumber_24, r_M_readsNumber_27, r_M_readsNumber_28, r_M_readsNumber_29, r_M_readsNumber_30, r_M_readsNumber_33, r_M_readsNumber_36, r_M_readsNumber_37, r_M_readsNumber_38, r_M_readsNumber_40, r_M_readsNumber_41, r_M_readsNumber_44, r_M_readsNumber_45, r_M_readsNumber_46, r_M_readsNumber_49, r_M_readsNumber_50, r_M_readsNumber_52, r_M_readsNumber_53, r_M_readsNumber_56, r_M_readsNumber_57, r_M_readsNumber_58, r_M_readsNumber_61, r_M_readsNumber_62, r_M_readsNumber_63, r_M_readsNumber_66, r_M_readsNumber_69, r_M_readsNumber_70, (shS_o hs), (shS_r_now hs), (shS_k_now hs), I_val, I_add, I_sub, I_mul, ShM_mk, hs, hM_j2, inB, beq_iff_eq, hM_jr, h7]
      repeat' (first | with_reducible apply And.intro | intro _)
      all_goals try (clear kK; omega)
      all_goals try omega
      refine kK _ _ _ _ (GCD ok_M_readsNumber r_M_readsNumber_33 ⟨by decide, by decide⟩ qm_M_wrongAt (T_M_wrongAt (d := d - 1) (a := 2) (b := p) (by omega) hs (by omega) (by omega)) rfl rfl (fun _ => rcM hs) rfl (Nat.le_of_ble_eq_true rfl) (by omega) ?_)
      rw [show (-1000 * 2 - p : Int) = -2000 - p by omega]
      refine G_ev ok_M_readsNumber (smE_ok (d := d - 1) (by omega)) (fun _ => false) 200 (by omega) (fun Kc kK => ?_)
      simp (disch := omega) only [ev_s, evN_ap, List.getElem?_cons_zero, List.getElem?_cons_succ, List.set_cons_zero, List.set_cons_succ, Bool.false_eq_true, ↓reduceIte, qrest_n, qrest_1, qrest_2, qrest_3, qrest_4, qrest_5, qrest_6, qtr_i, qtr_r, true_and, and_true, List.length_cons, List.length_nil, Int.cast_ofNat_Int, Int32.toInt_zero, false_implies, true_implies, not_false_eq_true, not_true_eq_false, Option.toList_some, Option.toList_none, List.cons_append, List.nil_append, Nat.reduceBEq, Nat.reduceEqDiff, Bool.or_self, or_self, Nat.reduceAdd, Nat.reduceLT, Nat.zero_add, Int.reduceAdd, Int.reduceLE, Int.reduceLT, Int.reduceEq, and_self, Int.reduceNeg, qrok_i, qrok_b0, qrok_b1, qrok_bI, Option.some.injEq, Value.int.injEq, J_bI0, J_bI1, Classical.not_not, Int.zero_add, Int.add_zero, Int.sub_zero, false_and, and_false, and_true, true_and, e_0, v_0, e_1, v_1, e_2, v_2, e_3, v_3, e_6, v_6, e_13, v_13, e_14, v_14, e_15, v_15, e_19, v_19, e_21, v_21, e_40, e_44, qspl_z, qspl_s, evC_s, evD_none, evD_v, evD_s, c_0, c_1, b_0, b_1, b_2, (smE_no (k := 196) rfl), (smE_no (k := 197) rfl), (smE_no (k := 198) rfl), r_M_readsNumber_0, r_M_readsNumber_1, r_M_readsNumber_4, r_M_readsNumber_5, r_M_readsNumber_6, r_M_readsNumber_7, r_M_readsNumber_10, r_M_readsNumber_11, r_M_readsNumber_14, r_M_readsNumber_17, r_M_readsNumber_18, r_M_readsNumber_21, r_M_readsNumber_22, r_M_readsNumber_23, r_M_readsNumber_24, r_M_readsNumber_27, r_M_readsNumber_28, r_M_readsNumber_29, r_M_readsNumber_30, r_M_readsNumber_33, r_M_readsNumber_36, r_M_readsNumber_37, r_M_readsNumber_38, r_M_readsNumber_40, r_M_readsNumber_41, r_M_readsNumber_44, r_M_readsNumber_45, r_M_readsNumber_46, r_M_readsNumber_49, r_M_readsNumber_50, r_M_readsNumber_52, r_M_readsNumber_53, r_M_readsNumber_56, r_M_readsNumber_57, r_M_readsNumber_58, r_M_readsNumber_61, r_M_readsNumber_62, r_M_readsNumber_63, r_M_readsNumber_66, r_M_readsNumber_69, r_M_readsNumber_70, (shS_o hs), (shS_r_now hs), (shS_k_now hs), I_val, I_add, I_sub, I_mul, ShM_mk, hs, hM_j2, inB, beq_iff_eq]
      exact g
    · have g := hY r hF q h h10
      rw [bF q]
      clear hN hY
      refine G_ev ok_M_readsNumber (smE_ok (d := d - 1) (by omega)) (fun _ => false) 200 (by omega) (fun Kc kK => ?_)
      simp (disch := omega) only [ev_s, evN_ap, List.getElem?_cons_zero, List.getElem?_cons_succ, List.set_cons_zero, List.set_cons_succ, Bool.false_eq_true, ↓reduceIte, qrest_n, qrest_1, qrest_2, qrest_3, qrest_4, qrest_5, qrest_6, qtr_i, qtr_r, true_and, and_true, List.length_cons, List.length_nil, Int.cast_ofNat_Int, Int32.toInt_zero, false_implies, true_implies, not_false_eq_true, not_true_eq_false, Option.toList_some, Option.toList_none, List.cons_append, List.nil_append, Nat.reduceBEq, Nat.reduceEqDiff, Bool.or_self, or_self, Nat.reduceAdd, Nat.reduceLT, Nat.zero_add, Int.reduceAdd, Int.reduceLE, Int.reduceLT, Int.reduceEq, and_self, Int.reduceNeg, qrok_i, qrok_b0, qrok_b1, qrok_bI, Option.some.injEq, Value.int.injEq, J_bI0, J_bI1, Classical.not_not, Int.zero_add, Int.add_zero, Int.sub_zero, false_and, and_false, and_true, true_and, e_0, v_0, e_1, v_1, e_2, v_2, e_3, v_3, e_6, v_6, e_13, v_13, e_14, v_14, e_15, v_15, e_19, v_19, e_21, v_21, e_40, e_44, qspl_z, qspl_s, evC_s, evD_none, evD_v, evD_s, c_0, c_1, b_0, b_1, b_2, (smE_no (k := 196) rfl), (smE_no (k := 197) rfl), (smE_no (k := 198) rfl), r_M_readsNumber_0, r_M_readsNumber_1, r_M_readsNumber_4, r_M_readsNumber_5, r_M_readsNumber_6, r_M_readsNumber_7, r_M_readsNumber_10, r_M_readsNumber_11, r_M_readsNumber_14, r_M_readsNumber_17, r_M_readsNumber_18, r_M_readsNumber_21, r_M_readsNumber_22, r_M_readsNumber_23, r_M_readsNumber_24, r_M_readsNumber_27, r_M_readsNumber_28, r_M_readsNumber_29, r_M_readsNumber_30, r_M_readsNumber_33, r_M_readsNumber_36, r_M_readsNumber_37, r_M_readsNumber_38, r_M_readsNumber_40, r_M_readsNumber_41, r_M_readsNumber_44, r_M_readsNumber_45, r_M_readsNumber_46, r_M_readsNumber_49, r_M_readsNumber_50, r_M_readsNumber_52, r_M_readsNumber_53, r_M_readsNumber_56, r_M_readsNumber_57, r_M_readsNumber_58, r_M_readsNumber_61, r_M_readsNumber_62, r_M_readsNumber_63, r_M_readsNumber_66, r_M_readsNumber_69, r_M_readsNumber_70, (shS_o hs), (shS_r_now hs), (shS_k_now hs), I_val, I_add, I_sub, I_mul, ShM_mk, hs, hM_j2, inB, beq_iff_eq]
      exact g
  | succ j ih =>
    intro p a r hp hF h h10 hnu ha a0 a1 a2 a3 a4 hj
    have eT := hF0 r hF
    have e0 : nuF (fT r0) n (j + 1) p a = if dgQ (sgF (fT r0) n p) then nuF (fT r0) n j (p + 1) (a * 10 + sgF (fT r0) n p - 48) else (p, a) := rfl
    rw [e0] at hnu
    have bb := LrS_b h
    have hpn : 0 ≤ p ∧ p ≤ n := bb.1.1
    have h7 : r 2198 7 = p := (LrS_p h).1
    have hW := LrS_PN h
    have hW : PN r p n := hW
    have sr := sgF_rng (fT_rng (r := r)) (by omega) hpn.1 (n := n)
    refine G_ev ok_M_readsNumber (smE_ok (d := d - 1) (by omega)) (fun _ => false) 200 (by omega) (fun Kc kK => ?_)
    simp (disch := omega) only [ev_s, evN_ap, List.getElem?_cons_zero, List.getElem?_cons_succ, List.set_cons_zero, List.set_cons_succ, Bool.false_eq_true, ↓reduceIte, qrest_n, qrest_1, qrest_2, qrest_3, qrest_4, qrest_5, qrest_6, qtr_i, qtr_r, true_and, and_true, List.length_cons, List.length_nil, Int.cast_ofNat_Int, Int32.toInt_zero, false_implies, true_implies, not_false_eq_true, not_true_eq_false, Option.toList_some, Option.toList_none, List.cons_append, List.nil_append, Nat.reduceBEq, Nat.reduceEqDiff, Bool.or_self, or_self, Nat.reduceAdd, Nat.reduceLT, Nat.zero_add, Int.reduceAdd, Int.reduceLE, Int.reduceLT, Int.reduceEq, and_self, Int.reduceNeg, qrok_i, qrok_b0, qrok_b1, qrok_bI, Option.some.injEq, Value.int.injEq, J_bI0, J_bI1, Classical.not_not, Int.zero_add, Int.add_zero, Int.sub_zero, false_and, and_false, and_true, true_and, e_0, v_0, e_1, v_1, e_2, v_2, e_3, v_3, e_6, v_6, e_13, v_13, e_14, v_14, e_15, v_15, e_19, v_19, e_21, v_21, e_40, e_44, qspl_z, qspl_s, evC_s, evD_none, evD_v, evD_s, c_0, c_1, b_0, b_1, b_2, (smE_no (k := 196) rfl), (smE_no (k := 197) rfl), (smE_no (k := 198) rfl), r_M_readsNumber_0, r_M_readsNumber_1, r_M_readsNumber_4, r_M_readsNumber_5, r_M_readsNumber_6, r_M_readsNumber_7, r_M_readsNumber_10, r_M_readsNumber_11, r_M_readsNumber_14, r_M_readsNumber_17, r_M_readsNumber_18, r_M_readsNumber_21, r_M_readsNumber_22, r_M_readsNumber_23, r_M_readsNumber_24, r_M_readsNumber_27, r_M_readsNumber_28, r_M_readsNumber_29, r_M_readsNumber_30, r_M_readsNumber_33, r_M_readsNumber_36, r_M_readsNumber_37, r_M_readsNumber_38, r_M_readsNumber_40, r_M_readsNumber_41, r_M_readsNumber_44, r_M_readsNumber_45, r_M_readsNumber_46, r_M_readsNumber_49, r_M_readsNumber_50, r_M_readsNumber_52, r_M_readsNumber_53, r_M_readsNumber_56, r_M_readsNumber_57, r_M_readsNumber_58, r_M_readsNumber_61, r_M_readsNumber_62, r_M_readsNumber_63, r_M_readsNumber_66, r_M_readsNumber_69, r_M_readsNumber_70, (shS_o hs), (shS_r_now hs), (shS_k_now hs), I_val, I_add, I_sub, I_mul, ShM_mk, hs, hM_j2, inB, beq_iff_eq]
    refine kK _ _ _ _ (GCD ok_M_readsNumber r_M_readsNumber_11 ⟨by decide, by decide⟩ qm_M_isDigit (T_M_isDigit (d := d - 1) (by omega) hs hW) rfl rfl (fun _ => rcM hs) rfl (Nat.le_of_ble_eq_true rfl) (by omega) ?_)
    rw [eT]
    by_cases q : dgQ (sgF (fT r0) n p)
    · rw [if_pos q] at hnu
      have q' := q
      unfold dgQ at q'
      have pl : p < n := sg_lt (f := fT r0) (by omega)
      rw [eT] at sr
      have l2 : LrS (uA r 2198 (u1 (u1 (r 2198) 10 (a * 10 + sgF (fT r0) n p - 48)) 7 (p + 1))) n (atK K (p + 1)) U W o :=
        LrS_X (K := atK K p) (p' := p + 1) (W' := W) (o' := o) h u1_same (by rw [u1_ne (by omega), u1_ne (by omega)]; exact (LrS_p h).2.2.1) (by rw [u1_ne (by omega), u1_ne (by omega)]; exact (LrS_p h).2.2.2.1) (fun k k1 k2 k3 k4 k5 => by rw [u1_ne k1, u1_ne k3]) (Or.inl rfl) ⟨by omega, by have := bb.1.2.2.2; show K.2.1 ≤ _; have e2 : (atK K p).2.1 = K.2.1 := rfl; have e3 : (atK K p).1 = p := rfl; omega, by have := bb.2.1.2; have e3 : (atK K p).1 = p := rfl; omega⟩ bb.2.2.1
      have g := ih (p + 1) (a * 10 + sgF (fT r0) n p - 48) (uA r 2198 (u1 (u1 (r 2198) 10 (a * 10 + sgF (fT r0) n p - 48)) 7 (p + 1))) (by omega) (LrF_tr hF (LrF_98 (fun k k1 k2 => by rw [u1_ne k1, u1_ne (by omega)]))) l2 (by rw [uA_same, u1_ne (by omega), u1_same]) hnu (by omega) (by omega) (by omega) (by omega) (by omega) (by omega) (by omega)
      have e10 : (10 * a : Int) = a * 10 := Int.mul_comm _ _
      rw [bT q]
      clear ih hN hY
      refine G_ev ok_M_readsNumber (smE_ok (d := d - 1) (by omega)) (fun pc => pc == 10) 200 (by omega) (fun Kc kK => ?_)
      simp (disch := omega) only [ev_s, evN_ap, List.getElem?_cons_zero, List.getElem?_cons_succ, List.set_cons_zero, List.set_cons_succ, Bool.false_eq_true, ↓reduceIte, qrest_n, qrest_1, qrest_2, qrest_3, qrest_4, qrest_5, qrest_6, qtr_i, qtr_r, true_and, and_true, List.length_cons, List.length_nil, Int.cast_ofNat_Int, Int32.toInt_zero, false_implies, true_implies, not_false_eq_true, not_true_eq_false, Option.toList_some, Option.toList_none, List.cons_append, List.nil_append, Nat.reduceBEq, Nat.reduceEqDiff, Bool.or_self, or_self, Nat.reduceAdd, Nat.reduceLT, Nat.zero_add, Int.reduceAdd, Int.reduceLE, Int.reduceLT, Int.reduceEq, and_self, Int.reduceNeg, qrok_i, qrok_b0, qrok_b1, qrok_bI, Option.some.injEq, Value.int.injEq, J_bI0, J_bI1, Classical.not_not, Int.zero_add, Int.add_zero, Int.sub_zero, false_and, and_false, and_true, true_and, e_0, v_0, e_1, v_1, e_2, v_2, e_3, v_3, e_6, v_6, e_13, v_13, e_14, v_14, e_15, v_15, e_19, v_19, e_21, v_21, e_40, e_44, qspl_z, qspl_s, evC_s, evD_none, evD_v, evD_s, c_0, c_1, b_0, b_1, b_2, (smE_no (k := 196) rfl), (smE_no (k := 197) rfl), (smE_no (k := 198) rfl), r_M_readsNumber_0, r_M_readsNumber_1, r_M_readsNumber_4, r_M_readsNumber_5, r_M_readsNumber_6, r_M_readsNumber_7, r_M_readsNumber_10, r_M_readsNumber_11, r_M_readsNumber_14, r_M_readsNumber_17, r_M_readsNumber_18, r_M_readsNumber_21, r_M_readsNumber_22, r_M_readsNumber_23, r_M_readsNumber_24, r_M_readsNumber_27, r_M_readsNumber_28, r_M_readsNumber_29, r_M_readsNumber_30, r_M_readsNumber_33, r_M_readsNumber_36, r_M_readsNumber_37, r_M_readsNumber_38, r_M_readsNumber_40, r_M_readsNumber_41, r_M_readsNumber_44, r_M_readsNumber_45, r_M_readsNumber_46, r_M_readsNumber_49, r_M_readsNumber_50, r_M_readsNumber_52, r_M_readsNumber_53, r_M_readsNumber_56, r_M_readsNumber_57, r_M_readsNumber_58, r_M_readsNumber_61, r_M_readsNumber_62, r_M_readsNumber_63, r_M_readsNumber_66, r_M_readsNumber_69, r_M_readsNumber_70, (shS_o hs), (shS_r_now hs), (shS_k_now hs), I_val, I_add, I_sub, I_mul, ShM_mk, hs, hM_j2, inB, beq_iff_eq, hM_jr, h7, h10]
      repeat' (first | with_reducible apply And.intro | intro _)
      all_goals try (clear kK; omega)
      all_goals try omega
      refine kK _ _ _ _ (GCD ok_M_readsNumber r_M_readsNumber_46 ⟨by decide, by decide⟩ qm_M_here (T_M_here (d := d - 1) (by omega) hs hW) rfl rfl (fun _ => rcM hs) rfl (Nat.le_of_ble_eq_true rfl) (by omega) ?_)
      rw [eT]
      refine G_ev ok_M_readsNumber (smE_ok (d := d - 1) (by omega)) (fun pc => pc == 10) 200 (by omega) (fun Kc kK => ?_)
      simp (disch := omega) only [ev_s, evN_ap, List.getElem?_cons_zero, List.getElem?_cons_succ, List.set_cons_zero, List.set_cons_succ, Bool.false_eq_true, ↓reduceIte, qrest_n, qrest_1, qrest_2, qrest_3, qrest_4, qrest_5, qrest_6, qtr_i, qtr_r, true_and, and_true, List.length_cons, List.length_nil, Int.cast_ofNat_Int, Int32.toInt_zero, false_implies, true_implies, not_false_eq_true, not_true_eq_false, Option.toList_some, Option.toList_none, List.cons_append, List.nil_append, Nat.reduceBEq, Nat.reduceEqDiff, Bool.or_self, or_self, Nat.reduceAdd, Nat.reduceLT, Nat.zero_add, Int.reduceAdd, Int.reduceLE, Int.reduceLT, Int.reduceEq, and_self, Int.reduceNeg, qrok_i, qrok_b0, qrok_b1, qrok_bI, Option.some.injEq, Value.int.injEq, J_bI0, J_bI1, Classical.not_not, Int.zero_add, Int.add_zero, Int.sub_zero, false_and, and_false, and_true, true_and, e_0, v_0, e_1, v_1, e_2, v_2, e_3, v_3, e_6, v_6, e_13, v_13, e_14, v_14, e_15, v_15, e_19, v_19, e_21, v_21, e_40, e_44, qspl_z, qspl_s, evC_s, evD_none, evD_v, evD_s, c_0, c_1, b_0, b_1, b_2, (smE_no (k := 196) rfl), (smE_no (k := 197) rfl), (smE_no (k := 198) rfl), r_M_readsNumber_0, r_M_readsNumber_1, r_M_readsNumber_4, r_M_readsNumber_5, r_M_readsNumber_6, r_M_readsNumber_7, r_M_readsNumber_10, r_M_readsNumber_11, r_M_readsNumber_14, r_M_readsNumber_17, r_M_readsNumber_18, r_M_readsNumber_21, r_M_readsNumber_22, r_M_readsNumber_23, r_M_readsNumber_24, r_M_readsNumber_27, r_M_readsNumber_28, r_M_readsNumber_29, r_M_readsNumber_30, r_M_readsNumber_33, r_M_readsNumber_36, r_M_readsNumber_37, r_M_readsNumber_38, r_M_readsNumber_40, r_M_readsNumber_41, r_M_readsNumber_44, r_M_readsNumber_45, r_M_readsNumber_46, r_M_readsNumber_49, r_M_readsNumber_50, r_M_readsNumber_52, r_M_readsNumber_53, r_M_readsNumber_56, r_M_readsNumber_57, r_M_readsNumber_58, r_M_readsNumber_61, r_M_readsNumber_62, r_M_readsNumber_63, r_M_readsNumber_66, r_M_readsNumber_69, r_M_readsNumber_70, (shS_o hs), (shS_r_now hs), (shS_k_now hs), I_val, I_add, I_sub, I_mul, ShM_mk, hs, hM_j2, inB, beq_iff_eq, hM_jr, set_jA, uA_uA, uA_same, u1_ne, h7, h10, e10]
      repeat' (first | with_reducible apply And.intro | intro _)
      all_goals try (clear kK; omega)
      all_goals first | omega | exact kK _ _ _ _ g
    · rw [if_neg q] at hnu
      have q2 : ¬ dgQ (sgF (fT r0) n (nuF (fT r0) n 5 st 0).1) := by rw [hnu]; exact q
      rw [hnu] at hY
      have g := hY r hF q h h10
      rw [bF q]
      clear ih hN hY
      refine G_ev ok_M_readsNumber (smE_ok (d := d - 1) (by omega)) (fun _ => false) 200 (by omega) (fun Kc kK => ?_)
      simp (disch := omega) only [ev_s, evN_ap, List.getElem?_cons_zero, List.getElem?_cons_succ, List.set_cons_zero, List.set_cons_succ, Bool.false_eq_true, ↓reduceIte, qrest_n, qrest_1, qrest_2, qrest_3, qrest_4, qrest_5, qrest_6, qtr_i, qtr_r, true_and, and_true, List.length_cons, List.length_nil, Int.cast_ofNat_Int, Int32.toInt_zero, false_implies, true_implies, not_false_eq_true, not_true_eq_false, Option.toList_some, Option.toList_none, List.cons_append, List.nil_append, Nat.reduceBEq, Nat.reduceEqDiff, Bool.or_self, or_self, Nat.reduceAdd, Nat.reduceLT, Nat.zero_add, Int.reduceAdd, Int.reduceLE, Int.reduceLT, Int.reduceEq, and_self, Int.reduceNeg, qrok_i, qrok_b0, qrok_b1, qrok_bI, Option.some.injEq, Value.int.injEq, J_bI0, J_bI1, Classical.not_not, Int.zero_add, Int.add_zero, Int.sub_zero, false_and, and_false, and_true, true_and, e_0, v_0, e_1, v_1, e_2, v_2, e_3, v_3, e_6, v_6, e_13, v_13, e_14, v_14, e_15, v_15, e_19, v_19, e_21, v_21, e_40, e_44, qspl_z, qspl_s, evC_s, evD_none, evD_v, evD_s, c_0, c_1, b_0, b_1, b_2, (smE_no (k := 196) rfl), (smE_no (k := 197) rfl), (smE_no (k := 198) rfl), r_M_readsNumber_0, r_M_readsNumber_1, r_M_readsNumber_4, r_M_readsNumber_5, r_M_readsNumber_6, r_M_readsNumber_7, r_M_readsNumber_10, r_M_readsNumber_11, r_M_readsNumber_14, r_M_readsNumber_17, r_M_readsNumber_18, r_M_readsNumber_21, r_M_readsNumber_22, r_M_readsNumber_23, r_M_readsNumber_24, r_M_readsNumber_27, r_M_readsNumber_28, r_M_readsNumber_29, r_M_readsNumber_30, r_M_readsNumber_33, r_M_readsNumber_36, r_M_readsNumber_37, r_M_readsNumber_38, r_M_readsNumber_40, r_M_readsNumber_41, r_M_readsNumber_44, r_M_readsNumber_45, r_M_readsNumber_46, r_M_readsNumber_49, r_M_readsNumber_50, r_M_readsNumber_52, r_M_readsNumber_53, r_M_readsNumber_56, r_M_readsNumber_57, r_M_readsNumber_58, r_M_readsNumber_61, r_M_readsNumber_62, r_M_readsNumber_63, r_M_readsNumber_66, r_M_readsNumber_69, r_M_readsNumber_70, (shS_o hs), (shS_r_now hs), (shS_k_now hs), I_val, I_add, I_sub, I_mul, ShM_mk, hs, hM_j2, inB, beq_iff_eq]
      exact g
set_option maxHeartbeats 2000000 in
set_option maxRecDepth 100000 in
theorem T_M_readsNumber (hd : 13 ≤ d) (hs : ShMs s) (h : LrS r n K U W o) : T l V mi_M_readsNumber (rm d) 0 0 [.ref 2198] (mkH s (jn c r)) (fun v h' => (dgQ (sgF (fT r) n (nuF (fT r) n 5 K.1 0).1) → v = some (.int (Int32.ofInt 0)) ∧ ∃ r', h' = mkH s (jn c r') ∧ LrF r r' ∧ r' 2198 9 = -2000 - (nuF (fT r) n 5 K.1 0).1) ∧ (¬ dgQ (sgF (fT r) n (nuF (fT r) n 5 K.1 0).1) → v = some (.int (Int32.ofInt 1)) ∧ ∃ r', h' = mkH s (jn c r') ∧ LrF r r' ∧ LrS r' n (atK K (nuF (fT r) n 5 K.1 0).1) U W o ∧ r' 2198 10 = (nuF (fT r) n 5 K.1 0).2)) := by
  refine T_ev qm_M_readsNumber [.ref 2198, .retAddr 0] rfl rfl (Nat.le_of_ble_eq_true rfl) ok_M_readsNumber (smE_ok (d := d - 1) (by omega)) (fun pc => pc == 10) 200 (by omega) (fun Kc kK => ?_)
  have bb := LrS_b h
  have h7 := (LrS_p h).1
  have l2 : LrS (uA r 2198 (u1 (r 2198) 10 0)) n (atK K K.1) U W o :=
    LrS_X (p' := K.1) (W' := W) (o' := o) h (by rw [u1_ne (by omega)]; exact h7) (by rw [u1_ne (by omega)]; exact (LrS_p h).2.2.1) (by rw [u1_ne (by omega)]; exact (LrS_p h).2.2.2.1) (fun k k1 k2 k3 k4 k5 => u1_ne k3) (Or.inl rfl) ⟨bb.1.1, bb.1.2.2.2, bb.2.1.2⟩ bb.2.2.1
  have g := LM_nu (l := l) (V := V) (d := d) (c := c) (s := s) (r0 := r) (n := n) (K := K) (U := U) (W := W) (o := o) (st := K.1) (Q := fun v h' => (dgQ (sgF (fT r) n (nuF (fT r) n 5 K.1 0).1) → v = some (.int (Int32.ofInt 0)) ∧ ∃ r', h' = mkH s (jn c r') ∧ LrF r r' ∧ r' 2198 9 = -2000 - (nuF (fT r) n 5 K.1 0).1) ∧ (¬ dgQ (sgF (fT r) n (nuF (fT r) n 5 K.1 0).1) → v = some (.int (Int32.ofInt 1)) ∧ ∃ r', h' = mkH s (jn c r') ∧ LrF r r' ∧ LrS r' n (atK K (nuF (fT r) n 5 K.1 0).1) U W o ∧ r' 2198 10 = (nuF (fT r) n 5 K.1 0).2)) (by omega) hs (fun r' h => LrF_fT h) (fun r' p f q e k => ⟨fun _ => ⟨rfl, r', rfl, f, by rw [← e]; exact k⟩, fun z => absurd (by rw [← e]; exact q) z⟩) (fun r' f q k1 k2 => ⟨fun z => absurd z q, fun _ => ⟨rfl, r', rfl, f, k1, k2⟩⟩) 5 K.1 0 (uA r 2198 (u1 (r 2198) 10 0)) (by omega) (LrF_98 (fun k k1 k2 => u1_ne (by omega))) l2 (by rw [uA_same, u1_same]) rfl (by omega) (by omega) (by omega) (by omega) (by omega) (by omega) (by omega)
  simp (disch := omega) only [ev_s, evN_ap, List.getElem?_cons_zero, List.getElem?_cons_succ, List.set_cons_zero, List.set_cons_succ, Bool.false_eq_true, ↓reduceIte, qrest_n, qrest_1, qrest_2, qrest_3, qrest_4, qrest_5, qrest_6, qtr_i, qtr_r, true_and, and_true, List.length_cons, List.length_nil, Int.cast_ofNat_Int, Int32.toInt_zero, false_implies, true_implies, not_false_eq_true, not_true_eq_false, Option.toList_some, Option.toList_none, List.cons_append, List.nil_append, Nat.reduceBEq, Nat.reduceEqDiff, Bool.or_self, or_self, Nat.reduceAdd, Nat.reduceLT, Nat.zero_add, Int.reduceAdd, Int.reduceLE, Int.reduceLT, Int.reduceEq, and_self, Int.reduceNeg, qrok_i, qrok_b0, qrok_b1, qrok_bI, Option.some.injEq, Value.int.injEq, J_bI0, J_bI1, Classical.not_not, Int.zero_add, Int.add_zero, Int.sub_zero, false_and, and_false, and_true, true_and, e_0, v_0, e_1, v_1, e_2, v_2, e_3, v_3, e_6, v_6, e_13, v_13, e_14, v_14, e_15, v_15, e_19, v_19, e_21, v_21, e_40, e_44, qspl_z, qspl_s, evC_s, evD_none, evD_v, evD_s, c_0, c_1, b_0, b_1, b_2, (smE_no (k := 196) rfl), (smE_no (k := 197) rfl), (smE_no (k := 198) rfl), r_M_readsNumber_0, r_M_readsNumber_1, r_M_readsNumber_4, r_M_readsNumber_5, r_M_readsNumber_6, r_M_readsNumber_7, r_M_readsNumber_10, r_M_readsNumber_11, r_M_readsNumber_14, r_M_readsNumber_17, r_M_readsNumber_18, r_M_readsNumber_21, r_M_readsNumber_22, r_M_readsNumber_23, r_M_readsNumber_24, r_M_readsNumber_27, r_M_readsNumber_28, r_M_readsNumber_29, r_M_readsNumber_30, r_M_readsNumber_33, r_M_readsNumber_36, r_M_readsNumber_37, r_M_readsNumber_38, r_M_readsNumber_40, r_M_readsNumber_41, r_M_readsNumber_44, r_M_readsNumber_45, r_M_readsNumber_46, r_M_readsNumber_49, r_M_readsNumber_50, r_M_readsNumber_52, r_M_readsNumber_53, r_M_readsNumber_56, r_M_readsNumber_57, r_M_readsNumber_58, r_M_readsNumber_61, r_M_readsNumber_62, r_M_readsNumber_63, r_M_readsNumber_66, r_M_readsNumber_69, r_M_readsNumber_70, (shS_o hs), (shS_r_now hs), (shS_k_now hs), I_val, I_add, I_sub, I_mul, ShM_mk, hs, hM_j2, inB, beq_iff_eq, hM_jr, set_jA, h7]
  exact kK _ _ _ _ g
end MS
