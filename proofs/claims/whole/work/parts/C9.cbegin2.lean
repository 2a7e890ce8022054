/-! the class's world begins -/
def wbC (c : qI) (w : Nat) : qI := up (up (up (fl (fl (up (up (fl (up (up c w 3 0) w 6 0) (w + 8) 0 1000) w 8 0) w 9 0) (w + 9) 0 1000) (w + 10) 0 7) w 12 0) w 14 0) w 15 0
def nbI (w : Nat) (v : Int) : Nat → Int → qI → qI
  | 0, _, c => c
  | j + 1, n, c => nbI w v j (n + 1) (nbC c w n v)
def tgF (t : Int → Int) : Nat → Int → qN → qN
  | 0, _, S => S
  | j + 1, n, S => tgF t j (n + 1) (u1 S (244 * n + 10) (t n))
def TE (k : Int) (X Y : qN) : Prop := ∀ j, (∀ m, k ≤ m → m ≤ 6 → j ≠ 244 * m + 10) → X j = Y j
theorem hcF_0 {S : qN} : ∀ j : Nat, (∀ i : Int, 0 ≤ i → i < j → S (6028 + 4 * i) = 0) → hcF S j = 0
  | 0, _ => rfl
  | j + 1, h => by
    unfold hcF
    rw [hcF_0 j (fun i a b => h i a (by omega)), h j (by omega) (by omega)]
    rfl
theorem hcnt_0 {S : qN} (h : ∀ i : Int, 0 ≤ i → i < 1000 → S (6028 + 4 * i) = 0) : hcnt S = 0 := hcF_0 1000 (fun i a b => h i a (by omega))
section Wb
variable {c c' : qI} {w : Nat} {v n k R x : Int} {S X Y : qN} {t : Int → Int} {L : qL}
theorem tg_o {i : Int} : ∀ (j : Nat) (n : Int) (S : qN), (∀ m, n ≤ m → m < n + j → i ≠ 244 * m + 10) → tgF t j n S i = S i
  | 0, _, _, _ => rfl
  | j + 1, n, S, h => by
    rw [tgF, tg_o j (n + 1) _ (fun m m1 m2 => h m (by omega) (by omega)), u1_ne (h n (by omega) (by omega))]
theorem tg_10 {m : Int} : ∀ (j : Nat) (n : Int) (S : qN), n ≤ m → m < n + j → tgF t j n S (244 * m + 10) = t m
  | 0, n, _, h1, h2 => by omega
  | j + 1, n, S, h1, h2 => by
    rw [tgF]
    by_cases q : m = n
    · subst q
      rw [tg_o j (m + 1) _ (fun m' m1 m2 => by omega)]
      exact u1_same
    · exact tg_10 j (n + 1) _ (by omega) (by omega)
theorem OK_tg (ht : ∀ m, 0 ≤ m → m ≤ 6 → 0 ≤ t m ∧ t m ≤ 49) : ∀ (j : Nat) (n : Int) (S : qN), 0 ≤ n → n + j ≤ 7 → OK R S → OK R (tgF t j n S)
  | 0, _, _, _, _, h => h
  | j + 1, n, S, h0, h1, h => by
    rw [tgF]
    have := ht n (by omega) (by omega)
    exact OK_tg ht j (n + 1) _ (by omega) (by omega) (OK_u1n h (by omega) (by omega) (by omega) (NOK_10 (OK_n h (by omega)) (by omega)))
theorem TE_tm (h : TE n X Y) (hn : 0 ≤ n ∧ n ≤ 6) : TE (n + 1) (tmS L X n) (tmS L Y n) := by
  have e1 : X 11132 = Y 11132 := h _ (fun m a b => by omega)
  have e2 : X 11133 = Y 11133 := h _ (fun m a b => by omega)
  have e3 : X 11131 = Y 11131 := h _ (fun m a b => by omega)
  have e4 : nd X n 1 = nd Y n 1 := h _ (fun m a b => by omega)
  have er : rndS X = rndS Y := by unfold rndS; rw [e1]
  have ef : fcS X n n 6 = fcS Y n n 6 := by unfold fcS fclS; rw [e2, e3, e4, er]
  intro j hj
  unfold tmS rnS
  rw [er, ef]
  by_cases q : j = 244 * n + 10
  · subst q; rw [u1_same, u1_same]
  · rw [u1_ne q, u1_ne q]
    by_cases q2 : j = 11132
    · subst q2; rw [u1_same, u1_same]
    · rw [u1_ne q2, u1_ne q2]
      refine h j (fun m a b => ?_)
      by_cases q3 : m = n
      · subst q3; exact q
      · exact hj m (by omega) b
theorem TE_tf : ∀ (j : Nat) (n : Int) (X Y : qN), n + j = 7 → 0 ≤ n → TE n X Y → tfF L j n X = tfF L j n Y
  | 0, n, X, Y, hj, _, h => by funext i; exact h i (fun m a b => by omega)
  | j + 1, n, X, Y, hj, h0, h => by
    rw [tfF, tfF]
    exact TE_tf j (n + 1) _ _ (by omega) (by omega) (TE_tm h (by omega))
theorem nbC_c {p : Nat} (hp : p < 8) (h : ∀ p k, p < 8 → c (ndA w n p) k = c' (ndA w n p) k) : nbC c w n v (ndA w n p) k = nbC c' w n v (ndA w n p) k := by
  have hp8 : p = 0 ∨ p = 1 ∨ p = 2 ∨ p = 3 ∨ p = 4 ∨ p = 5 ∨ p = 6 ∨ p = 7 := by omega
  have h0 := fun k => h 0 k (by omega)
  have h1 := fun k => h 1 k (by omega)
  have h2 := fun k => h 2 k (by omega)
  have h3 := fun k => h 3 k (by omega)
  have h4 := fun k => h 4 k (by omega)
  have h5 := fun k => h 5 k (by omega)
  have h6 := fun k => h 6 k (by omega)
  have h7 := fun k => h 7 k (by omega)
  rcases hp8 with rfl | rfl | rfl | rfl | rfl | rfl | rfl | rfl <;> simp [nbC, rsC, sbC, fl, up, cp, ndA_eq, h0, h1, h2, h3, h4, h5, h6, h7]
theorem nbI_o {b : Nat} : ∀ (j : Nat) (n : Int) (c : qI), (∀ m p, n ≤ m → m < n + j → p < 8 → b ≠ ndA w m p) → nbI w v j n c b k = c b k
  | 0, _, _, _ => rfl
  | j + 1, n, c, h => by
    rw [nbI, nbI_o j (n + 1) _ (fun m p a b q => h m p (by omega) (by omega) q), nb_o (fun p q => h n p (by omega) (by omega) q)]
theorem nbI_N {p : Nat} {m : Int} (hp : p < 8) : ∀ (j : Nat) (n : Int) (c : qI), 0 ≤ n → n ≤ m → m < n + j → nbI w v j n c (ndA w m p) k = nbC c w m v (ndA w m p) k
  | 0, n, _, _, h1, h2 => by omega
  | j + 1, n, c, h0, h1, h2 => by
    rw [nbI]
    by_cases q : m = n
    · subst q
      rw [nbI_o j (m + 1) _ (fun m' p' a b q' => ndA_ne (by omega) (by omega) hp q' (Or.inl (by omega)))]
    · rw [nbI_N hp j (n + 1) _ (by omega) (by omega) (by omega)]
      exact nbC_c hp (fun p' k' hp' => nb_o (fun p'' q' => ndA_ne (by omega) (by omega) hp' q' (Or.inl q)))
theorem wb_N {p : Nat} (hn : 0 ≤ n ∧ n ≤ 6) : wbC c w (ndA w n p) k = c (ndA w n p) k := by
  have a : ndA w n p ≠ w := by unfold ndA; omega
  have b : ndA w n p ≠ w + 8 := by unfold ndA; omega
  have e : ndA w n p ≠ w + 9 := by unfold ndA; omega
  have f : ndA w n p ≠ w + 10 := by unfold ndA; omega
  simp [wbC, up, fl, a, b, e, f]
/-- what a row must say of a world that began -/
theorem wb_mk {F : qN} (h0 : ∀ m, 0 ≤ m → m ≤ 6 → c (ndA w m 0) 0 = m) (hF : ∀ m, 0 ≤ m → m ≤ 6 → Nb (nd F m) v (c (ndA w m 0) 10)) (hx : F 11132 = c w 13) (hi : ∀ j, 1708 ≤ j → j < 11138 → j ≠ 11132 → F j = 0) : mkC w F (nbI w v 7 0 (wbC c w)) = nbI w v 7 0 (wbC c w) := by
  have ho : ∀ b k, (∀ m p, 0 ≤ m → m ≤ 6 → p < 8 → b ≠ ndA w m p) → nbI w v 7 0 (wbC c w) b k = wbC c w b k := fun b k h => nbI_o 7 0 _ (fun m p a b q => h m p a (by omega) q)
  funext a k
  refine mk_cases (w := w) (P := fun a => mkC w F (nbI w v 7 0 (wbC c w)) a k = nbI w v 7 0 (wbC c w) a k) ?_ ?_ ?_ ?_ ?_ ?_ ?_ a
  · intro n p h1 h2 h3
    rw [mkC_N ⟨h1, h2⟩ h3, nbI_N h3 7 0 _ (by omega) (by omega) (by omega)]
    have e0 : wbC c w (ndA w n 0) 0 = n := by rw [wb_N ⟨h1, h2⟩]; exact h0 n h1 h2
    have f := hF n h1 h2
    rw [← wb_N (c := c) (k := 10) (p := 0) ⟨h1, h2⟩] at f
    exact nb_N e0 f h3
  · intro i h1 h2
    rw [mkC_R ⟨h1, h2⟩]
    unfold rdC
    rw [hi 11135 (by omega) (by omega) (by omega), if_neg (by omega)]
  · rw [mkC_w, ho _ _ (fun m p a b q => by unfold ndA; omega)]
    have eh : hcnt F = 0 := hcnt_0 (fun i a b => hi _ (by omega) (by omega) (by omega))
    have a8 : w ≠ w + 8 := by omega
    have a9 : w ≠ w + 9 := by omega
    have a10 : w ≠ w + 10 := by omega
    unfold wlC
    rw [hi 11133 (by omega) (by omega) (by omega), hi 11135 (by omega) (by omega) (by omega), hi 11134 (by omega) (by omega) (by omega), eh, hi 11131 (by omega) (by omega) (by omega), hx, hi 11136 (by omega) (by omega) (by omega), hi 11137 (by omega) (by omega) (by omega)]
    simp [wbC, up, fl, a8, a9, a10]
    grind (splits := 60)
  · rw [mkC_8, ho _ _ (fun m p a b q => by unfold ndA; omega)]
    unfold heC
    by_cases q : 1 ≤ k ∧ k ≤ 999
    · rw [if_pos q, hi (6028 + 4 * k) (by omega) (by omega) (by omega), if_pos rfl]
      have q1 : 0 ≤ k ∧ k < 1000 := by omega
      simp [wbC, up, fl, q1]
    · rw [if_neg q]
  · rw [mkC_9, ho _ _ (fun m p a b q => by unfold ndA; omega)]
    by_cases q : 0 ≤ k ∧ k ≤ 999
    · rw [if_pos q, hi (10028 + k) (by omega) (by omega) (by omega)]
      have q1 : 0 ≤ k ∧ k < 1000 := by omega
      simp [wbC, up, fl, q1, ldV]
    · rw [if_neg q]
  · rw [mkC_10, ho _ _ (fun m p a b q => by unfold ndA; omega)]
    by_cases q : 0 ≤ k ∧ k ≤ 6
    · rw [if_pos q, hi (11124 + k) (by omega) (by omega) (by omega)]
      have q1 : 0 ≤ k ∧ k < 7 := by omega
      simp [wbC, up, fl, q1]
    · rw [if_neg q]
  · intro a h
    rw [mkC_o h]
end Wb
section CS
variable {l : Launch} {V : qV} {d : Nat} {s : qS} {w : Nat} {S : qN} {c g r : qI} {R n i v : Int} {Q : Option Value → qH → Prop}
theorem LB1 (hd : 8 ≤ d) (hw : 8 ≤ w ∧ w ≤ 1462) (hS : ShW s w) : ∀ (j : Nat) (n : Int) (c : qI), n + j = 7 → 0 ≤ n → (G l V mi_World_begin (rm d) 0 0 Q 0 0 85 [.ref w, .int (Int32.ofInt v), .int (Int32.ofInt 0)] [] (mkH s (jn (nbI w v j n c) r))) →
    G l V mi_World_begin (rm d) 0 0 Q 0 0 61 [.ref w, .int (Int32.ofInt v), .int (Int32.ofInt n)] [] (mkH s (jn c r)) := by
  intro j
  induction j with
  | zero =>
    intro n c hj h0 hQ
    have e : n = 7 := by omega
    subst e
    refine G_ev ok_World_begin (smL_ok (d := d - 1) (by omega)) (fun pc => pc == 61 || pc == 85) 200 (by omega) (fun K kK => ?_)
    simp (disch := omega) only [ev_s, evN_ap, List.getElem?_cons_zero, List.getElem?_cons_succ, List.set_cons_zero, List.set_cons_succ, Bool.false_eq_true, ↓reduceIte, qrest_n, qrest_1, qrest_2, qrest_3, qrest_4, qrest_5, qrest_6, qtr_i, qtr_r, true_and, and_true, List.length_cons, List.length_nil, Int.cast_ofNat_Int, Int32.toInt_zero, false_implies, true_implies, not_false_eq_true, not_true_eq_false, Option.toList_some, Option.toList_none, List.cons_append, List.nil_append, Nat.reduceBEq, Nat.reduceEqDiff, Bool.or_self, or_self, Nat.reduceAdd, Nat.reduceLT, Nat.zero_add, Int.reduceAdd, Int.reduceLE, Int.reduceLT, Int.reduceEq, and_self, Int.reduceNeg, qrok_i, qrok_b0, qrok_b1, qrok_bI, Option.some.injEq, Value.int.injEq, J_bI0, J_bI1, Classical.not_not, Int.zero_add, Int.add_zero, Int.sub_zero, false_and, and_false, and_true, true_and, e_0, v_0, e_1, v_1, e_2, v_2, e_3, v_3, e_5, v_5, e_13, v_13, e_15, v_15, e_20, v_20, e_21, v_21, e_26, v_26, e_41, e_44, e_45, qspl_z, qspl_s, evC_s, evD_none, evD_v, evD_s, c_3, (smL_no (k := 30) rfl), (smL_no (k := 84) rfl), (smL_no (k := 313) rfl), r_World_begin_0, r_World_begin_1, r_World_begin_2, r_World_begin_5, r_World_begin_6, r_World_begin_7, r_World_begin_10, r_World_begin_11, r_World_begin_14, r_World_begin_15, r_World_begin_18, r_World_begin_19, r_World_begin_20, r_World_begin_23, r_World_begin_24, r_World_begin_25, r_World_begin_28, r_World_begin_29, r_World_begin_32, r_World_begin_33, r_World_begin_36, r_World_begin_37, r_World_begin_40, r_World_begin_41, r_World_begin_44, r_World_begin_45, r_World_begin_46, r_World_begin_49, r_World_begin_50, r_World_begin_51, r_World_begin_54, r_World_begin_55, r_World_begin_56, r_World_begin_59, r_World_begin_60, r_World_begin_61, r_World_begin_62, r_World_begin_64, r_World_begin_67, r_World_begin_68, r_World_begin_71, r_World_begin_72, r_World_begin_73, r_World_begin_74, r_World_begin_77, r_World_begin_80, r_World_begin_83, r_World_begin_84, r_World_begin_85, r_World_begin_86, r_World_begin_88, r_World_begin_91, r_World_begin_92, r_World_begin_93, r_World_begin_96, r_World_begin_97, r_World_begin_98, r_World_begin_101, r_World_begin_104, r_World_begin_107, sv_k hS, sv_0 hS, sv_1 hS, sv_k1 hS, sv_n hS, sv_2 hS, sv_k2 hS, sv_b, sv_4, sv_5 hS, sv_k7 hS, sv_r hS, sv_kr hS, sv_7 hS, sv_k8 hS, sv_10 hS, sv_k9 hS, sv_11 hS, sv_k10 hS, sn_k hS, sn_4 hS, sn_k1 hS, sn_6 hS, sn_k2 hS, sn_24 hS, sn_k3 hS, sn_9 hS, sn_k4 hS, sn_13 hS, sn_k5 hS, sn_14 hS, sn_k6 hS, sn_15 hS, sn_k7 hS, sl_k hS, sl_2 hS, sl_k4 hS, sl_3 hS, sl_k5 hS, sl_4 hS, sl_k6 hS, sl_5 hS, sl_k7 hS, rn_0, rn_1, rn_2, rn_3, rn_5, rn_7, rn_8, rn_10, rn_11, rn_12, rn_16, rn_17, rn_log, rn_20, rn_21, rn_22, rn_23, rn_sk, rn_key, rn_next, rn_match, rn_heard, rw_3, rw_6, rw_8, rw_9, rw_12, rw_13, rw_14, rw_15, rw_he, rw_ld, rw_cu, rr_0, rr_1, rr_2, rr_3, rr_4, rr_5, su_2, su_8, su_10, su_12, su_16, su_17, su_20, su_21, su_22, su_23, su_sk, su_key, su_next, su_match, su_heard, su_3m, su_3, su_11m, su_11, su_7, sw_3, sw_8, sw_12, sw_13, sw_14, sw_15, sw_ld, sw_cu, sr_0, sr_5, I_val, I_add, I_sub, I_mul, inB, beq_iff_eq, or_false, false_or, u1_ne, u1_same, nd_u1, nd_u1s, lpS_u1, Bool.or_eq_true, Bool.or_false, Bool.false_or, bI_z, mnI_I, mxI_I]
    repeat' (first | with_reducible apply And.intro | intro _)
    all_goals try (clear kK; omega)
    all_goals first | omega | exact kK _ _ _ _ hQ
  | succ j ih =>
    intro n c hj h0 hQ
    refine G_ev ok_World_begin (smL_ok (d := d - 1) (by omega)) (fun pc => pc == 61 || pc == 85) 200 (by omega) (fun K kK => ?_)
    simp (disch := omega) only [ev_s, evN_ap, List.getElem?_cons_zero, List.getElem?_cons_succ, List.set_cons_zero, List.set_cons_succ, Bool.false_eq_true, ↓reduceIte, qrest_n, qrest_1, qrest_2, qrest_3, qrest_4, qrest_5, qrest_6, qtr_i, qtr_r, true_and, and_true, List.length_cons, List.length_nil, Int.cast_ofNat_Int, Int32.toInt_zero, false_implies, true_implies, not_false_eq_true, not_true_eq_false, Option.toList_some, Option.toList_none, List.cons_append, List.nil_append, Nat.reduceBEq, Nat.reduceEqDiff, Bool.or_self, or_self, Nat.reduceAdd, Nat.reduceLT, Nat.zero_add, Int.reduceAdd, Int.reduceLE, Int.reduceLT, Int.reduceEq, and_self, Int.reduceNeg, qrok_i, qrok_b0, qrok_b1, qrok_bI, Option.some.injEq, Value.int.injEq, J_bI0, J_bI1, Classical.not_not, Int.zero_add, Int.add_zero, Int.sub_zero, false_and, and_false, and_true, true_and, e_0, v_0, e_1, v_1, e_2, v_2, e_3, v_3, e_5, v_5, e_13, v_13, e_15, v_15, e_20, v_20, e_21, v_21, e_26, v_26, e_41, e_44, e_45, qspl_z, qspl_s, evC_s, evD_none, evD_v, evD_s, c_3, (smL_no (k := 30) rfl), (smL_no (k := 84) rfl), (smL_no (k := 313) rfl), r_World_begin_0, r_World_begin_1, r_World_begin_2, r_World_begin_5, r_World_begin_6, r_World_begin_7, r_World_begin_10, r_World_begin_11, r_World_begin_14, r_World_begin_15, r_World_begin_18, r_World_begin_19, r_World_begin_20, r_World_begin_23, r_World_begin_24, r_World_begin_25, r_World_begin_28, r_World_begin_29, r_World_begin_32, r_World_begin_33, r_World_begin_36, r_World_begin_37, r_World_begin_40, r_World_begin_41, r_World_begin_44, r_World_begin_45, r_World_begin_46, r_World_begin_49, r_World_begin_50, r_World_begin_51, r_World_begin_54, r_World_begin_55, r_World_begin_56, r_World_begin_59, r_World_begin_60, r_World_begin_61, r_World_begin_62, r_World_begin_64, r_World_begin_67, r_World_begin_68, r_World_begin_71, r_World_begin_72, r_World_begin_73, r_World_begin_74, r_World_begin_77, r_World_begin_80, r_World_begin_83, r_World_begin_84, r_World_begin_85, r_World_begin_86, r_World_begin_88, r_World_begin_91, r_World_begin_92, r_World_begin_93, r_World_begin_96, r_World_begin_97, r_World_begin_98, r_World_begin_101, r_World_begin_104, r_World_begin_107, sv_k hS, sv_0 hS, sv_1 hS, sv_k1 hS, sv_n hS, sv_2 hS, sv_k2 hS, sv_b, sv_4, sv_5 hS, sv_k7 hS, sv_r hS, sv_kr hS, sv_7 hS, sv_k8 hS, sv_10 hS, sv_k9 hS, sv_11 hS, sv_k10 hS, sn_k hS, sn_4 hS, sn_k1 hS, sn_6 hS, sn_k2 hS, sn_24 hS, sn_k3 hS, sn_9 hS, sn_k4 hS, sn_13 hS, sn_k5 hS, sn_14 hS, sn_k6 hS, sn_15 hS, sn_k7 hS, sl_k hS, sl_2 hS, sl_k4 hS, sl_3 hS, sl_k5 hS, sl_4 hS, sl_k6 hS, sl_5 hS, sl_k7 hS, rn_0, rn_1, rn_2, rn_3, rn_5, rn_7, rn_8, rn_10, rn_11, rn_12, rn_16, rn_17, rn_log, rn_20, rn_21, rn_22, rn_23, rn_sk, rn_key, rn_next, rn_match, rn_heard, rw_3, rw_6, rw_8, rw_9, rw_12, rw_13, rw_14, rw_15, rw_he, rw_ld, rw_cu, rr_0, rr_1, rr_2, rr_3, rr_4, rr_5, su_2, su_8, su_10, su_12, su_16, su_17, su_20, su_21, su_22, su_23, su_sk, su_key, su_next, su_match, su_heard, su_3m, su_3, su_11m, su_11, su_7, sw_3, sw_8, sw_12, sw_13, sw_14, sw_15, sw_ld, sw_cu, sr_0, sr_5, I_val, I_add, I_sub, I_mul, inB, beq_iff_eq, or_false, false_or, u1_ne, u1_same, nd_u1, nd_u1s, lpS_u1, Bool.or_eq_true, Bool.or_false, Bool.false_or, bI_z, mnI_I, mxI_I]
    repeat' (first | with_reducible apply And.intro | intro _)
    all_goals try (clear kK; omega)
    all_goals try omega
    refine kK _ _ _ _ (GCD ok_World_begin r_World_begin_74 ⟨by decide, by decide⟩ qm_Node_begin (C_Node_begin (d := d - 1) (v := v) (by omega) hw hS (n := n) (by omega)) rfl rfl (fun _ => by first | exact rcN hS (by omega) | exact rcW hS | exact rcG hS (by assumption) | exact rcL hS | exact rcN2 hS (by omega) | exact rcG2 hS (by assumption)) rfl (Nat.le_of_ble_eq_true rfl) (by omega) ?_)
    refine G_ev ok_World_begin (smL_ok (d := d - 1) (by omega)) (fun pc => pc == 61 || pc == 85) 200 (by omega) (fun K kK => ?_)
    simp (disch := omega) only [ev_s, evN_ap, List.getElem?_cons_zero, List.getElem?_cons_succ, List.set_cons_zero, List.set_cons_succ, Bool.false_eq_true, ↓reduceIte, qrest_n, qrest_1, qrest_2, qrest_3, qrest_4, qrest_5, qrest_6, qtr_i, qtr_r, true_and, and_true, List.length_cons, List.length_nil, Int.cast_ofNat_Int, Int32.toInt_zero, false_implies, true_implies, not_false_eq_true, not_true_eq_false, Option.toList_some, Option.toList_none, List.cons_append, List.nil_append, Nat.reduceBEq, Nat.reduceEqDiff, Bool.or_self, or_self, Nat.reduceAdd, Nat.reduceLT, Nat.zero_add, Int.reduceAdd, Int.reduceLE, Int.reduceLT, Int.reduceEq, and_self, Int.reduceNeg, qrok_i, qrok_b0, qrok_b1, qrok_bI, Option.some.injEq, Value.int.injEq, J_bI0, J_bI1, Classical.not_not, Int.zero_add, Int.add_zero, Int.sub_zero, false_and, and_false, and_true, true_and, e_0, v_0, e_1, v_1, e_2, v_2, e_3, v_3, e_5, v_5, e_13, v_13, e_15, v_15, e_20, v_20, e_21, v_21, e_26, v_26, e_41, e_44, e_45, qspl_z, qspl_s, evC_s, evD_none, evD_v, evD_s, c_3, (smL_no (k := 30) rfl), (smL_no (k := 84) rfl), (smL_no (k := 313) rfl), r_World_begin_0, r_World_begin_1, r_World_begin_2, r_World_begin_5, r_World_begin_6, r_World_begin_7, r_World_begin_10, r_World_begin_11, r_World_begin_14, r_World_begin_15, r_World_begin_18, r_World_begin_19, r_World_begin_20, r_World_begin_23, r_World_begin_24, r_World_begin_25, r_World_begin_28, r_World_begin_29, r_World_begin_32, r_World_begin_33, r_World_begin_36, r_World_begin_37, r_World_begin_40, r_World_begin_41, r_World_begin_44, r_World_begin_45, r_World_begin_46, r_World_begin_49, r_World_begin_50, r_World_begin_51, r_World_begin_54, r_World_begin_55, r_World_begin_56, r_World_begin_59, r_World_begin_60, r_World_begin_61, r_World_begin_62, r_World_begin_64, r_World_begin_67, r_World_begin_68, r_World_begin_71, r_World_begin_72, r_World_begin_73, r_World_begin_74, r_World_begin_77, r_World_begin_80, r_World_begin_83, r_World_begin_84, r_World_begin_85, r_World_begin_86, r_World_begin_88, r_World_begin_91, r_World_begin_92, r_World_begin_93, r_World_begin_96, r_World_begin_97, r_World_begin_98, r_World_begin_101, r_World_begin_104, r_World_begin_107, sv_k hS, sv_0 hS, sv_1 hS, sv_k1 hS, sv_n hS, sv_2 hS, sv_k2 hS, sv_b, sv_4, sv_5 hS, sv_k7 hS, sv_r hS, sv_kr hS, sv_7 hS, sv_k8 hS, sv_10 hS, sv_k9 hS, sv_11 hS, sv_k10 hS, sn_k hS, sn_4 hS, sn_k1 hS, sn_6 hS, sn_k2 hS, sn_24 hS, sn_k3 hS, sn_9 hS, sn_k4 hS, sn_13 hS, sn_k5 hS, sn_14 hS, sn_k6 hS, sn_15 hS, sn_k7 hS, sl_k hS, sl_2 hS, sl_k4 hS, sl_3 hS, sl_k5 hS, sl_4 hS, sl_k6 hS, sl_5 hS, sl_k7 hS, rn_0, rn_1, rn_2, rn_3, rn_5, rn_7, rn_8, rn_10, rn_11, rn_12, rn_16, rn_17, rn_log, rn_20, rn_21, rn_22, rn_23, rn_sk, rn_key, rn_next, rn_match, rn_heard, rw_3, rw_6, rw_8, rw_9, rw_12, rw_13, rw_14, rw_15, rw_he, rw_ld, rw_cu, rr_0, rr_1, rr_2, rr_3, rr_4, rr_5, su_2, su_8, su_10, su_12, su_16, su_17, su_20, su_21, su_22, su_23, su_sk, su_key, su_next, su_match, su_heard, su_3m, su_3, su_11m, su_11, su_7, sw_3, sw_8, sw_12, sw_13, sw_14, sw_15, sw_ld, sw_cu, sr_0, sr_5, I_val, I_add, I_sub, I_mul, inB, beq_iff_eq, or_false, false_or, u1_ne, u1_same, nd_u1, nd_u1s, lpS_u1, Bool.or_eq_true, Bool.or_false, Bool.false_or, bI_z, mnI_I, mxI_I]
    repeat' (first | with_reducible apply And.intro | intro _)
    all_goals try (clear kK; omega)
    all_goals first | omega | exact kK _ _ _ _ (ih (n + 1) _ (by omega) (by omega) hQ)
theorem LB2 (hd : 8 ≤ d) (hw : 8 ≤ w ∧ w ≤ 1462) (hS : ShW s w) {g0 : qI} {T0 : qN} : ∀ (j : Nat) (n : Int) (T : qN) (g : qI), n + j = 7 → 0 ≤ n → OK R T → CLw g r → MsC s w g T → FrM s w g0 g → tfF (lwR r) j n T = T0 →
    G l V mi_World_begin (rm d) 0 0 (fun v' h' => v' = none ∧ ∃ g', h' = mkH s (jn (mkC w T0 g') r) ∧ FrM s w g0 g' ∧ MsC s w g' T0) 0 0 85 [.ref w, .int (Int32.ofInt v), .int (Int32.ofInt n)] [] (mkH s (jn (mkC w T g) r)) := by
  intro j
  induction j with
  | zero =>
    intro n T g hj h0 ho hL hm hf hT
    have e : n = 7 := by omega
    subst e
    rw [tfF] at hT
    subst hT
    refine G_ev ok_World_begin (smL_ok (d := d - 1) (by omega)) (fun pc => pc == 61 || pc == 85) 200 (by omega) (fun K kK => ?_)
    simp (disch := omega) only [ev_s, evN_ap, List.getElem?_cons_zero, List.getElem?_cons_succ, List.set_cons_zero, List.set_cons_succ, Bool.false_eq_true, ↓reduceIte, qrest_n, qrest_1, qrest_2, qrest_3, qrest_4, qrest_5, qrest_6, qtr_i, qtr_r, true_and, and_true, List.length_cons, List.length_nil, Int.cast_ofNat_Int, Int32.toInt_zero, false_implies, true_implies, not_false_eq_true, not_true_eq_false, Option.toList_some, Option.toList_none, List.cons_append, List.nil_append, Nat.reduceBEq, Nat.reduceEqDiff, Bool.or_self, or_self, Nat.reduceAdd, Nat.reduceLT, Nat.zero_add, Int.reduceAdd, Int.reduceLE, Int.reduceLT, Int.reduceEq, and_self, Int.reduceNeg, qrok_i, qrok_b0, qrok_b1, qrok_bI, Option.some.injEq, Value.int.injEq, J_bI0, J_bI1, Classical.not_not, Int.zero_add, Int.add_zero, Int.sub_zero, false_and, and_false, and_true, true_and, e_0, v_0, e_1, v_1, e_2, v_2, e_3, v_3, e_5, v_5, e_13, v_13, e_15, v_15, e_20, v_20, e_21, v_21, e_26, v_26, e_41, e_44, e_45, qspl_z, qspl_s, evC_s, evD_none, evD_v, evD_s, c_3, (smL_no (k := 30) rfl), (smL_no (k := 84) rfl), (smL_no (k := 313) rfl), r_World_begin_0, r_World_begin_1, r_World_begin_2, r_World_begin_5, r_World_begin_6, r_World_begin_7, r_World_begin_10, r_World_begin_11, r_World_begin_14, r_World_begin_15, r_World_begin_18, r_World_begin_19, r_World_begin_20, r_World_begin_23, r_World_begin_24, r_World_begin_25, r_World_begin_28, r_World_begin_29, r_World_begin_32, r_World_begin_33, r_World_begin_36, r_World_begin_37, r_World_begin_40, r_World_begin_41, r_World_begin_44, r_World_begin_45, r_World_begin_46, r_World_begin_49, r_World_begin_50, r_World_begin_51, r_World_begin_54, r_World_begin_55, r_World_begin_56, r_World_begin_59, r_World_begin_60, r_World_begin_61, r_World_begin_62, r_World_begin_64, r_World_begin_67, r_World_begin_68, r_World_begin_71, r_World_begin_72, r_World_begin_73, r_World_begin_74, r_World_begin_77, r_World_begin_80, r_World_begin_83, r_World_begin_84, r_World_begin_85, r_World_begin_86, r_World_begin_88, r_World_begin_91, r_World_begin_92, r_World_begin_93, r_World_begin_96, r_World_begin_97, r_World_begin_98, r_World_begin_101, r_World_begin_104, r_World_begin_107, sv_k hS, sv_0 hS, sv_1 hS, sv_k1 hS, sv_n hS, sv_2 hS, sv_k2 hS, sv_b, sv_4, sv_5 hS, sv_k7 hS, sv_r hS, sv_kr hS, sv_7 hS, sv_k8 hS, sv_10 hS, sv_k9 hS, sv_11 hS, sv_k10 hS, sn_k hS, sn_4 hS, sn_k1 hS, sn_6 hS, sn_k2 hS, sn_24 hS, sn_k3 hS, sn_9 hS, sn_k4 hS, sn_13 hS, sn_k5 hS, sn_14 hS, sn_k6 hS, sn_15 hS, sn_k7 hS, sl_k hS, sl_2 hS, sl_k4 hS, sl_3 hS, sl_k5 hS, sl_4 hS, sl_k6 hS, sl_5 hS, sl_k7 hS, rn_0, rn_1, rn_2, rn_3, rn_5, rn_7, rn_8, rn_10, rn_11, rn_12, rn_16, rn_17, rn_log, rn_20, rn_21, rn_22, rn_23, rn_sk, rn_key, rn_next, rn_match, rn_heard, rw_3, rw_6, rw_8, rw_9, rw_12, rw_13, rw_14, rw_15, rw_he, rw_ld, rw_cu, rr_0, rr_1, rr_2, rr_3, rr_4, rr_5, su_2, su_8, su_10, su_12, su_16, su_17, su_20, su_21, su_22, su_23, su_sk, su_key, su_next, su_match, su_heard, su_3m, su_3, su_11m, su_11, su_7, sw_3, sw_8, sw_12, sw_13, sw_14, sw_15, sw_ld, sw_cu, sr_0, sr_5, I_val, I_add, I_sub, I_mul, inB, beq_iff_eq, or_false, false_or, u1_ne, u1_same, nd_u1, nd_u1s, lpS_u1, Bool.or_eq_true, Bool.or_false, Bool.false_or, bI_z, mnI_I, mxI_I]
    repeat' (first | with_reducible apply And.intro | intro _)
    all_goals try (clear kK; omega)
    all_goals first | omega | rfl | exact ⟨g, rfl, hf, hm⟩
  | succ j ih =>
    intro n T g hj h0 ho hL hm hf hT
    have hn : 0 ≤ n ∧ n ≤ 6 := by omega
    refine G_ev ok_World_begin (smL_ok (d := d - 1) (by omega)) (fun pc => pc == 61 || pc == 85) 200 (by omega) (fun K kK => ?_)
    simp (disch := omega) only [ev_s, evN_ap, List.getElem?_cons_zero, List.getElem?_cons_succ, List.set_cons_zero, List.set_cons_succ, Bool.false_eq_true, ↓reduceIte, qrest_n, qrest_1, qrest_2, qrest_3, qrest_4, qrest_5, qrest_6, qtr_i, qtr_r, true_and, and_true, List.length_cons, List.length_nil, Int.cast_ofNat_Int, Int32.toInt_zero, false_implies, true_implies, not_false_eq_true, not_true_eq_false, Option.toList_some, Option.toList_none, List.cons_append, List.nil_append, Nat.reduceBEq, Nat.reduceEqDiff, Bool.or_self, or_self, Nat.reduceAdd, Nat.reduceLT, Nat.zero_add, Int.reduceAdd, Int.reduceLE, Int.reduceLT, Int.reduceEq, and_self, Int.reduceNeg, qrok_i, qrok_b0, qrok_b1, qrok_bI, Option.some.injEq, Value.int.injEq, J_bI0, J_bI1, Classical.not_not, Int.zero_add, Int.add_zero, Int.sub_zero, false_and, and_false, and_true, true_and, e_0, v_0, e_1, v_1, e_2, v_2, e_3, v_3, e_5, v_5, e_13, v_13, e_15, v_15, e_20, v_20, e_21, v_21, e_26, v_26, e_41, e_44, e_45, qspl_z, qspl_s, evC_s, evD_none, evD_v, evD_s, c_3, (smL_no (k := 30) rfl), (smL_no (k := 84) rfl), (smL_no (k := 313) rfl), r_World_begin_0, r_World_begin_1, r_World_begin_2, r_World_begin_5, r_World_begin_6, r_World_begin_7, r_World_begin_10, r_World_begin_11, r_World_begin_14, r_World_begin_15, r_World_begin_18, r_World_begin_19, r_World_begin_20, r_World_begin_23, r_World_begin_24, r_World_begin_25, r_World_begin_28, r_World_begin_29, r_World_begin_32, r_World_begin_33, r_World_begin_36, r_World_begin_37, r_World_begin_40, r_World_begin_41, r_World_begin_44, r_World_begin_45, r_World_begin_46, r_World_begin_49, r_World_begin_50, r_World_begin_51, r_World_begin_54, r_World_begin_55, r_World_begin_56, r_World_begin_59, r_World_begin_60, r_World_begin_61, r_World_begin_62, r_World_begin_64, r_World_begin_67, r_World_begin_68, r_World_begin_71, r_World_begin_72, r_World_begin_73, r_World_begin_74, r_World_begin_77, r_World_begin_80, r_World_begin_83, r_World_begin_84, r_World_begin_85, r_World_begin_86, r_World_begin_88, r_World_begin_91, r_World_begin_92, r_World_begin_93, r_World_begin_96, r_World_begin_97, r_World_begin_98, r_World_begin_101, r_World_begin_104, r_World_begin_107, sv_k hS, sv_0 hS, sv_1 hS, sv_k1 hS, sv_n hS, sv_2 hS, sv_k2 hS, sv_b, sv_4, sv_5 hS, sv_k7 hS, sv_r hS, sv_kr hS, sv_7 hS, sv_k8 hS, sv_10 hS, sv_k9 hS, sv_11 hS, sv_k10 hS, sn_k hS, sn_4 hS, sn_k1 hS, sn_6 hS, sn_k2 hS, sn_24 hS, sn_k3 hS, sn_9 hS, sn_k4 hS, sn_13 hS, sn_k5 hS, sn_14 hS, sn_k6 hS, sn_15 hS, sn_k7 hS, sl_k hS, sl_2 hS, sl_k4 hS, sl_3 hS, sl_k5 hS, sl_4 hS, sl_k6 hS, sl_5 hS, sl_k7 hS, rn_0, rn_1, rn_2, rn_3, rn_5, rn_7, rn_8, rn_10, rn_11, rn_12, rn_16, rn_17, rn_log, rn_20, rn_21, rn_22, rn_23, rn_sk, rn_key, rn_next, rn_match, rn_heard, rw_3, rw_6, rw_8, rw_9, rw_12, rw_13, rw_14, rw_15, rw_he, rw_ld, rw_cu, rr_0, rr_1, rr_2, rr_3, rr_4, rr_5, su_2, su_8, su_10, su_12, su_16, su_17, su_20, su_21, su_22, su_23, su_sk, su_key, su_next, su_match, su_heard, su_3m, su_3, su_11m, su_11, su_7, sw_3, sw_8, sw_12, sw_13, sw_14, sw_15, sw_ld, sw_cu, sr_0, sr_5, I_val, I_add, I_sub, I_mul, inB, beq_iff_eq, or_false, false_or, u1_ne, u1_same, nd_u1, nd_u1s, lpS_u1, Bool.or_eq_true, Bool.or_false, Bool.false_or, bI_z, mnI_I, mxI_I]
    repeat' (first | with_reducible apply And.intro | intro _)
    all_goals try (clear kK; omega)
    all_goals try omega
    refine kK _ _ _ _ (GCQ ok_World_begin r_World_begin_98 ⟨by decide, by decide⟩ qm_World_setTimer (C_World_setTimer (d := d - 1) (by omega) hw hS hn ho hL hm) rfl rfl (fun _ => by first | exact rcN hS (by omega) | exact rcW hS | exact rcG hS (by assumption) | exact rcL hS | exact rcN2 hS (by omega) | exact rcG2 hS (by assumption)) rfl (Nat.le_of_ble_eq_true rfl) (by omega) (fun v1 h1 q1 => ?_))
    obtain ⟨rfl, g2, rfl, f2, m2⟩ := q1
    have ih := ih (n + 1) _ g2 (by omega) (by omega) (OK_tm ho hn lwR_ok) (CLw_fr hw.1 hL f2) m2 (FrM_tr hf f2) hT
    refine G_ev ok_World_begin (smL_ok (d := d - 1) (by omega)) (fun pc => pc == 61 || pc == 85) 200 (by omega) (fun K kK => ?_)
    simp (disch := omega) only [ev_s, evN_ap, List.getElem?_cons_zero, List.getElem?_cons_succ, List.set_cons_zero, List.set_cons_succ, Bool.false_eq_true, ↓reduceIte, qrest_n, qrest_1, qrest_2, qrest_3, qrest_4, qrest_5, qrest_6, qtr_i, qtr_r, true_and, and_true, List.length_cons, List.length_nil, Int.cast_ofNat_Int, Int32.toInt_zero, false_implies, true_implies, not_false_eq_true, not_true_eq_false, Option.toList_some, Option.toList_none, List.cons_append, List.nil_append, Nat.reduceBEq, Nat.reduceEqDiff, Bool.or_self, or_self, Nat.reduceAdd, Nat.reduceLT, Nat.zero_add, Int.reduceAdd, Int.reduceLE, Int.reduceLT, Int.reduceEq, and_self, Int.reduceNeg, qrok_i, qrok_b0, qrok_b1, qrok_bI, Option.some.injEq, Value.int.injEq, J_bI0, J_bI1, Classical.not_not, Int.zero_add, Int.add_zero, Int.sub_zero, false_and, and_false, and_true, true_and, e_0, v_0, e_1, v_1, e_2, v_2, e_3, v_3, e_5, v_5, e_13, v_13, e_15, v_15, e_20, v_20, e_21, v_21, e_26, v_26, e_41, e_44, e_45, qspl_z, qspl_s, evC_s, evD_none, evD_v, evD_s, c_3, (smL_no (k := 30) rfl), (smL_no (k := 84) rfl), (smL_no (k := 313) rfl), r_World_begin_0, r_World_begin_1, r_World_begin_2, r_World_begin_5, r_World_begin_6, r_World_begin_7, r_World_begin_10, r_World_begin_11, r_World_begin_14, r_World_begin_15, r_World_begin_18, r_World_begin_19, r_World_begin_20, r_World_begin_23, r_World_begin_24, r_World_begin_25, r_World_begin_28, r_World_begin_29, r_World_begin_32, r_World_begin_33, r_World_begin_36, r_World_begin_37, r_World_begin_40, r_World_begin_41, r_World_begin_44, r_World_begin_45, r_World_begin_46, r_World_begin_49, r_World_begin_50, r_World_begin_51, r_World_begin_54, r_World_begin_55, r_World_begin_56, r_World_begin_59, r_World_begin_60, r_World_begin_61, r_World_begin_62, r_World_begin_64, r_World_begin_67, r_World_begin_68, r_World_begin_71, r_World_begin_72, r_World_begin_73, r_World_begin_74, r_World_begin_77, r_World_begin_80, r_World_begin_83, r_World_begin_84, r_World_begin_85, r_World_begin_86, r_World_begin_88, r_World_begin_91, r_World_begin_92, r_World_begin_93, r_World_begin_96, r_World_begin_97, r_World_begin_98, r_World_begin_101, r_World_begin_104, r_World_begin_107, sv_k hS, sv_0 hS, sv_1 hS, sv_k1 hS, sv_n hS, sv_2 hS, sv_k2 hS, sv_b, sv_4, sv_5 hS, sv_k7 hS, sv_r hS, sv_kr hS, sv_7 hS, sv_k8 hS, sv_10 hS, sv_k9 hS, sv_11 hS, sv_k10 hS, sn_k hS, sn_4 hS, sn_k1 hS, sn_6 hS, sn_k2 hS, sn_24 hS, sn_k3 hS, sn_9 hS, sn_k4 hS, sn_13 hS, sn_k5 hS, sn_14 hS, sn_k6 hS, sn_15 hS, sn_k7 hS, sl_k hS, sl_2 hS, sl_k4 hS, sl_3 hS, sl_k5 hS, sl_4 hS, sl_k6 hS, sl_5 hS, sl_k7 hS, rn_0, rn_1, rn_2, rn_3, rn_5, rn_7, rn_8, rn_10, rn_11, rn_12, rn_16, rn_17, rn_log, rn_20, rn_21, rn_22, rn_23, rn_sk, rn_key, rn_next, rn_match, rn_heard, rw_3, rw_6, rw_8, rw_9, rw_12, rw_13, rw_14, rw_15, rw_he, rw_ld, rw_cu, rr_0, rr_1, rr_2, rr_3, rr_4, rr_5, su_2, su_8, su_10, su_12, su_16, su_17, su_20, su_21, su_22, su_23, su_sk, su_key, su_next, su_match, su_heard, su_3m, su_3, su_11m, su_11, su_7, sw_3, sw_8, sw_12, sw_13, sw_14, sw_15, sw_ld, sw_cu, sr_0, sr_5, I_val, I_add, I_sub, I_mul, inB, beq_iff_eq, or_false, false_or, u1_ne, u1_same, nd_u1, nd_u1s, lpS_u1, Bool.or_eq_true, Bool.or_false, Bool.false_or, bI_z, mnI_I, mxI_I]
    repeat' (first | with_reducible apply And.intro | intro _)
    all_goals try (clear kK; omega)
    all_goals first | omega | exact kK _ _ _ _ ih
theorem C_World_begin (hd : 9 ≤ d) (hw : 8 ≤ w ∧ w ≤ 1462) (hS : ShW s w) (hv : 0 ≤ v ∧ v ≤ 127) (h0 : ∀ m, 0 ≤ m → m ≤ 6 → c (ndA w m 0) 0 = m) (ht : ∀ m, 0 ≤ m → m ≤ 6 → 0 ≤ c (ndA w m 0) 10 ∧ c (ndA w m 0) 10 ≤ 49) (hx : S 11132 = c w 13) (hx2 : 0 ≤ S 11132 ∧ S 11132 ≤ 65535) (hs : smS S) (hL : CLw c r) (hbg : BG w c) : T l V mi_World_begin (rm d) 0 0 [.ref w, .int (Int32.ofInt v)] (mkH s (jn c r)) (fun v' h' => v' = none ∧ ∃ g', h' = mkH s (jn (mkC w (fdS (lwR r) S v) g') r) ∧ FrM s w c g' ∧ MsC s w g' (fdS (lwR r) S v)) := by
  refine T_ev qm_World_begin [.ref w, .int (Int32.ofInt v), .retAddr 0] rfl rfl (Nat.le_of_ble_eq_true rfl) ok_World_begin (smL_ok (d := d - 1) (by omega)) (fun pc => pc == 61 || pc == 85) 200 (by omega) (fun K kK => ?_)
  have sa : ∀ (c : qI) k v, setM (mkH s (jn c r)) w k (Int32.ofInt v) = mkH s (jn (up c w k v) r) := fun c k v => set_c (by omega)
  have k8 : ∀ m, hK (mkH s m) (w + 8) = (100, 1000) := fun _ => sv_k8 hS
  have k9 : ∀ m, hK (mkH s m) (w + 9) = (100, 1000) := fun _ => sv_k9 hS
  have k10 : ∀ m, hK (mkH s m) (w + 10) = (100, 7) := fun _ => sv_k10 hS
  simp (disch := omega) only [ev_s, evN_ap, List.getElem?_cons_zero, List.getElem?_cons_succ, List.set_cons_zero, List.set_cons_succ, Bool.false_eq_true, ↓reduceIte, qrest_n, qrest_1, qrest_2, qrest_3, qrest_4, qrest_5, qrest_6, qtr_i, qtr_r, true_and, and_true, List.length_cons, List.length_nil, Int.cast_ofNat_Int, Int32.toInt_zero, false_implies, true_implies, not_false_eq_true, not_true_eq_false, Option.toList_some, Option.toList_none, List.cons_append, List.nil_append, Nat.reduceBEq, Nat.reduceEqDiff, Bool.or_self, or_self, Nat.reduceAdd, Nat.reduceLT, Nat.zero_add, Int.reduceAdd, Int.reduceLE, Int.reduceLT, Int.reduceEq, and_self, Int.reduceNeg, qrok_i, qrok_b0, qrok_b1, qrok_bI, Option.some.injEq, Value.int.injEq, J_bI0, J_bI1, Classical.not_not, Int.zero_add, Int.add_zero, Int.sub_zero, false_and, and_false, and_true, true_and, e_0, v_0, e_1, v_1, e_2, v_2, e_3, v_3, e_5, v_5, e_13, v_13, e_15, v_15, e_20, v_20, e_21, v_21, e_26, v_26, e_41, e_44, e_45, qspl_z, qspl_s, evC_s, evD_none, evD_v, evD_s, c_3, (smL_no (k := 30) rfl), (smL_no (k := 84) rfl), (smL_no (k := 313) rfl), r_World_begin_0, r_World_begin_1, r_World_begin_2, r_World_begin_5, r_World_begin_6, r_World_begin_7, r_World_begin_10, r_World_begin_11, r_World_begin_14, r_World_begin_15, r_World_begin_18, r_World_begin_19, r_World_begin_20, r_World_begin_23, r_World_begin_24, r_World_begin_25, r_World_begin_28, r_World_begin_29, r_World_begin_32, r_World_begin_33, r_World_begin_36, r_World_begin_37, r_World_begin_40, r_World_begin_41, r_World_begin_44, r_World_begin_45, r_World_begin_46, r_World_begin_49, r_World_begin_50, r_World_begin_51, r_World_begin_54, r_World_begin_55, r_World_begin_56, r_World_begin_59, r_World_begin_60, r_World_begin_61, r_World_begin_62, r_World_begin_64, r_World_begin_67, r_World_begin_68, r_World_begin_71, r_World_begin_72, r_World_begin_73, r_World_begin_74, r_World_begin_77, r_World_begin_80, r_World_begin_83, r_World_begin_84, r_World_begin_85, r_World_begin_86, r_World_begin_88, r_World_begin_91, r_World_begin_92, r_World_begin_93, r_World_begin_96, r_World_begin_97, r_World_begin_98, r_World_begin_101, r_World_begin_104, r_World_begin_107, sv_k hS, sv_0 hS, sv_1 hS, sv_k1 hS, sv_n hS, sv_2 hS, sv_k2 hS, sv_b, sv_4, sv_5 hS, sv_k7 hS, sv_r hS, sv_kr hS, sv_7 hS, sv_k8 hS, sv_10 hS, sv_k9 hS, sv_11 hS, sv_k10 hS, sn_k hS, sn_4 hS, sn_k1 hS, sn_6 hS, sn_k2 hS, sn_24 hS, sn_k3 hS, sn_9 hS, sn_k4 hS, sn_13 hS, sn_k5 hS, sn_14 hS, sn_k6 hS, sn_15 hS, sn_k7 hS, sl_k hS, sl_2 hS, sl_k4 hS, sl_3 hS, sl_k5 hS, sl_4 hS, sl_k6 hS, sl_5 hS, sl_k7 hS, hM_cN, set_cN, cpy_cN, I_val, I_add, I_sub, I_mul, inB, beq_iff_eq, or_false, false_or, Bool.or_eq_true, Bool.or_false, Bool.false_or, bI_z, mnJ, mxJ, sa]
  refine kK _ _ _ _ (GCD ok_World_begin r_World_begin_15 ⟨by decide, by decide⟩ qm_J_fill (C_flw (d := d - 1) (v := 0) (by omega) (by omega) (by omega) k8) rfl rfl (fun q => absurd q (by decide)) rfl (Nat.le_of_ble_eq_true rfl) (by omega) ?_)
  refine G_ev ok_World_begin (smL_ok (d := d - 1) (by omega)) (fun pc => pc == 61 || pc == 85) 200 (by omega) (fun K kK => ?_)
  simp (disch := omega) only [ev_s, evN_ap, List.getElem?_cons_zero, List.getElem?_cons_succ, List.set_cons_zero, List.set_cons_succ, Bool.false_eq_true, ↓reduceIte, qrest_n, qrest_1, qrest_2, qrest_3, qrest_4, qrest_5, qrest_6, qtr_i, qtr_r, true_and, and_true, List.length_cons, List.length_nil, Int.cast_ofNat_Int, Int32.toInt_zero, false_implies, true_implies, not_false_eq_true, not_true_eq_false, Option.toList_some, Option.toList_none, List.cons_append, List.nil_append, Nat.reduceBEq, Nat.reduceEqDiff, Bool.or_self, or_self, Nat.reduceAdd, Nat.reduceLT, Nat.zero_add, Int.reduceAdd, Int.reduceLE, Int.reduceLT, Int.reduceEq, and_self, Int.reduceNeg, qrok_i, qrok_b0, qrok_b1, qrok_bI, Option.some.injEq, Value.int.injEq, J_bI0, J_bI1, Classical.not_not, Int.zero_add, Int.add_zero, Int.sub_zero, false_and, and_false, and_true, true_and, e_0, v_0, e_1, v_1, e_2, v_2, e_3, v_3, e_5, v_5, e_13, v_13, e_15, v_15, e_20, v_20, e_21, v_21, e_26, v_26, e_41, e_44, e_45, qspl_z, qspl_s, evC_s, evD_none, evD_v, evD_s, c_3, (smL_no (k := 30) rfl), (smL_no (k := 84) rfl), (smL_no (k := 313) rfl), r_World_begin_0, r_World_begin_1, r_World_begin_2, r_World_begin_5, r_World_begin_6, r_World_begin_7, r_World_begin_10, r_World_begin_11, r_World_begin_14, r_World_begin_15, r_World_begin_18, r_World_begin_19, r_World_begin_20, r_World_begin_23, r_World_begin_24, r_World_begin_25, r_World_begin_28, r_World_begin_29, r_World_begin_32, r_World_begin_33, r_World_begin_36, r_World_begin_37, r_World_begin_40, r_World_begin_41, r_World_begin_44, r_World_begin_45, r_World_begin_46, r_World_begin_49, r_World_begin_50, r_World_begin_51, r_World_begin_54, r_World_begin_55, r_World_begin_56, r_World_begin_59, r_World_begin_60, r_World_begin_61, r_World_begin_62, r_World_begin_64, r_World_begin_67, r_World_begin_68, r_World_begin_71, r_World_begin_72, r_World_begin_73, r_World_begin_74, r_World_begin_77, r_World_begin_80, r_World_begin_83, r_World_begin_84, r_World_begin_85, r_World_begin_86, r_World_begin_88, r_World_begin_91, r_World_begin_92, r_World_begin_93, r_World_begin_96, r_World_begin_97, r_World_begin_98, r_World_begin_101, r_World_begin_104, r_World_begin_107, sv_k hS, sv_0 hS, sv_1 hS, sv_k1 hS, sv_n hS, sv_2 hS, sv_k2 hS, sv_b, sv_4, sv_5 hS, sv_k7 hS, sv_r hS, sv_kr hS, sv_7 hS, sv_k8 hS, sv_10 hS, sv_k9 hS, sv_11 hS, sv_k10 hS, sn_k hS, sn_4 hS, sn_k1 hS, sn_6 hS, sn_k2 hS, sn_24 hS, sn_k3 hS, sn_9 hS, sn_k4 hS, sn_13 hS, sn_k5 hS, sn_14 hS, sn_k6 hS, sn_15 hS, sn_k7 hS, sl_k hS, sl_2 hS, sl_k4 hS, sl_3 hS, sl_k5 hS, sl_4 hS, sl_k6 hS, sl_5 hS, sl_k7 hS, hM_cN, set_cN, cpy_cN, I_val, I_add, I_sub, I_mul, inB, beq_iff_eq, or_false, false_or, Bool.or_eq_true, Bool.or_false, Bool.false_or, bI_z, mnJ, mxJ, sa]
  refine kK _ _ _ _ (GCD ok_World_begin r_World_begin_33 ⟨by decide, by decide⟩ qm_J_fill (C_flw (d := d - 1) (v := 0) (by omega) (by omega) (by omega) k9) rfl rfl (fun q => absurd q (by decide)) rfl (Nat.le_of_ble_eq_true rfl) (by omega) ?_)
  refine G_ev ok_World_begin (smL_ok (d := d - 1) (by omega)) (fun pc => pc == 61 || pc == 85) 200 (by omega) (fun K kK => ?_)
  simp (disch := omega) only [ev_s, evN_ap, List.getElem?_cons_zero, List.getElem?_cons_succ, List.set_cons_zero, List.set_cons_succ, Bool.false_eq_true, ↓reduceIte, qrest_n, qrest_1, qrest_2, qrest_3, qrest_4, qrest_5, qrest_6, qtr_i, qtr_r, true_and, and_true, List.length_cons, List.length_nil, Int.cast_ofNat_Int, Int32.toInt_zero, false_implies, true_implies, not_false_eq_true, not_true_eq_false, Option.toList_some, Option.toList_none, List.cons_append, List.nil_append, Nat.reduceBEq, Nat.reduceEqDiff, Bool.or_self, or_self, Nat.reduceAdd, Nat.reduceLT, Nat.zero_add, Int.reduceAdd, Int.reduceLE, Int.reduceLT, Int.reduceEq, and_self, Int.reduceNeg, qrok_i, qrok_b0, qrok_b1, qrok_bI, Option.some.injEq, Value.int.injEq, J_bI0, J_bI1, Classical.not_not, Int.zero_add, Int.add_zero, Int.sub_zero, false_and, and_false, and_true, true_and, e_0, v_0, e_1, v_1, e_2, v_2, e_3, v_3, e_5, v_5, e_13, v_13, e_15, v_15, e_20, v_20, e_21, v_21, e_26, v_26, e_41, e_44, e_45, qspl_z, qspl_s, evC_s, evD_none, evD_v, evD_s, c_3, (smL_no (k := 30) rfl), (smL_no (k := 84) rfl), (smL_no (k := 313) rfl), r_World_begin_0, r_World_begin_1, r_World_begin_2, r_World_begin_5, r_World_begin_6, r_World_begin_7, r_World_begin_10, r_World_begin_11, r_World_begin_14, r_World_begin_15, r_World_begin_18, r_World_begin_19, r_World_begin_20, r_World_begin_23, r_World_begin_24, r_World_begin_25, r_World_begin_28, r_World_begin_29, r_World_begin_32, r_World_begin_33, r_World_begin_36, r_World_begin_37, r_World_begin_40, r_World_begin_41, r_World_begin_44, r_World_begin_45, r_World_begin_46, r_World_begin_49, r_World_begin_50, r_World_begin_51, r_World_begin_54, r_World_begin_55, r_World_begin_56, r_World_begin_59, r_World_begin_60, r_World_begin_61, r_World_begin_62, r_World_begin_64, r_World_begin_67, r_World_begin_68, r_World_begin_71, r_World_begin_72, r_World_begin_73, r_World_begin_74, r_World_begin_77, r_World_begin_80, r_World_begin_83, r_World_begin_84, r_World_begin_85, r_World_begin_86, r_World_begin_88, r_World_begin_91, r_World_begin_92, r_World_begin_93, r_World_begin_96, r_World_begin_97, r_World_begin_98, r_World_begin_101, r_World_begin_104, r_World_begin_107, sv_k hS, sv_0 hS, sv_1 hS, sv_k1 hS, sv_n hS, sv_2 hS, sv_k2 hS, sv_b, sv_4, sv_5 hS, sv_k7 hS, sv_r hS, sv_kr hS, sv_7 hS, sv_k8 hS, sv_10 hS, sv_k9 hS, sv_11 hS, sv_k10 hS, sn_k hS, sn_4 hS, sn_k1 hS, sn_6 hS, sn_k2 hS, sn_24 hS, sn_k3 hS, sn_9 hS, sn_k4 hS, sn_13 hS, sn_k5 hS, sn_14 hS, sn_k6 hS, sn_15 hS, sn_k7 hS, sl_k hS, sl_2 hS, sl_k4 hS, sl_3 hS, sl_k5 hS, sl_4 hS, sl_k6 hS, sl_5 hS, sl_k7 hS, hM_cN, set_cN, cpy_cN, I_val, I_add, I_sub, I_mul, inB, beq_iff_eq, or_false, false_or, Bool.or_eq_true, Bool.or_false, Bool.false_or, bI_z, mnJ, mxJ, sa]
  refine kK _ _ _ _ (GCD ok_World_begin r_World_begin_41 ⟨by decide, by decide⟩ qm_J_fill (C_flw (d := d - 1) (v := 0) (by omega) (by omega) (by omega) k10) rfl rfl (fun q => absurd q (by decide)) rfl (Nat.le_of_ble_eq_true rfl) (by omega) ?_)
  refine G_ev ok_World_begin (smL_ok (d := d - 1) (by omega)) (fun pc => pc == 61 || pc == 85) 200 (by omega) (fun K kK => ?_)
  simp (disch := omega) only [ev_s, evN_ap, List.getElem?_cons_zero, List.getElem?_cons_succ, List.set_cons_zero, List.set_cons_succ, Bool.false_eq_true, ↓reduceIte, qrest_n, qrest_1, qrest_2, qrest_3, qrest_4, qrest_5, qrest_6, qtr_i, qtr_r, true_and, and_true, List.length_cons, List.length_nil, Int.cast_ofNat_Int, Int32.toInt_zero, false_implies, true_implies, not_false_eq_true, not_true_eq_false, Option.toList_some, Option.toList_none, List.cons_append, List.nil_append, Nat.reduceBEq, Nat.reduceEqDiff, Bool.or_self, or_self, Nat.reduceAdd, Nat.reduceLT, Nat.zero_add, Int.reduceAdd, Int.reduceLE, Int.reduceLT, Int.reduceEq, and_self, Int.reduceNeg, qrok_i, qrok_b0, qrok_b1, qrok_bI, Option.some.injEq, Value.int.injEq, J_bI0, J_bI1, Classical.not_not, Int.zero_add, Int.add_zero, Int.sub_zero, false_and, and_false, and_true, true_and, e_0, v_0, e_1, v_1, e_2, v_2, e_3, v_3, e_5, v_5, e_13, v_13, e_15, v_15, e_20, v_20, e_21, v_21, e_26, v_26, e_41, e_44, e_45, qspl_z, qspl_s, evC_s, evD_none, evD_v, evD_s, c_3, (smL_no (k := 30) rfl), (smL_no (k := 84) rfl), (smL_no (k := 313) rfl), r_World_begin_0, r_World_begin_1, r_World_begin_2, r_World_begin_5, r_World_begin_6, r_World_begin_7, r_World_begin_10, r_World_begin_11, r_World_begin_14, r_World_begin_15, r_World_begin_18, r_World_begin_19, r_World_begin_20, r_World_begin_23, r_World_begin_24, r_World_begin_25, r_World_begin_28, r_World_begin_29, r_World_begin_32, r_World_begin_33, r_World_begin_36, r_World_begin_37, r_World_begin_40, r_World_begin_41, r_World_begin_44, r_World_begin_45, r_World_begin_46, r_World_begin_49, r_World_begin_50, r_World_begin_51, r_World_begin_54, r_World_begin_55, r_World_begin_56, r_World_begin_59, r_World_begin_60, r_World_begin_61, r_World_begin_62, r_World_begin_64, r_World_begin_67, r_World_begin_68, r_World_begin_71, r_World_begin_72, r_World_begin_73, r_World_begin_74, r_World_begin_77, r_World_begin_80, r_World_begin_83, r_World_begin_84, r_World_begin_85, r_World_begin_86, r_World_begin_88, r_World_begin_91, r_World_begin_92, r_World_begin_93, r_World_begin_96, r_World_begin_97, r_World_begin_98, r_World_begin_101, r_World_begin_104, r_World_begin_107, sv_k hS, sv_0 hS, sv_1 hS, sv_k1 hS, sv_n hS, sv_2 hS, sv_k2 hS, sv_b, sv_4, sv_5 hS, sv_k7 hS, sv_r hS, sv_kr hS, sv_7 hS, sv_k8 hS, sv_10 hS, sv_k9 hS, sv_11 hS, sv_k10 hS, sn_k hS, sn_4 hS, sn_k1 hS, sn_6 hS, sn_k2 hS, sn_24 hS, sn_k3 hS, sn_9 hS, sn_k4 hS, sn_13 hS, sn_k5 hS, sn_14 hS, sn_k6 hS, sn_15 hS, sn_k7 hS, sl_k hS, sl_2 hS, sl_k4 hS, sl_3 hS, sl_k5 hS, sl_4 hS, sl_k6 hS, sl_5 hS, sl_k7 hS, hM_cN, set_cN, cpy_cN, I_val, I_add, I_sub, I_mul, inB, beq_iff_eq, or_false, false_or, Bool.or_eq_true, Bool.or_false, Bool.false_or, bI_z, mnJ, mxJ, sa]
  refine kK _ _ _ _ (LB1 (by omega) hw hS 7 0 _ (by omega) (by omega) ?_)
  have hF : ∀ m, 0 ≤ m → m ≤ 6 → Nb (nd (tgF (fun m => c (ndA w m 0) 10) 7 0 (fdF (fd0 S) v 7)) m) v (c (ndA w m 0) 10) := by
    intro m m0 m1
    have e : ∀ e, 0 ≤ e → e < 244 → e ≠ 10 → nd (tgF (fun m => c (ndA w m 0) 10) 7 0 (fdF (fd0 S) v 7)) m e = if e = 0 then 1 else if e = 2 then -1 else if e = 11 then -1 else if e = 6 then v else 0 := fun e a b q => by
      rw [← fd_nd (S := S) (w := v) ⟨m0, m1⟩ ⟨a, b⟩]
      exact tg_o 7 0 _ (fun m' _ _ => by omega)
    have e10 : nd (tgF (fun m => c (ndA w m 0) 10) 7 0 (fdF (fd0 S) v 7)) m 10 = c (ndA w m 0) 10 := tg_10 7 0 _ m0 (by omega)
    refine ⟨⟨⟨?_, ?_⟩, ?_, ?_⟩, ⟨⟨?_, ?_⟩, ?_, ?_⟩, ⟨⟨?_, ?_⟩, e10, ?_⟩, ⟨?_, ?_⟩, ?_, fun k a b => ?_⟩
    all_goals (rw [e _ (by omega) (by omega) (by omega)]; first | rfl | simp | skip)
    rw [if_neg (by omega), if_neg (by omega), if_neg (by omega), if_neg (by omega)]
  have hhi : ∀ j, 1708 ≤ j → j < 11138 → tgF (fun m => c (ndA w m 0) 10) 7 0 (fdF (fd0 S) v 7) j = fdF (fd0 S) v 7 j := fun j a b => tg_o 7 0 _ (fun m' _ _ => by omega)
  have hx' : tgF (fun m => c (ndA w m 0) 10) 7 0 (fdF (fd0 S) v 7) 11132 = c w 13 := by
    rw [hhi _ (by omega) (by omega), ← hx]
    unfold fdF
    rw [if_neg (by omega)]
    unfold fd0; exact u1_same
  have hi : ∀ j, 1708 ≤ j → j < 11138 → j ≠ 11132 → tgF (fun m => c (ndA w m 0) 10) 7 0 (fdF (fd0 S) v 7) j = 0 := fun j a b q => by rw [hhi j a b]; exact fd_hi ⟨a, b⟩ q
  have e := wb_mk h0 hF hx' hi
  have oF := OK_tg ht 7 0 _ (by omega) (by omega) (OK_fd0 hv hx2 hs)
  have eT : tfF (lwR r) 7 0 (tgF (fun m => c (ndA w m 0) 10) 7 0 (fdF (fd0 S) v 7)) = fdS (lwR r) S v := TE_tf 7 0 _ _ (by omega) (by omega) (fun j hj => tg_o 7 0 _ (fun m a b => hj m a (by omega)))
  have h33 := hi 11133 (by omega) (by omega) (by omega)
  generalize tgF (fun m => c (ndA w m 0) 10) 7 0 (fdF (fd0 S) v 7) = F at *
  have fr : ∀ a, a < w ∨ w + 67 ≤ a ∨ (w < a ∧ a < w + 8) → nbI w v 7 0 (wbC c w) a = c a := by
    intro a ha
    funext k
    rw [nbI_o 7 0 _ (fun m p m0 m1 q => by unfold ndA; omega)]
    have a1 : a ≠ w := by omega
    have a2 : a ≠ w + 8 := by omega
    have a3 : a ≠ w + 9 := by omega
    have a4 : a ≠ w + 10 := by omega
    simp [wbC, up, fl, a1, a2, a3, a4]
  have hin := hS.2.1.2.1
  have f : FrM s w c (nbI w v 7 0 (wbC c w)) := fun a q q6 q7 => fr a (by rcases hin with z | ⟨j, _, z⟩ <;> omega)
  have hL' := CLw_c hL (fr 3 (by omega)) (fr 4 (by omega)) (fr 5 (by omega))
  show G l V mi_World_begin (rm d) 0 0 _ 0 0 85 _ _ (mkH s (jn (nbI w v 7 0 (wbC c w)) r))
  rw [← e]
  exact LB2 (by omega) hw hS (g0 := c) 7 0 _ _ (by omega) (by omega) oF hL' ⟨fun m m0 m1 => by omega, fun o ho' => by
    have b := MO_in ho' (i := 0) (by omega)
    have b2 := MO_off ho' (i := 0) (by omega)
    rw [Nat.add_zero] at b b2
    unfold offW at b2
    rw [fr o (by rcases ho' with z | ⟨j, _, z⟩ <;> omega)]
    exact hbg o ho'⟩ f eT
end CS
