/-! it leads -/
def ldF (S : qN) (n k : Int) : qN := fun j => if 244 * n + 31 ≤ j ∧ j < 244 * n + 31 + k then nd S n 4 + nd S n 8 + 1 else if (244 * n + 38 ≤ j ∧ j < 244 * n + 38 + k) ∨ (244 * n + 45 ≤ j ∧ j < 244 * n + 45 + k) then 0 else S j
def crS (S : qN) (n : Int) : qN :=
  if S (10028 + nd S n 1) = 0 then u1 S (10028 + nd S n 1) (n + 1)
  else if S (10028 + nd S n 1) = n + 1 then S else u1 S 11136 (S 11136 + 1)
def ld5 (S : qN) (n : Int) : qN := u1 (u1 (ldF (u1 (u1 S (244 * n + 3) 2) (244 * n + 11) n) n 7) (244 * n + 14) 0) (244 * n + 13) 1
noncomputable def ldS (L : qL) (S : qN) (n : Int) : qN := lbS L (lyS (ld5 (crS S n) n) n (nd S n 1) 2 0 0) n
theorem ldF_0 {S : qN} {n : Int} : ldF S n 0 = S := by
  funext j; unfold ldF; rw [if_neg (by omega), if_neg (by omega)]
theorem ldF_nd {S : qN} {n k e : Int} (he : e < 31 ∨ 52 ≤ e) (hk : 0 ≤ k ∧ k ≤ 7) : nd (ldF S n k) n e = nd S n e := by
  unfold nd ldF; rw [if_neg (by omega), if_neg (by omega)]
theorem ldF_s {S : qN} {n k : Int} (hk : 0 ≤ k ∧ k < 7) : u1 (u1 (u1 (ldF S n k) (244 * n + (31 + k)) (nd S n 4 + nd S n 8 + 1)) (244 * n + (38 + k)) 0) (244 * n + (45 + k)) 0 = ldF S n (k + 1) := by
  funext j
  unfold u1 ldF
  by_cases h1 : j = 244 * n + (45 + k)
  · rw [if_pos h1, if_neg (by omega), if_pos (by omega)]
  · rw [if_neg h1]
    by_cases h2 : j = 244 * n + (38 + k)
    · rw [if_pos h2, if_neg (by omega), if_pos (by omega)]
    · rw [if_neg h2]
      by_cases h3 : j = 244 * n + (31 + k)
      · rw [if_pos h3, if_pos (by omega)]
      · rw [if_neg h3]
        by_cases h4 : 244 * n + 31 ≤ j ∧ j < 244 * n + 31 + k
        · rw [if_pos h4, if_pos (by omega)]
        · rw [if_neg h4]
          by_cases h5 : (244 * n + 38 ≤ j ∧ j < 244 * n + 38 + k) ∨ (244 * n + 45 ≤ j ∧ j < 244 * n + 45 + k)
          · rw [if_pos h5, if_neg (by omega), if_pos (by omega)]
          · rw [if_neg h5, if_neg (by omega), if_neg (by omega)]
theorem smS_ldF {S : qN} {n k : Int} (h : smS S) (hn : 0 ≤ n ∧ n ≤ 6) (hb : 0 ≤ nd S n 4 + nd S n 8 ∧ nd S n 4 + nd S n 8 ≤ 999) : smS (ldF S n k) := by
  intro j hj
  unfold ldF; split
  · omega
  · split
    · omega
    · exact h j hj
section OKs
variable {R : Int} {S : qN} {n : Int} {L : qL}
theorem OK_lead1 (h : OK R S) {t v : Int} (ht : 0 ≤ t ∧ t ≤ 999) (hv : 0 ≤ v ∧ v ≤ 7) : OK R (u1 S (10028 + t) v) := by
  have g := OK_g h
  obtain ⟨⟨a1, a2⟩, b, c, d, -, f1, f2, f3⟩ := h
  have e : ∀ j, j ≠ 10028 + t → u1 S (10028 + t) v j = S j := fun j hj => u1_ne hj
  refine ⟨⟨smS_u1 a1 (by omega) (by omega), a2⟩, fun m m1 m2 => NOK_c (fun e' e1 e2 => e _ (by omega)) (b m m1 m2), fun m m1 m2 => ?_, fun m m1 m2 => ?_, ?_, fun m m1 m2 => ?_, fun m m1 m2 => ?_, fun m m1 m2 => ?_⟩
  · have := g.2.2.1
    rw [e _ (by omega)] at m2
    exact MOK_c (fun e' e1 e2 _ => e _ (by omega)) (c m m1 m2)
  · have := g.2.2.2.2.1
    rw [e _ (by omega)] at m2
    exact ROK_c (fun e' e1 e2 => e _ (by omega)) (d m m1 m2)
  · unfold GOK; rw [e 11131 (by omega), e 11132 (by omega), e 11133 (by omega), e 11134 (by omega), e 11135 (by omega), e 11137 (by omega)]; exact g
  · rw [e _ (by omega)]; exact f1 m m1 m2
  · rw [e _ (by omega)]
    exact (f2 m m1 m2).imp id (fun q => (EOK_c (fun i i1 i2 => e _ (by omega))).mpr q)
  · unfold u1; split
    · exact hv
    · exact f3 m m1 m2
theorem OK_cr (h : OK R S) (hn : 0 ≤ n ∧ n ≤ 6) : OK R (crS S n) := by
  have ht := (OK_n h hn).1.2.1
  unfold crS; split
  · exact OK_lead1 h ht (by omega)
  · split
    · exact h
    · exact OK_br h
theorem cr_nd {m e : Int} (h : OK R S) (hn : 0 ≤ n ∧ n ≤ 6) (hm : 0 ≤ m ∧ m ≤ 6) (he : 0 ≤ e ∧ e < 244) : nd (crS S n) m e = nd S m e := by
  have ht := (OK_n h hn).1.2.1
  unfold nd at *
  unfold crS nd; split
  · exact u1_ne (by omega)
  · split
    · rfl
    · exact u1_ne (by omega)
theorem ld5_e {e : Int} (he : 0 ≤ e ∧ e < 244) : nd (ld5 S n) n e = if e = 3 then 2 else if e = 11 then n else if e = 14 then 0 else if e = 13 then 1 else if 31 ≤ e ∧ e < 38 then nd S n 4 + nd S n 8 + 1 else if 38 ≤ e ∧ e < 52 then 0 else nd S n e := by
  unfold ld5
  have a4 : nd (u1 (u1 S (244 * n + 3) 2) (244 * n + 11) n) n 4 = nd S n 4 := by rw [nd_u1 (by omega), nd_u1 (by omega)]
  have a8 : nd (u1 (u1 S (244 * n + 3) 2) (244 * n + 11) n) n 8 = nd S n 8 := by rw [nd_u1 (by omega), nd_u1 (by omega)]
  unfold ldF
  rw [a4, a8]
  unfold nd u1
  by_cases h3 : e = 3
  · subst h3; simp (disch := omega) only [if_neg, if_pos]
  by_cases h11 : e = 11
  · subst h11; simp (disch := omega) only [if_neg, if_pos]
  by_cases h14 : e = 14
  · subst h14; simp (disch := omega) only [if_neg, if_pos]
  by_cases h13 : e = 13
  · subst h13; simp (disch := omega) only [if_neg, if_pos]
  by_cases h31 : 31 ≤ e ∧ e < 38
  · simp (disch := omega) only [if_neg, if_pos]
  by_cases h38 : 38 ≤ e ∧ e < 52
  · simp (disch := omega) only [if_neg, if_pos]
  simp (disch := omega) only [if_neg]
theorem ld5_off {j : Int} (hj : j < 244 * n ∨ 244 * n + 244 ≤ j) : ld5 S n j = S j := by
  unfold ld5 ldF
  rw [u1_ne (by omega), u1_ne (by omega), if_neg (by omega), if_neg (by omega), u1_ne (by omega), u1_ne (by omega)]
theorem ld5_lg : lgEq S (ld5 S n) n := fun e he => by
  rw [ld5_e (by omega), if_neg (by omega), if_neg (by omega), if_neg (by omega), if_neg (by omega), if_neg (by omega), if_neg (by omega)]
theorem OK_ld5 (h : OK R S) (hn : 0 ≤ n ∧ n ≤ 6) (ht : 1 ≤ nd S n 1) : OK R (ld5 S n) := by
  have hR := OK_R h
  have hm := OK_sm h
  have hB := (OK_n h hn).2.1.1
  have hsm : smS (ld5 S n) := by
    unfold ld5
    refine smS_u1 (smS_u1 (smS_ldF (smS_u1 (smS_u1 hm (by omega) (by omega)) (by omega) (by omega)) hn ?_) (by omega) (by omega)) (by omega) (by omega)
    rw [nd_u1 (by omega), nd_u1 (by omega), nd_u1 (by omega), nd_u1 (by omega)]; omega
  obtain ⟨A, B, C, ⟨d1, d2, d3, d4⟩, e1, e2⟩ := OK_n h hn
  refine OK_off h hn (fun j hj => ld5_off hj) ?_ hsm
  have v : ∀ e, 0 ≤ e → e < 244 → e ≠ 3 → e ≠ 11 → e ≠ 14 → e ≠ 13 → (e < 31 ∨ 52 ≤ e) → nd (ld5 S n) n e = nd S n e := by
    intro e x1 x2 x3 x4 x5 x6 x7
    rw [ld5_e ⟨x1, x2⟩, if_neg x3, if_neg x4, if_neg x5, if_neg x6, if_neg (by omega), if_neg (by omega)]
  have v3 : nd (ld5 S n) n 3 = 2 := by rw [ld5_e (by omega), if_pos rfl]
  have v11 : nd (ld5 S n) n 11 = n := by rw [ld5_e (by omega), if_neg (by omega), if_pos rfl]
  have v14 : nd (ld5 S n) n 14 = 0 := by rw [ld5_e (by omega), if_neg (by omega), if_neg (by omega), if_pos rfl]
  have v13 : nd (ld5 S n) n 13 = 1 := by rw [ld5_e (by omega), if_neg (by omega), if_neg (by omega), if_neg (by omega), if_pos rfl]
  have v31 : ∀ e, 31 ≤ e → e < 38 → nd (ld5 S n) n e = nd S n 4 + nd S n 8 + 1 := by
    intro e x1 x2
    rw [ld5_e (by omega), if_neg (by omega), if_neg (by omega), if_neg (by omega), if_neg (by omega), if_pos (by omega)]
  have v38 : ∀ e, 38 ≤ e → e < 52 → nd (ld5 S n) n e = 0 := by
    intro e x1 x2
    rw [ld5_e (by omega), if_neg (by omega), if_neg (by omega), if_neg (by omega), if_neg (by omega), if_neg (by omega), if_pos (by omega)]
  refine ⟨?_, ?_, ?_, ⟨fun k k1 k2 => ?_, fun k k1 k2 => ?_, fun k k1 k2 => ?_, fun k k1 k2 => ?_⟩, fun k k1 k2 => ?_, ?_⟩
  · unfold NOKa; rw [v3, v 0 (by omega) (by omega) (by omega) (by omega) (by omega) (by omega) (by omega), v 1 (by omega) (by omega) (by omega) (by omega) (by omega) (by omega) (by omega), v 2 (by omega) (by omega) (by omega) (by omega) (by omega) (by omega) (by omega)]
    exact ⟨A.1, A.2.1, A.2.2.1, by omega⟩
  · unfold NOKb
    rw [v 4 (by omega) (by omega) (by omega) (by omega) (by omega) (by omega) (by omega), v 5 (by omega) (by omega) (by omega) (by omega) (by omega) (by omega) (by omega), v 6 (by omega) (by omega) (by omega) (by omega) (by omega) (by omega) (by omega), v 7 (by omega) (by omega) (by omega) (by omega) (by omega) (by omega) (by omega), v 8 (by omega) (by omega) (by omega) (by omega) (by omega) (by omega) (by omega), v 9 (by omega) (by omega) (by omega) (by omega) (by omega) (by omega) (by omega)]
    exact B
  · unfold NOKc
    rw [v11, v14, v13, v 10 (by omega) (by omega) (by omega) (by omega) (by omega) (by omega) (by omega), v 12 (by omega) (by omega) (by omega) (by omega) (by omega) (by omega) (by omega)]
    exact ⟨C.1, by omega, C.2.2.1, by omega, by omega⟩
  · rw [v k (by omega) (by omega) (by omega) (by omega) (by omega) (by omega) (by omega)]; exact d1 k k1 k2
  · rw [v31 k k1 k2]; omega
  · rw [v38 k (by omega) (by omega)]; omega
  · rw [v38 k (by omega) (by omega)]; omega
  · rw [v 8 (by omega) (by omega) (by omega) (by omega) (by omega) (by omega) (by omega)] at k2
    exact (EOK_c (fun i i1 i2 => v _ (by omega) (by omega) (by omega) (by omega) (by omega) (by omega) (by omega))).mpr (e1 k k1 k2)
  · refine ⟨fun q k k1 k2 => by rw [v31 k k1 k2]; omega, fun _ => ?_⟩
    rw [v 1 (by omega) (by omega) (by omega) (by omega) (by omega) (by omega) (by omega)]; exact ht
theorem OK_ld6 (h : OK R S) (hn : 0 ≤ n ∧ n ≤ 6) (ht : 1 ≤ nd S n 1) : OK R (lyS (ld5 (crS S n) n) n (nd S n 1) 2 0 0) ∧ nd (lyS (ld5 (crS S n) n) n (nd S n 1) 2 0 0) n 1 = nd S n 1 := by
  have h1 := OK_ld5 (OK_cr h hn) hn (by rw [cr_nd h hn hn (by omega)]; exact ht)
  have h2 := (OK_n h hn).1.2.1
  refine ⟨OK_ly h1 hn (by unfold eT; omega), ?_⟩
  rw [ly_nd h1 hn (by omega), ld5_e (by omega)]
  simp only [show ¬ (1 : Int) = 3 by omega, show ¬ (1 : Int) = 11 by omega, show ¬ (1 : Int) = 14 by omega, show ¬ (1 : Int) = 13 by omega, show ¬ (31 ≤ (1 : Int) ∧ (1 : Int) < 38) by omega, show ¬ (38 ≤ (1 : Int) ∧ (1 : Int) < 52) by omega, if_false]
  exact cr_nd h hn hn (by omega)
theorem OK_ld (h : OK R S) (hn : 0 ≤ n ∧ n ≤ 6) (hl : LwOK L) (ht : 1 ≤ nd S n 1) : OK R (ldS L S n) := by
  obtain ⟨a, b⟩ := OK_ld6 h hn ht
  exact OK_lb a hn hl (by rw [b]; exact ht)
end OKs
section MS
variable {l : Launch} {V : qV} {d : Nat} {s : qS} {c r r0 : qI} {R n : Int} {Q : Option Value → qH → Prop}
theorem L_leads (hd : 5 ≤ d) (hs : ShMs s) {S : qN} {t : Int} (hn : 0 ≤ n ∧ n ≤ 6) (hm : smS S) (hb : (0 ≤ nd S n 4 ∧ 0 ≤ nd S n 8) ∧ nd S n 4 + nd S n 8 ≤ 999) : ∀ (j : Nat) (k : Int), k + j = 7 → 0 ≤ k →
    (∀ x3, G l V mi_M_leads (rm d) 0 0 Q 0 0 131 [.ref 2198, .int (Int32.ofInt n), .int (Int32.ofInt t), x3] [] (mkH s (jn c (uA r 2199 (ldF S n 7))))) →
    G l V mi_M_leads (rm d) 0 0 Q 0 0 83 [.ref 2198, .int (Int32.ofInt n), .int (Int32.ofInt t), .int (Int32.ofInt k)] [] (mkH s (jn c (uA r 2199 (ldF S n k)))) := by
  intro j
  induction j with
  | zero =>
    intro k hk k0 w
    have e : k = 7 := by omega
    subst e
    refine G_ev ok_M_leads (smE_ok (d := d - 1) (by omega)) (fun pc => pc == 83 || pc == 131) 200 (by omega) (fun K kK => ?_)
    simp (disch := omega) only [ev_s, evN_ap, List.getElem?_cons_zero, List.getElem?_cons_succ, List.set_cons_zero, List.set_cons_succ, Bool.false_eq_true, ↓reduceIte, qrest_n, qrest_1, qrest_2, qrest_3, qrest_4, qrest_5, qrest_6, qtr_i, qtr_r, true_and, and_true, List.length_cons, List.length_nil, Int.cast_ofNat_Int, Int32.toInt_zero, false_implies, true_implies, not_false_eq_true, not_true_eq_false, Option.toList_some, Option.toList_none, List.cons_append, List.nil_append, Nat.reduceBEq, Nat.reduceEqDiff, Bool.or_self, or_self, Nat.reduceAdd, Nat.reduceLT, Nat.zero_add, Int.reduceAdd, Int.reduceLE, Int.reduceLT, Int.reduceEq, and_self, Int.reduceNeg, qrok_i, qrok_b0, qrok_b1, qrok_bI, Option.some.injEq, Value.int.injEq, J_bI0, J_bI1, Classical.not_not, Int.zero_add, Int.add_zero, Int.sub_zero, false_and, and_false, and_true, true_and, e_0, v_0, e_1, v_1, e_2, v_2, e_3, v_3, e_5, v_5, e_6, v_6, e_11, v_11, e_13, v_13, e_14, v_14, e_15, v_15, e_20, v_20, e_24, v_24, e_25, v_25, e_41, e_44, qspl_z, qspl_s, evC_s, evD_none, evD_v, evD_s, c_0, c_1, c_3, b_0, smE_176, sw_M_the, smE_177, sw_M_sets, smE_180, sw_M_lastOf, (smE_no (k := 192) rfl), (smE_no (k := 236) rfl), smE_237, sw_M_breaks, r_M_leads_0, r_M_leads_1, r_M_leads_2, r_M_leads_3, r_M_leads_6, r_M_leads_7, r_M_leads_8, r_M_leads_11, r_M_leads_14, r_M_leads_15, r_M_leads_16, r_M_leads_17, r_M_leads_20, r_M_leads_21, r_M_leads_24, r_M_leads_27, r_M_leads_28, r_M_leads_29, r_M_leads_30, r_M_leads_31, r_M_leads_32, r_M_leads_33, r_M_leads_36, r_M_leads_37, r_M_leads_40, r_M_leads_41, r_M_leads_44, r_M_leads_47, r_M_leads_48, r_M_leads_49, r_M_leads_50, r_M_leads_53, r_M_leads_54, r_M_leads_57, r_M_leads_60, r_M_leads_61, r_M_leads_62, r_M_leads_63, r_M_leads_64, r_M_leads_65, r_M_leads_66, r_M_leads_67, r_M_leads_68, r_M_leads_69, r_M_leads_70, r_M_leads_73, r_M_leads_74, r_M_leads_75, r_M_leads_77, r_M_leads_78, r_M_leads_81, r_M_leads_82, r_M_leads_83, r_M_leads_84, r_M_leads_86, r_M_leads_89, r_M_leads_90, r_M_leads_91, r_M_leads_93, r_M_leads_94, r_M_leads_95, r_M_leads_96, r_M_leads_97, r_M_leads_100, r_M_leads_101, r_M_leads_102, r_M_leads_105, r_M_leads_106, r_M_leads_107, r_M_leads_109, r_M_leads_110, r_M_leads_111, r_M_leads_112, r_M_leads_115, r_M_leads_116, r_M_leads_117, r_M_leads_119, r_M_leads_120, r_M_leads_121, r_M_leads_122, r_M_leads_125, r_M_leads_128, r_M_leads_131, r_M_leads_132, r_M_leads_133, r_M_leads_135, r_M_leads_136, r_M_leads_139, r_M_leads_140, r_M_leads_141, r_M_leads_143, r_M_leads_144, r_M_leads_147, r_M_leads_148, r_M_leads_149, r_M_leads_150, r_M_leads_151, r_M_leads_152, r_M_leads_153, r_M_leads_156, r_M_leads_157, r_M_leads_158, r_M_leads_159, r_M_leads_162, (shS_o hs), (shS_r_now hs), (shS_k_now hs), nA_mk, lpI_mk, mnI_I, mxI_I, I_val, I_add, I_sub, I_mul, ShM_mk, hs, ndB_I, hM_jr, inB, smv hm, smn hm, bI_z, Bool.or_eq_true, Bool.or_false, Bool.false_or, beq_iff_eq, or_false, false_or, set_jA, uA_uA, uA_same, uA_ne, u1_ne, u1_same, nd_u1, nd_u1s, lpS_u1]
    exact kK _ _ _ _ (w _)
  | succ j ih =>
    intro k hk k0 w
    have ih := ih (k + 1) (by omega) (by omega) w
    have hm := smS_ldF (k := k) hm hn (by omega)
    have a4 : nd (ldF S n k) n 4 = nd S n 4 := ldF_nd (by omega) (by omega)
    have a8 : nd (ldF S n k) n 8 = nd S n 8 := ldF_nd (by omega) (by omega)
    rw [← ldF_s (by omega)] at ih
    refine G_ev ok_M_leads (smE_ok (d := d - 1) (by omega)) (fun pc => pc == 83 || pc == 131) 200 (by omega) (fun K kK => ?_)
    simp (disch := omega) only [ev_s, evN_ap, List.getElem?_cons_zero, List.getElem?_cons_succ, List.set_cons_zero, List.set_cons_succ, Bool.false_eq_true, ↓reduceIte, qrest_n, qrest_1, qrest_2, qrest_3, qrest_4, qrest_5, qrest_6, qtr_i, qtr_r, true_and, and_true, List.length_cons, List.length_nil, Int.cast_ofNat_Int, Int32.toInt_zero, false_implies, true_implies, not_false_eq_true, not_true_eq_false, Option.toList_some, Option.toList_none, List.cons_append, List.nil_append, Nat.reduceBEq, Nat.reduceEqDiff, Bool.or_self, or_self, Nat.reduceAdd, Nat.reduceLT, Nat.zero_add, Int.reduceAdd, Int.reduceLE, Int.reduceLT, Int.reduceEq, and_self, Int.reduceNeg, qrok_i, qrok_b0, qrok_b1, qrok_bI, Option.some.injEq, Value.int.injEq, J_bI0, J_bI1, Classical.not_not, Int.zero_add, Int.add_zero, Int.sub_zero, false_and, and_false, and_true, true_and, e_0, v_0, e_1, v_1, e_2, v_2, e_3, v_3, e_5, v_5, e_6, v_6, e_11, v_11, e_13, v_13, e_14, v_14, e_15, v_15, e_20, v_20, e_24, v_24, e_25, v_25, e_41, e_44, qspl_z, qspl_s, evC_s, evD_none, evD_v, evD_s, c_0, c_1, c_3, b_0, smE_176, sw_M_the, smE_177, sw_M_sets, smE_180, sw_M_lastOf, (smE_no (k := 192) rfl), (smE_no (k := 236) rfl), smE_237, sw_M_breaks, r_M_leads_0, r_M_leads_1, r_M_leads_2, r_M_leads_3, r_M_leads_6, r_M_leads_7, r_M_leads_8, r_M_leads_11, r_M_leads_14, r_M_leads_15, r_M_leads_16, r_M_leads_17, r_M_leads_20, r_M_leads_21, r_M_leads_24, r_M_leads_27, r_M_leads_28, r_M_leads_29, r_M_leads_30, r_M_leads_31, r_M_leads_32, r_M_leads_33, r_M_leads_36, r_M_leads_37, r_M_leads_40, r_M_leads_41, r_M_leads_44, r_M_leads_47, r_M_leads_48, r_M_leads_49, r_M_leads_50, r_M_leads_53, r_M_leads_54, r_M_leads_57, r_M_leads_60, r_M_leads_61, r_M_leads_62, r_M_leads_63, r_M_leads_64, r_M_leads_65, r_M_leads_66, r_M_leads_67, r_M_leads_68, r_M_leads_69, r_M_leads_70, r_M_leads_73, r_M_leads_74, r_M_leads_75, r_M_leads_77, r_M_leads_78, r_M_leads_81, r_M_leads_82, r_M_leads_83, r_M_leads_84, r_M_leads_86, r_M_leads_89, r_M_leads_90, r_M_leads_91, r_M_leads_93, r_M_leads_94, r_M_leads_95, r_M_leads_96, r_M_leads_97, r_M_leads_100, r_M_leads_101, r_M_leads_102, r_M_leads_105, r_M_leads_106, r_M_leads_107, r_M_leads_109, r_M_leads_110, r_M_leads_111, r_M_leads_112, r_M_leads_115, r_M_leads_116, r_M_leads_117, r_M_leads_119, r_M_leads_120, r_M_leads_121, r_M_leads_122, r_M_leads_125, r_M_leads_128, r_M_leads_131, r_M_leads_132, r_M_leads_133, r_M_leads_135, r_M_leads_136, r_M_leads_139, r_M_leads_140, r_M_leads_141, r_M_leads_143, r_M_leads_144, r_M_leads_147, r_M_leads_148, r_M_leads_149, r_M_leads_150, r_M_leads_151, r_M_leads_152, r_M_leads_153, r_M_leads_156, r_M_leads_157, r_M_leads_158, r_M_leads_159, r_M_leads_162, (shS_o hs), (shS_r_now hs), (shS_k_now hs), nA_mk, lpI_mk, mnI_I, mxI_I, I_val, I_add, I_sub, I_mul, ShM_mk, hs, ndB_I, hM_jr, inB, smv hm, smn hm, bI_z, Bool.or_eq_true, Bool.or_false, Bool.false_or, beq_iff_eq, or_false, false_or, set_jA, uA_uA, uA_same, uA_ne, u1_ne, u1_same, nd_u1, nd_u1s, lpS_u1, a4, a8]
    repeat' (first | with_reducible apply And.intro | intro _)
    all_goals first | assumption | contradiction | (exact kK _ _ _ _ ih) | (exact ih) | (clear kK; omega)
theorem L_leads66 (hd : 17 ≤ d) (hs : ShMs s) (hn : 0 ≤ n ∧ n ≤ 6) (hL : LOK r0) (hx : Rx r0 r) {S0 : qN} (hS : r 2199 = crS S0 n) (h : OK R S0) (ht : 1 ≤ nd S0 n 1) :
    G l V mi_M_leads (rm d) 0 0 (fun v' h' => v' = none ∧ ∃ r', h' = mkH s (jn c r') ∧ r' 2199 = ldS (lwR r0) S0 n ∧ Rx r0 r') 0 0 66 [.ref 2198, .int (Int32.ofInt n), .int (Int32.ofInt (nd S0 n 1)), .retAddr 0] [] (mkH s (jn c r)) := by
  have ho := OK_cr h hn
  rw [← hS] at ho
  have hm := OK_sm ho
  have hb := (OK_n ho hn).2.1.1
  have b4 : nd (u1 (u1 (r 2199) (244 * n + 3) 2) (244 * n + 11) n) n 4 = nd (r 2199) n 4 := by rw [nd_u1 (by omega), nd_u1 (by omega)]
  have b8 : nd (u1 (u1 (r 2199) (244 * n + 3) 2) (244 * n + 11) n) n 8 = nd (r 2199) n 8 := by rw [nd_u1 (by omega), nd_u1 (by omega)]
  have hm2 : smS (u1 (u1 (r 2199) (244 * n + 3) 2) (244 * n + 11) n) := smS_u1 (smS_u1 hm (by omega) (by omega)) (by omega) (by omega)
  refine G_ev ok_M_leads (smE_ok (d := d - 1) (by omega)) (fun pc => pc == 66 || pc == 83) 200 (by omega) (fun K kK => ?_)
  simp (disch := omega) only [ev_s, evN_ap, List.getElem?_cons_zero, List.getElem?_cons_succ, List.set_cons_zero, List.set_cons_succ, Bool.false_eq_true, ↓reduceIte, qrest_n, qrest_1, qrest_2, qrest_3, qrest_4, qrest_5, qrest_6, qtr_i, qtr_r, true_and, and_true, List.length_cons, List.length_nil, Int.cast_ofNat_Int, Int32.toInt_zero, false_implies, true_implies, not_false_eq_true, not_true_eq_false, Option.toList_some, Option.toList_none, List.cons_append, List.nil_append, Nat.reduceBEq, Nat.reduceEqDiff, Bool.or_self, or_self, Nat.reduceAdd, Nat.reduceLT, Nat.zero_add, Int.reduceAdd, Int.reduceLE, Int.reduceLT, Int.reduceEq, and_self, Int.reduceNeg, qrok_i, qrok_b0, qrok_b1, qrok_bI, Option.some.injEq, Value.int.injEq, J_bI0, J_bI1, Classical.not_not, Int.zero_add, Int.add_zero, Int.sub_zero, false_and, and_false, and_true, true_and, e_0, v_0, e_1, v_1, e_2, v_2, e_3, v_3, e_5, v_5, e_6, v_6, e_11, v_11, e_13, v_13, e_14, v_14, e_15, v_15, e_20, v_20, e_24, v_24, e_25, v_25, e_41, e_44, qspl_z, qspl_s, evC_s, evD_none, evD_v, evD_s, c_0, c_1, c_3, b_0, smE_176, sw_M_the, smE_177, sw_M_sets, smE_180, sw_M_lastOf, (smE_no (k := 192) rfl), (smE_no (k := 236) rfl), smE_237, sw_M_breaks, r_M_leads_0, r_M_leads_1, r_M_leads_2, r_M_leads_3, r_M_leads_6, r_M_leads_7, r_M_leads_8, r_M_leads_11, r_M_leads_14, r_M_leads_15, r_M_leads_16, r_M_leads_17, r_M_leads_20, r_M_leads_21, r_M_leads_24, r_M_leads_27, r_M_leads_28, r_M_leads_29, r_M_leads_30, r_M_leads_31, r_M_leads_32, r_M_leads_33, r_M_leads_36, r_M_leads_37, r_M_leads_40, r_M_leads_41, r_M_leads_44, r_M_leads_47, r_M_leads_48, r_M_leads_49, r_M_leads_50, r_M_leads_53, r_M_leads_54, r_M_leads_57, r_M_leads_60, r_M_leads_61, r_M_leads_62, r_M_leads_63, r_M_leads_64, r_M_leads_65, r_M_leads_66, r_M_leads_67, r_M_leads_68, r_M_leads_69, r_M_leads_70, r_M_leads_73, r_M_leads_74, r_M_leads_75, r_M_leads_77, r_M_leads_78, r_M_leads_81, r_M_leads_82, r_M_leads_83, r_M_leads_84, r_M_leads_86, r_M_leads_89, r_M_leads_90, r_M_leads_91, r_M_leads_93, r_M_leads_94, r_M_leads_95, r_M_leads_96, r_M_leads_97, r_M_leads_100, r_M_leads_101, r_M_leads_102, r_M_leads_105, r_M_leads_106, r_M_leads_107, r_M_leads_109, r_M_leads_110, r_M_leads_111, r_M_leads_112, r_M_leads_115, r_M_leads_116, r_M_leads_117, r_M_leads_119, r_M_leads_120, r_M_leads_121, r_M_leads_122, r_M_leads_125, r_M_leads_128, r_M_leads_131, r_M_leads_132, r_M_leads_133, r_M_leads_135, r_M_leads_136, r_M_leads_139, r_M_leads_140, r_M_leads_141, r_M_leads_143, r_M_leads_144, r_M_leads_147, r_M_leads_148, r_M_leads_149, r_M_leads_150, r_M_leads_151, r_M_leads_152, r_M_leads_153, r_M_leads_156, r_M_leads_157, r_M_leads_158, r_M_leads_159, r_M_leads_162, (shS_o hs), (shS_r_now hs), (shS_k_now hs), nA_mk, lpI_mk, mnI_I, mxI_I, I_val, I_add, I_sub, I_mul, ShM_mk, hs, ndB_I, hM_jr, inB, smv hm, smn hm, bI_z, Bool.or_eq_true, Bool.or_false, Bool.false_or, beq_iff_eq, or_false, false_or, set_jA, uA_uA, uA_same, uA_ne, u1_ne, u1_same, nd_u1, nd_u1s, lpS_u1]
  repeat (refine And.intro ?_ ?_; (· first | omega | (refine ⟨?_, ?_⟩ <;> omega)))
  have g := L_leads (l := l) (V := V) (d := d) (c := c) (r := r) (Q := fun v' h' => v' = none ∧ ∃ r', h' = mkH s (jn c r') ∧ r' 2199 = ldS (lwR r0) S0 n ∧ Rx r0 r') (S := u1 (u1 (r 2199) (244 * n + 3) 2) (244 * n + 11) n) (t := nd S0 n 1) (by omega) hs hn hm2 (by rw [b4, b8]; omega) 7 0 (by omega) (by omega) ?_
  · rw [ldF_0] at g
    exact kK _ _ _ _ g
  · intro x3
    clear kK K
    have h5 := OK_ld5 (OK_cr h hn) hn (by rw [cr_nd h hn hn (by omega)]; exact ht)
    have hm5 := OK_sm h5
    have h6 := OK_ld6 h hn ht
    have hx5 : Rx r (uA r 2199 (ld5 (r 2199) n)) := Rx_2199 (fun j j1 j2 => ld5_off (by omega))
    refine G_ev ok_M_leads (smE_ok (d := d - 1) (by omega)) (fun pc => pc == 66 || pc == 83) 200 (by omega) (fun K kK => ?_)
    simp (disch := omega) only [ev_s, evN_ap, List.getElem?_cons_zero, List.getElem?_cons_succ, List.set_cons_zero, List.set_cons_succ, Bool.false_eq_true, ↓reduceIte, qrest_n, qrest_1, qrest_2, qrest_3, qrest_4, qrest_5, qrest_6, qtr_i, qtr_r, true_and, and_true, List.length_cons, List.length_nil, Int.cast_ofNat_Int, Int32.toInt_zero, false_implies, true_implies, not_false_eq_true, not_true_eq_false, Option.toList_some, Option.toList_none, List.cons_append, List.nil_append, Nat.reduceBEq, Nat.reduceEqDiff, Bool.or_self, or_self, Nat.reduceAdd, Nat.reduceLT, Nat.zero_add, Int.reduceAdd, Int.reduceLE, Int.reduceLT, Int.reduceEq, and_self, Int.reduceNeg, qrok_i, qrok_b0, qrok_b1, qrok_bI, Option.some.injEq, Value.int.injEq, J_bI0, J_bI1, Classical.not_not, Int.zero_add, Int.add_zero, Int.sub_zero, false_and, and_false, and_true, true_and, e_0, v_0, e_1, v_1, e_2, v_2, e_3, v_3, e_5, v_5, e_6, v_6, e_11, v_11, e_13, v_13, e_14, v_14, e_15, v_15, e_20, v_20, e_24, v_24, e_25, v_25, e_41, e_44, qspl_z, qspl_s, evC_s, evD_none, evD_v, evD_s, c_0, c_1, c_3, b_0, smE_176, sw_M_the, smE_177, sw_M_sets, smE_180, sw_M_lastOf, (smE_no (k := 192) rfl), (smE_no (k := 236) rfl), smE_237, sw_M_breaks, r_M_leads_0, r_M_leads_1, r_M_leads_2, r_M_leads_3, r_M_leads_6, r_M_leads_7, r_M_leads_8, r_M_leads_11, r_M_leads_14, r_M_leads_15, r_M_leads_16, r_M_leads_17, r_M_leads_20, r_M_leads_21, r_M_leads_24, r_M_leads_27, r_M_leads_28, r_M_leads_29, r_M_leads_30, r_M_leads_31, r_M_leads_32, r_M_leads_33, r_M_leads_36, r_M_leads_37, r_M_leads_40, r_M_leads_41, r_M_leads_44, r_M_leads_47, r_M_leads_48, r_M_leads_49, r_M_leads_50, r_M_leads_53, r_M_leads_54, r_M_leads_57, r_M_leads_60, r_M_leads_61, r_M_leads_62, r_M_leads_63, r_M_leads_64, r_M_leads_65, r_M_leads_66, r_M_leads_67, r_M_leads_68, r_M_leads_69, r_M_leads_70, r_M_leads_73, r_M_leads_74, r_M_leads_75, r_M_leads_77, r_M_leads_78, r_M_leads_81, r_M_leads_82, r_M_leads_83, r_M_leads_84, r_M_leads_86, r_M_leads_89, r_M_leads_90, r_M_leads_91, r_M_leads_93, r_M_leads_94, r_M_leads_95, r_M_leads_96, r_M_leads_97, r_M_leads_100, r_M_leads_101, r_M_leads_102, r_M_leads_105, r_M_leads_106, r_M_leads_107, r_M_leads_109, r_M_leads_110, r_M_leads_111, r_M_leads_112, r_M_leads_115, r_M_leads_116, r_M_leads_117, r_M_leads_119, r_M_leads_120, r_M_leads_121, r_M_leads_122, r_M_leads_125, r_M_leads_128, r_M_leads_131, r_M_leads_132, r_M_leads_133, r_M_leads_135, r_M_leads_136, r_M_leads_139, r_M_leads_140, r_M_leads_141, r_M_leads_143, r_M_leads_144, r_M_leads_147, r_M_leads_148, r_M_leads_149, r_M_leads_150, r_M_leads_151, r_M_leads_152, r_M_leads_153, r_M_leads_156, r_M_leads_157, r_M_leads_158, r_M_leads_159, r_M_leads_162, (shS_o hs), (shS_r_now hs), (shS_k_now hs), nA_mk, lpI_mk, mnI_I, mxI_I, I_val, I_add, I_sub, I_mul, ShM_mk, hs, ndB_I, hM_jr, inB, smv hm, smn hm, bI_z, Bool.or_eq_true, Bool.or_false, Bool.false_or, beq_iff_eq, or_false, false_or, set_jA, uA_uA, uA_same, uA_ne, u1_ne, u1_same, nd_u1, nd_u1s, lpS_u1]
    repeat (refine And.intro ?_ ?_; (· first | omega | (refine ⟨?_, ?_⟩ <;> omega)))
    refine kK _ _ _ _ (GCR ok_M_leads r_M_leads_153 ⟨by decide, by decide⟩ qm_M_lays (T_lays (d := d - 1) (R := R) (by omega) hs hn (by rw [uA_same, hS]; exact h5)) rfl rfl (fun _ => rcM hs) rfl (Nat.le_of_ble_eq_true rfl) (by omega) (fun r1 e1 x1 => ?_))
    refine G_ev ok_M_leads (smE_ok (d := d - 1) (by omega)) (fun pc => pc == 66 || pc == 83) 200 (by omega) (fun K kK => ?_)
    rw [uA_same, hS] at e1
    have e1 : r1 2199 = lyS (ld5 (crS S0 n) n) n (nd S0 n 1) 2 0 0 := e1
    simp (disch := omega) only [ev_s, evN_ap, List.getElem?_cons_zero, List.getElem?_cons_succ, List.set_cons_zero, List.set_cons_succ, Bool.false_eq_true, ↓reduceIte, qrest_n, qrest_1, qrest_2, qrest_3, qrest_4, qrest_5, qrest_6, qtr_i, qtr_r, true_and, and_true, List.length_cons, List.length_nil, Int.cast_ofNat_Int, Int32.toInt_zero, false_implies, true_implies, not_false_eq_true, not_true_eq_false, Option.toList_some, Option.toList_none, List.cons_append, List.nil_append, Nat.reduceBEq, Nat.reduceEqDiff, Bool.or_self, or_self, Nat.reduceAdd, Nat.reduceLT, Nat.zero_add, Int.reduceAdd, Int.reduceLE, Int.reduceLT, Int.reduceEq, and_self, Int.reduceNeg, qrok_i, qrok_b0, qrok_b1, qrok_bI, Option.some.injEq, Value.int.injEq, J_bI0, J_bI1, Classical.not_not, Int.zero_add, Int.add_zero, Int.sub_zero, false_and, and_false, and_true, true_and, e_0, v_0, e_1, v_1, e_2, v_2, e_3, v_3, e_5, v_5, e_6, v_6, e_11, v_11, e_13, v_13, e_14, v_14, e_15, v_15, e_20, v_20, e_24, v_24, e_25, v_25, e_41, e_44, qspl_z, qspl_s, evC_s, evD_none, evD_v, evD_s, c_0, c_1, c_3, b_0, smE_176, sw_M_the, smE_177, sw_M_sets, smE_180, sw_M_lastOf, (smE_no (k := 192) rfl), (smE_no (k := 236) rfl), smE_237, sw_M_breaks, r_M_leads_0, r_M_leads_1, r_M_leads_2, r_M_leads_3, r_M_leads_6, r_M_leads_7, r_M_leads_8, r_M_leads_11, r_M_leads_14, r_M_leads_15, r_M_leads_16, r_M_leads_17, r_M_leads_20, r_M_leads_21, r_M_leads_24, r_M_leads_27, r_M_leads_28, r_M_leads_29, r_M_leads_30, r_M_leads_31, r_M_leads_32, r_M_leads_33, r_M_leads_36, r_M_leads_37, r_M_leads_40, r_M_leads_41, r_M_leads_44, r_M_leads_47, r_M_leads_48, r_M_leads_49, r_M_leads_50, r_M_leads_53, r_M_leads_54, r_M_leads_57, r_M_leads_60, r_M_leads_61, r_M_leads_62, r_M_leads_63, r_M_leads_64, r_M_leads_65, r_M_leads_66, r_M_leads_67, r_M_leads_68, r_M_leads_69, r_M_leads_70, r_M_leads_73, r_M_leads_74, r_M_leads_75, r_M_leads_77, r_M_leads_78, r_M_leads_81, r_M_leads_82, r_M_leads_83, r_M_leads_84, r_M_leads_86, r_M_leads_89, r_M_leads_90, r_M_leads_91, r_M_leads_93, r_M_leads_94, r_M_leads_95, r_M_leads_96, r_M_leads_97, r_M_leads_100, r_M_leads_101, r_M_leads_102, r_M_leads_105, r_M_leads_106, r_M_leads_107, r_M_leads_109, r_M_leads_110, r_M_leads_111, r_M_leads_112, r_M_leads_115, r_M_leads_116, r_M_leads_117, r_M_leads_119, r_M_leads_120, r_M_leads_121, r_M_leads_122, r_M_leads_125, r_M_leads_128, r_M_leads_131, r_M_leads_132, r_M_leads_133, r_M_leads_135, r_M_leads_136, r_M_leads_139, r_M_leads_140, r_M_leads_141, r_M_leads_143, r_M_leads_144, r_M_leads_147, r_M_leads_148, r_M_leads_149, r_M_leads_150, r_M_leads_151, r_M_leads_152, r_M_leads_153, r_M_leads_156, r_M_leads_157, r_M_leads_158, r_M_leads_159, r_M_leads_162, (shS_o hs), (shS_r_now hs), (shS_k_now hs), nA_mk, lpI_mk, mnI_I, mxI_I, I_val, I_add, I_sub, I_mul, ShM_mk, hs, ndB_I, hM_jr, inB, smv hm, smn hm, bI_z, Bool.or_eq_true, Bool.or_false, Bool.false_or, beq_iff_eq, or_false, false_or, set_jA, uA_uA, uA_same, uA_ne, u1_ne, u1_same, nd_u1, nd_u1s, lpS_u1]
    refine kK _ _ _ _ (GCR ok_M_leads r_M_leads_159 ⟨by decide, by decide⟩ qm_M_laidByLeader (T_M_laidByLeader (d := d - 1) (R := R) (by omega) hs hn (by rw [e1]; exact h6.1) (by rw [e1, h6.2]; exact ht) (Rx_LOK (Rx_tr (Rx_tr hx hx5) x1) hL)) rfl rfl (fun _ => rcM hs) rfl (Nat.le_of_ble_eq_true rfl) (by omega) (fun r2 e2 x2 => ?_))
    refine G_ev ok_M_leads (smE_ok (d := d - 1) (by omega)) (fun pc => pc == 66 || pc == 83) 200 (by omega) (fun K kK => ?_)
    rw [e1, Rx_lw (Rx_tr (Rx_tr hx hx5) x1) hL] at e2
    simp (disch := omega) only [ev_s, evN_ap, List.getElem?_cons_zero, List.getElem?_cons_succ, List.set_cons_zero, List.set_cons_succ, Bool.false_eq_true, ↓reduceIte, qrest_n, qrest_1, qrest_2, qrest_3, qrest_4, qrest_5, qrest_6, qtr_i, qtr_r, true_and, and_true, List.length_cons, List.length_nil, Int.cast_ofNat_Int, Int32.toInt_zero, false_implies, true_implies, not_false_eq_true, not_true_eq_false, Option.toList_some, Option.toList_none, List.cons_append, List.nil_append, Nat.reduceBEq, Nat.reduceEqDiff, Bool.or_self, or_self, Nat.reduceAdd, Nat.reduceLT, Nat.zero_add, Int.reduceAdd, Int.reduceLE, Int.reduceLT, Int.reduceEq, and_self, Int.reduceNeg, qrok_i, qrok_b0, qrok_b1, qrok_bI, Option.some.injEq, Value.int.injEq, J_bI0, J_bI1, Classical.not_not, Int.zero_add, Int.add_zero, Int.sub_zero, false_and, and_false, and_true, true_and, e_0, v_0, e_1, v_1, e_2, v_2, e_3, v_3, e_5, v_5, e_6, v_6, e_11, v_11, e_13, v_13, e_14, v_14, e_15, v_15, e_20, v_20, e_24, v_24, e_25, v_25, e_41, e_44, qspl_z, qspl_s, evC_s, evD_none, evD_v, evD_s, c_0, c_1, c_3, b_0, smE_176, sw_M_the, smE_177, sw_M_sets, smE_180, sw_M_lastOf, (smE_no (k := 192) rfl), (smE_no (k := 236) rfl), smE_237, sw_M_breaks, r_M_leads_0, r_M_leads_1, r_M_leads_2, r_M_leads_3, r_M_leads_6, r_M_leads_7, r_M_leads_8, r_M_leads_11, r_M_leads_14, r_M_leads_15, r_M_leads_16, r_M_leads_17, r_M_leads_20, r_M_leads_21, r_M_leads_24, r_M_leads_27, r_M_leads_28, r_M_leads_29, r_M_leads_30, r_M_leads_31, r_M_leads_32, r_M_leads_33, r_M_leads_36, r_M_leads_37, r_M_leads_40, r_M_leads_41, r_M_leads_44, r_M_leads_47, r_M_leads_48, r_M_leads_49, r_M_leads_50, r_M_leads_53, r_M_leads_54, r_M_leads_57, r_M_leads_60, r_M_leads_61, r_M_leads_62, r_M_leads_63, r_M_leads_64, r_M_leads_65, r_M_leads_66, r_M_leads_67, r_M_leads_68, r_M_leads_69, r_M_leads_70, r_M_leads_73, r_M_leads_74, r_M_leads_75, r_M_leads_77, r_M_leads_78, r_M_leads_81, r_M_leads_82, r_M_leads_83, r_M_leads_84, r_M_leads_86, r_M_leads_89, r_M_leads_90, r_M_leads_91, r_M_leads_93, r_M_leads_94, r_M_leads_95, r_M_leads_96, r_M_leads_97, r_M_leads_100, r_M_leads_101, r_M_leads_102, r_M_leads_105, r_M_leads_106, r_M_leads_107, r_M_leads_109, r_M_leads_110, r_M_leads_111, r_M_leads_112, r_M_leads_115, r_M_leads_116, r_M_leads_117, r_M_leads_119, r_M_leads_120, r_M_leads_121, r_M_leads_122, r_M_leads_125, r_M_leads_128, r_M_leads_131, r_M_leads_132, r_M_leads_133, r_M_leads_135, r_M_leads_136, r_M_leads_139, r_M_leads_140, r_M_leads_141, r_M_leads_143, r_M_leads_144, r_M_leads_147, r_M_leads_148, r_M_leads_149, r_M_leads_150, r_M_leads_151, r_M_leads_152, r_M_leads_153, r_M_leads_156, r_M_leads_157, r_M_leads_158, r_M_leads_159, r_M_leads_162, (shS_o hs), (shS_r_now hs), (shS_k_now hs), nA_mk, lpI_mk, mnI_I, mxI_I, I_val, I_add, I_sub, I_mul, ShM_mk, hs, ndB_I, hM_jr, inB, smv hm, smn hm, bI_z, Bool.or_eq_true, Bool.or_false, Bool.false_or, beq_iff_eq, or_false, false_or, set_jA, uA_uA, uA_same, uA_ne, u1_ne, u1_same, nd_u1, nd_u1s, lpS_u1]
    exact ⟨r2, rfl, e2, Rx_tr (Rx_tr (Rx_tr hx hx5) x1) x2⟩
set_option maxHeartbeats 2000000 in
set_option maxRecDepth 100000 in
theorem T_M_leads (hd : 17 ≤ d) (hs : ShMs s) {n : Int} (hn : 0 ≤ n ∧ n ≤ 6) (ho : OK R (r 2199)) (ht : 1 ≤ nd (r 2199) n 1) (hL : LOK r) : TR l V d mi_M_leads [.ref 2198, .int (Int32.ofInt n)] s c r none (ldS (lwR r) (r 2199) n) := by
  refine T_ev qm_M_leads [.ref 2198, .int (Int32.ofInt n), .retAddr 0, .retAddr 0] rfl rfl (Nat.le_of_ble_eq_true rfl) ok_M_leads (smE_ok (d := d - 1) (by omega)) (fun pc => pc == 66) 200 (by omega) (fun K kK => ?_)
  have hm := OK_sm ho
  have h1 := (OK_n ho hn).1.2.1
  have h2 := (OK_h ho).2.2 (nd (r 2199) n 1) h1.1 h1.2
  have g := fun (r' : qI) (h : r' 2199 = crS (r 2199) n) (hx : Rx r r') => L_leads66 (l := l) (V := V) (s := s) (c := c) (r := r') (r0 := r) (R := R) (d := d) (by omega) hs hn hL hx h ho ht
  by_cases q0 : r 2199 (10028 + nd (r 2199) n 1) = 0
  · have g0 := g (uA r 2199 (u1 (r 2199) (10028 + nd (r 2199) n 1) (n + 1))) (by rw [uA_same]; unfold crS; rw [if_pos q0]) (Rx_2199 (fun j j1 j2 => u1_ne (by omega)))
    simp (disch := omega) only [ev_s, evN_ap, List.getElem?_cons_zero, List.getElem?_cons_succ, List.set_cons_zero, List.set_cons_succ, Bool.false_eq_true, ↓reduceIte, qrest_n, qrest_1, qrest_2, qrest_3, qrest_4, qrest_5, qrest_6, qtr_i, qtr_r, true_and, and_true, List.length_cons, List.length_nil, Int.cast_ofNat_Int, Int32.toInt_zero, false_implies, true_implies, not_false_eq_true, not_true_eq_false, Option.toList_some, Option.toList_none, List.cons_append, List.nil_append, Nat.reduceBEq, Nat.reduceEqDiff, Bool.or_self, or_self, Nat.reduceAdd, Nat.reduceLT, Nat.zero_add, Int.reduceAdd, Int.reduceLE, Int.reduceLT, Int.reduceEq, and_self, Int.reduceNeg, qrok_i, qrok_b0, qrok_b1, qrok_bI, Option.some.injEq, Value.int.injEq, J_bI0, J_bI1, Classical.not_not, Int.zero_add, Int.add_zero, Int.sub_zero, false_and, and_false, and_true, true_and, e_0, v_0, e_1, v_1, e_2, v_2, e_3, v_3, e_5, v_5, e_6, v_6, e_11, v_11, e_13, v_13, e_14, v_14, e_15, v_15, e_20, v_20, e_24, v_24, e_25, v_25, e_41, e_44, qspl_z, qspl_s, evC_s, evD_none, evD_v, evD_s, c_0, c_1, c_3, b_0, smE_176, sw_M_the, smE_177, sw_M_sets, smE_180, sw_M_lastOf, (smE_no (k := 192) rfl), (smE_no (k := 236) rfl), smE_237, sw_M_breaks, r_M_leads_0, r_M_leads_1, r_M_leads_2, r_M_leads_3, r_M_leads_6, r_M_leads_7, r_M_leads_8, r_M_leads_11, r_M_leads_14, r_M_leads_15, r_M_leads_16, r_M_leads_17, r_M_leads_20, r_M_leads_21, r_M_leads_24, r_M_leads_27, r_M_leads_28, r_M_leads_29, r_M_leads_30, r_M_leads_31, r_M_leads_32, r_M_leads_33, r_M_leads_36, r_M_leads_37, r_M_leads_40, r_M_leads_41, r_M_leads_44, r_M_leads_47, r_M_leads_48, r_M_leads_49, r_M_leads_50, r_M_leads_53, r_M_leads_54, r_M_leads_57, r_M_leads_60, r_M_leads_61, r_M_leads_62, r_M_leads_63, r_M_leads_64, r_M_leads_65, r_M_leads_66, r_M_leads_67, r_M_leads_68, r_M_leads_69, r_M_leads_70, r_M_leads_73, r_M_leads_74, r_M_leads_75, r_M_leads_77, r_M_leads_78, r_M_leads_81, r_M_leads_82, r_M_leads_83, r_M_leads_84, r_M_leads_86, r_M_leads_89, r_M_leads_90, r_M_leads_91, r_M_leads_93, r_M_leads_94, r_M_leads_95, r_M_leads_96, r_M_leads_97, r_M_leads_100, r_M_leads_101, r_M_leads_102, r_M_leads_105, r_M_leads_106, r_M_leads_107, r_M_leads_109, r_M_leads_110, r_M_leads_111, r_M_leads_112, r_M_leads_115, r_M_leads_116, r_M_leads_117, r_M_leads_119, r_M_leads_120, r_M_leads_121, r_M_leads_122, r_M_leads_125, r_M_leads_128, r_M_leads_131, r_M_leads_132, r_M_leads_133, r_M_leads_135, r_M_leads_136, r_M_leads_139, r_M_leads_140, r_M_leads_141, r_M_leads_143, r_M_leads_144, r_M_leads_147, r_M_leads_148, r_M_leads_149, r_M_leads_150, r_M_leads_151, r_M_leads_152, r_M_leads_153, r_M_leads_156, r_M_leads_157, r_M_leads_158, r_M_leads_159, r_M_leads_162, (shS_o hs), (shS_r_now hs), (shS_k_now hs), nA_mk, lpI_mk, mnI_I, mxI_I, I_val, I_add, I_sub, I_mul, ShM_mk, hs, ndB_I, hM_jr, inB, smv hm, smn hm, bI_z, Bool.or_eq_true, Bool.or_false, Bool.false_or, beq_iff_eq, or_false, false_or, set_jA, uA_uA, uA_same, uA_ne, u1_ne, u1_same, nd_u1, nd_u1s, lpS_u1]
    repeat' (first | with_reducible apply And.intro | intro _)
    all_goals first | assumption | contradiction | (exact kK _ _ _ _ g0) | (exact g0) | (clear kK; omega)
  · by_cases q1 : r 2199 (10028 + nd (r 2199) n 1) = n + 1
    · have g0 := g r (by unfold crS; rw [if_neg q0, if_pos q1]) (Rx_rf r)
      simp (disch := omega) only [ev_s, evN_ap, List.getElem?_cons_zero, List.getElem?_cons_succ, List.set_cons_zero, List.set_cons_succ, Bool.false_eq_true, ↓reduceIte, qrest_n, qrest_1, qrest_2, qrest_3, qrest_4, qrest_5, qrest_6, qtr_i, qtr_r, true_and, and_true, List.length_cons, List.length_nil, Int.cast_ofNat_Int, Int32.toInt_zero, false_implies, true_implies, not_false_eq_true, not_true_eq_false, Option.toList_some, Option.toList_none, List.cons_append, List.nil_append, Nat.reduceBEq, Nat.reduceEqDiff, Bool.or_self, or_self, Nat.reduceAdd, Nat.reduceLT, Nat.zero_add, Int.reduceAdd, Int.reduceLE, Int.reduceLT, Int.reduceEq, and_self, Int.reduceNeg, qrok_i, qrok_b0, qrok_b1, qrok_bI, Option.some.injEq, Value.int.injEq, J_bI0, J_bI1, Classical.not_not, Int.zero_add, Int.add_zero, Int.sub_zero, false_and, and_false, and_true, true_and, e_0, v_0, e_1, v_1, e_2, v_2, e_3, v_3, e_5, v_5, e_6, v_6, e_11, v_11, e_13, v_13, e_14, v_14, e_15, v_15, e_20, v_20, e_24, v_24, e_25, v_25, e_41, e_44, qspl_z, qspl_s, evC_s, evD_none, evD_v, evD_s, c_0, c_1, c_3, b_0, smE_176, sw_M_the, smE_177, sw_M_sets, smE_180, sw_M_lastOf, (smE_no (k := 192) rfl), (smE_no (k := 236) rfl), smE_237, sw_M_breaks, r_M_leads_0, r_M_leads_1, r_M_leads_2, r_M_leads_3, r_M_leads_6, r_M_leads_7, r_M_leads_8, r_M_leads_11, r_M_leads_14, r_M_leads_15, r_M_leads_16, r_M_leads_17, r_M_leads_20, r_M_leads_21, r_M_leads_24, r_M_leads_27, r_M_leads_28, r_M_leads_29, r_M_leads_30, r_M_leads_31, r_M_leads_32, r_M_leads_33, r_M_leads_36, r_M_leads_37, r_M_leads_40, r_M_leads_41, r_M_leads_44, r_M_leads_47, r_M_leads_48, r_M_leads_49, r_M_leads_50, r_M_leads_53, r_M_leads_54, r_M_leads_57, r_M_leads_60, r_M_leads_61, r_M_leads_62, r_M_leads_63, r_M_leads_64, r_M_leads_65, r_M_leads_66, r_M_leads_67, r_M_leads_68, r_M_leads_69, r_M_leads_70, r_M_leads_73, r_M_leads_74, r_M_leads_75, r_M_leads_77, r_M_leads_78, r_M_leads_81, r_M_leads_82, r_M_leads_83, r_M_leads_84, r_M_leads_86, r_M_leads_89, r_M_leads_90, r_M_leads_91, r_M_leads_93, r_M_leads_94, r_M_leads_95, r_M_leads_96, r_M_leads_97, r_M_leads_100, r_M_leads_101, r_M_leads_102, r_M_leads_105, r_M_leads_106, r_M_leads_107, r_M_leads_109, r_M_leads_110, r_M_leads_111, r_M_leads_112, r_M_leads_115, r_M_leads_116, r_M_leads_117, r_M_leads_119, r_M_leads_120, r_M_leads_121, r_M_leads_122, r_M_leads_125, r_M_leads_128, r_M_leads_131, r_M_leads_132, r_M_leads_133, r_M_leads_135, r_M_leads_136, r_M_leads_139, r_M_leads_140, r_M_leads_141, r_M_leads_143, r_M_leads_144, r_M_leads_147, r_M_leads_148, r_M_leads_149, r_M_leads_150, r_M_leads_151, r_M_leads_152, r_M_leads_153, r_M_leads_156, r_M_leads_157, r_M_leads_158, r_M_leads_159, r_M_leads_162, (shS_o hs), (shS_r_now hs), (shS_k_now hs), nA_mk, lpI_mk, mnI_I, mxI_I, I_val, I_add, I_sub, I_mul, ShM_mk, hs, ndB_I, hM_jr, inB, smv hm, smn hm, bI_z, Bool.or_eq_true, Bool.or_false, Bool.false_or, beq_iff_eq, or_false, false_or, set_jA, uA_uA, uA_same, uA_ne, u1_ne, u1_same, nd_u1, nd_u1s, lpS_u1]
      repeat' (first | with_reducible apply And.intro | intro _)
      all_goals first | assumption | contradiction | (exact kK _ _ _ _ g0) | (exact g0) | (clear kK; omega)
    · have g0 := g (uA r 2199 (u1 (r 2199) 11136 (r 2199 11136 + 1))) (by rw [uA_same]; unfold crS; rw [if_neg q0, if_neg q1]) (Rx_2199 (fun j j1 j2 => u1_ne (by omega)))
      simp (disch := omega) only [ev_s, evN_ap, List.getElem?_cons_zero, List.getElem?_cons_succ, List.set_cons_zero, List.set_cons_succ, Bool.false_eq_true, ↓reduceIte, qrest_n, qrest_1, qrest_2, qrest_3, qrest_4, qrest_5, qrest_6, qtr_i, qtr_r, true_and, and_true, List.length_cons, List.length_nil, Int.cast_ofNat_Int, Int32.toInt_zero, false_implies, true_implies, not_false_eq_true, not_true_eq_false, Option.toList_some, Option.toList_none, List.cons_append, List.nil_append, Nat.reduceBEq, Nat.reduceEqDiff, Bool.or_self, or_self, Nat.reduceAdd, Nat.reduceLT, Nat.zero_add, Int.reduceAdd, Int.reduceLE, Int.reduceLT, Int.reduceEq, and_self, Int.reduceNeg, qrok_i, qrok_b0, qrok_b1, qrok_bI, Option.some.injEq, Value.int.injEq, J_bI0, J_bI1, Classical.not_not, Int.zero_add, Int.add_zero, Int.sub_zero, false_and, and_false, and_true, true_and, e_0, v_0, e_1, v_1, e_2, v_2, e_3, v_3, e_5, v_5, e_6, v_6, e_11, v_11, e_13, v_13, e_14, v_14, e_15, v_15, e_20, v_20, e_24, v_24, e_25, v_25, e_41, e_44, qspl_z, qspl_s, evC_s, evD_none, evD_v, evD_s, c_0, c_1, c_3, b_0, smE_176, sw_M_the, smE_177, sw_M_sets, smE_180, sw_M_lastOf, (smE_no (k := 192) rfl), (smE_no (k := 236) rfl), smE_237, sw_M_breaks, r_M_leads_0, r_M_leads_1, r_M_leads_2, r_M_leads_3, r_M_leads_6, r_M_leads_7, r_M_leads_8, r_M_leads_11, r_M_leads_14, r_M_leads_15, r_M_leads_16, r_M_leads_17, r_M_leads_20, r_M_leads_21, r_M_leads_24, r_M_leads_27, r_M_leads_28, r_M_leads_29, r_M_leads_30, r_M_leads_31, r_M_leads_32, r_M_leads_33, r_M_leads_36, r_M_leads_37, r_M_leads_40, r_M_leads_41, r_M_leads_44, r_M_leads_47, r_M_leads_48, r_M_leads_49, r_M_leads_50, r_M_leads_53, r_M_leads_54, r_M_leads_57, r_M_leads_60, r_M_leads_61, r_M_leads_62, r_M_leads_63, r_M_leads_64, r_M_leads_65, r_M_leads_66, r_M_leads_67, r_M_leads_68, r_M_leads_69, r_M_leads_70, r_M_leads_73, r_M_leads_74, r_M_leads_75, r_M_leads_77, r_M_leads_78, r_M_leads_81, r_M_leads_82, r_M_leads_83, r_M_leads_84, r_M_leads_86, r_M_leads_89, r_M_leads_90, r_M_leads_91, r_M_leads_93, r_M_leads_94, r_M_leads_95, r_M_leads_96, r_M_leads_97, r_M_leads_100, r_M_leads_101, r_M_leads_102, r_M_leads_105, r_M_leads_106, r_M_leads_107, r_M_leads_109, r_M_leads_110, r_M_leads_111, r_M_leads_112, r_M_leads_115, r_M_leads_116, r_M_leads_117, r_M_leads_119, r_M_leads_120, r_M_leads_121, r_M_leads_122, r_M_leads_125, r_M_leads_128, r_M_leads_131, r_M_leads_132, r_M_leads_133, r_M_leads_135, r_M_leads_136, r_M_leads_139, r_M_leads_140, r_M_leads_141, r_M_leads_143, r_M_leads_144, r_M_leads_147, r_M_leads_148, r_M_leads_149, r_M_leads_150, r_M_leads_151, r_M_leads_152, r_M_leads_153, r_M_leads_156, r_M_leads_157, r_M_leads_158, r_M_leads_159, r_M_leads_162, (shS_o hs), (shS_r_now hs), (shS_k_now hs), nA_mk, lpI_mk, mnI_I, mxI_I, I_val, I_add, I_sub, I_mul, ShM_mk, hs, ndB_I, hM_jr, inB, smv hm, smn hm, bI_z, Bool.or_eq_true, Bool.or_false, Bool.false_or, beq_iff_eq, or_false, false_or, set_jA, uA_uA, uA_same, uA_ne, u1_ne, u1_same, nd_u1, nd_u1s, lpS_u1]
      repeat' (first | with_reducible apply And.intro | intro _)
      all_goals first | assumption | contradiction | (exact kK _ _ _ _ g0) | (exact g0) | (clear kK; omega)
end MS
