/-! founded anew -/
def fdF (S : qN) (w k : Int) : qN := fun j => if 0 ≤ j ∧ j < 244 * k then (if j % 244 = 0 then 1 else if j % 244 = 2 then -1 else if j % 244 = 11 then -1 else if j % 244 = 6 then w else S j) else S j
def fd0 (S : qN) : qN := u1 (z0 S 11138) 11132 (S 11132)
noncomputable def tfF (L : qL) : Nat → Int → qN → qN
  | 0, _, S => S
  | j + 1, n, S => tfF L j (n + 1) (tmS L S n)
noncomputable def fdS (L : qL) (S : qN) (w : Int) : qN := tfF L 7 0 (fdF (fd0 S) w 7)
theorem fdF_0 {S : qN} {w : Int} : fdF S w 0 = S := by funext j; unfold fdF; rw [if_neg (by omega)]
theorem fdF_s {S : qN} {w k : Int} (hk : 0 ≤ k) : u1 (u1 (u1 (u1 (fdF S w k) (244 * k + 0) 1) (244 * k + 2) (-1)) (244 * k + 11) (-1)) (244 * k + 6) w = fdF S w (k + 1) := by
  funext j
  unfold u1 fdF
  by_cases h6 : j = 244 * k + 6
  · rw [if_pos h6, if_pos (by omega), if_neg (by omega), if_neg (by omega), if_neg (by omega), if_pos (by omega)]
  · rw [if_neg h6]
    by_cases h11 : j = 244 * k + 11
    · rw [if_pos h11, if_pos (by omega), if_neg (by omega), if_neg (by omega), if_pos (by omega)]
    · rw [if_neg h11]
      by_cases h2 : j = 244 * k + 2
      · rw [if_pos h2, if_pos (by omega), if_neg (by omega), if_pos (by omega)]
      · rw [if_neg h2]
        by_cases h0 : j = 244 * k + 0
        · rw [if_pos h0, if_pos (by omega), if_pos (by omega)]
        · rw [if_neg h0]
          by_cases hj : 0 ≤ j ∧ j < 244 * k
          · rw [if_pos hj, if_pos (show 0 ≤ j ∧ j < 244 * (k + 1) by omega)]
          · rw [if_neg hj]
            by_cases hj2 : 0 ≤ j ∧ j < 244 * (k + 1)
            · rw [if_pos hj2, if_neg (by omega), if_neg (by omega), if_neg (by omega), if_neg (by omega)]
            · rw [if_neg hj2]
section OKs
variable {R : Int} {S : qN} {n : Int} {L : qL}
theorem fd_nd {w e : Int} (hn : 0 ≤ n ∧ n ≤ 6) (he : 0 ≤ e ∧ e < 244) : nd (fdF (fd0 S) w 7) n e = if e = 0 then 1 else if e = 2 then -1 else if e = 11 then -1 else if e = 6 then w else 0 := by
  unfold nd fdF
  rw [if_pos (by omega), show (244 * n + e) % 244 = e by omega]
  have : fd0 S (244 * n + e) = 0 := by unfold fd0; rw [u1_ne (by omega)]; unfold z0; rw [if_pos (by omega)]
  rw [this]
theorem fd_hi {w j : Int} (hj : 1708 ≤ j ∧ j < 11138) (h2 : j ≠ 11132) : fdF (fd0 S) w 7 j = 0 := by
  unfold fdF
  rw [if_neg (by omega)]
  unfold fd0
  rw [u1_ne h2]
  unfold z0
  rw [if_pos (by omega)]
theorem OK_fd0 {w : Int} (hw : 0 ≤ w ∧ w ≤ 127) (hx : 0 ≤ S 11132 ∧ S 11132 ≤ 65535) (hs : smS S) : OK 1 (fdF (fd0 S) w 7) := by
  have x2 : fdF (fd0 S) w 7 11132 = S 11132 := by unfold fdF; rw [if_neg (by omega)]; unfold fd0; exact u1_same
  have v : ∀ n, 0 ≤ n ∧ n ≤ 6 → ∀ e, 0 ≤ e → e < 244 → e ≠ 0 → e ≠ 2 → e ≠ 11 → e ≠ 6 → nd (fdF (fd0 S) w 7) n e = 0 := fun n hn e e0 e1 a b c d => by rw [fd_nd hn ⟨e0, e1⟩, if_neg a, if_neg b, if_neg c, if_neg d]
  have sm : smS (fdF (fd0 S) w 7) := by
    intro j hj
    unfold fdF fd0 u1 z0
    have := hs j hj
    repeat' split
    all_goals omega
  refine ⟨⟨sm, by omega, by omega⟩, fun n n1 n2 => ?_, fun m m1 m2 => ?_, fun m m1 m2 => ?_, ?_, fun m m1 m2 => ?_, fun m m1 m2 => ?_, fun m m1 m2 => ?_⟩
  · have hn : 0 ≤ n ∧ n ≤ 6 := ⟨n1, n2⟩
    have z := v n hn
    have z0' : nd (fdF (fd0 S) w 7) n 0 = 1 := by rw [fd_nd hn (by omega), if_pos rfl]
    have z2 : nd (fdF (fd0 S) w 7) n 2 = -1 := by rw [fd_nd hn (by omega), if_neg (by omega), if_pos rfl]
    have z11 : nd (fdF (fd0 S) w 7) n 11 = -1 := by rw [fd_nd hn (by omega), if_neg (by omega), if_neg (by omega), if_pos rfl]
    have z6 : nd (fdF (fd0 S) w 7) n 6 = w := by rw [fd_nd hn (by omega), if_neg (by omega), if_neg (by omega), if_neg (by omega), if_pos rfl]
    refine ⟨?_, ?_, ?_, ⟨fun k k1 k2 => ?_, fun k k1 k2 => ?_, fun k k1 k2 => ?_, fun k k1 k2 => ?_⟩, fun k k1 k2 => ?_, ?_⟩
    · unfold NOKa; rw [z0', z2, z 1 (by omega) (by omega) (by omega) (by omega) (by omega) (by omega), z 3 (by omega) (by omega) (by omega) (by omega) (by omega) (by omega)]; omega
    · unfold NOKb; rw [z6, z 4 (by omega) (by omega) (by omega) (by omega) (by omega) (by omega), z 5 (by omega) (by omega) (by omega) (by omega) (by omega) (by omega), z 7 (by omega) (by omega) (by omega) (by omega) (by omega) (by omega), z 8 (by omega) (by omega) (by omega) (by omega) (by omega) (by omega), z 9 (by omega) (by omega) (by omega) (by omega) (by omega) (by omega)]; omega
    · unfold NOKc; rw [z11, z 10 (by omega) (by omega) (by omega) (by omega) (by omega) (by omega), z 12 (by omega) (by omega) (by omega) (by omega) (by omega) (by omega), z 13 (by omega) (by omega) (by omega) (by omega) (by omega) (by omega), z 14 (by omega) (by omega) (by omega) (by omega) (by omega) (by omega)]; omega
    · rw [z k (by omega) (by omega) (by omega) (by omega) (by omega) (by omega)]; omega
    · rw [z k (by omega) (by omega) (by omega) (by omega) (by omega) (by omega)]; omega
    · rw [z k (by omega) (by omega) (by omega) (by omega) (by omega) (by omega)]; omega
    · rw [z k (by omega) (by omega) (by omega) (by omega) (by omega) (by omega)]; omega
    · rw [z 8 (by omega) (by omega) (by omega) (by omega) (by omega) (by omega)] at k2; omega
    · unfold NOKf; rw [z 3 (by omega) (by omega) (by omega) (by omega) (by omega) (by omega)]; exact ⟨fun q => by omega, fun q => absurd rfl q⟩
  · rw [fd_hi (by omega) (by omega)] at m2; omega
  · rw [fd_hi (by omega) (by omega)] at m2; omega
  · unfold GOK; rw [x2, fd_hi (by omega) (by omega), fd_hi (by omega) (by omega), fd_hi (by omega) (by omega), fd_hi (by omega) (by omega), fd_hi (by omega) (by omega)]; omega
  · rw [fd_hi (by omega) (by omega)]; omega
  · left; exact fd_hi (by omega) (by omega)
  · rw [fd_hi (by omega) (by omega)]; omega
theorem OK_tf (hl : LwOK L) : ∀ (j : Nat) (n : Int) (S : qN), n + j = 7 → 0 ≤ n → OK R S → (∀ m, 0 ≤ m → m < n → 1 ≤ nd S m 10) → (∀ m, 0 ≤ m → m ≤ 6 → nd S m 14 ≤ 2) →
    OK R (tfF L j n S) ∧ TKs (tfF L j n S) ∧ (∀ k, 1708 ≤ k → k ≠ 11132 → tfF L j n S k = S k) ∧ (∀ m e, 0 ≤ m → m ≤ 6 → 0 ≤ e → e < 244 → e ≠ 10 → nd (tfF L j n S) m e = nd S m e)
  | 0, n, S, hj, h0, h, h1, h2 => ⟨h, fun m m1 m2 => ⟨h1 m m1 (by omega), h2 m m1 m2⟩, fun _ _ _ => rfl, fun _ _ _ _ _ _ _ => rfl⟩
  | j + 1, n, S, hj, h0, h, h1, h2 => by
    rw [tfF]
    have hn : 0 ≤ n ∧ n ≤ 6 := by omega
    obtain ⟨a, b, c, d⟩ := OK_tf hl j (n + 1) (tmS L S n) (by omega) (by omega) (OK_tm h hn hl) (fun m m1 m2 => by
      by_cases q : m = n
      · subst q; exact tm_10 hl
      · rw [tm_nd hn (by omega) (by omega) (by omega)]; exact h1 m m1 (by omega)) (fun m m1 m2 => by rw [tm_nd hn ⟨m1, m2⟩ (by omega) (by omega)]; exact h2 m m1 m2)
    refine ⟨a, b, fun k k1 k2 => ?_, fun m e m1 m2 e1 e2 e3 => ?_⟩
    · rw [c k k1 k2]; unfold tmS rnS; rw [u1_ne (by omega), u1_ne (by omega)]
    · rw [d m e m1 m2 e1 e2 e3, tm_nd hn ⟨m1, m2⟩ ⟨e1, e2⟩ (by omega)]
theorem RSt_fd {w : Int} (hw : 0 ≤ w ∧ w ≤ 127) (hx : 0 ≤ S 11132 ∧ S 11132 ≤ 65535) (hs : smS S) (hl : LwOK L) : RSt (fdS L S w) := by
  have h := OK_fd0 hw hx hs
  obtain ⟨a, b, c, d⟩ := OK_tf (R := 1) hl 7 0 _ (by omega) (by omega) h (fun m m1 m2 => by omega) (fun m m1 m2 => by rw [fd_nd ⟨m1, m2⟩ (by omega)]; simp)
  unfold fdS RSt
  rw [c 11131 (by omega) (by omega), c 11135 (by omega) (by omega), fd_hi (by omega) (by omega), fd_hi (by omega) (by omega)]
  exact ⟨a, b⟩
end OKs
/-- what a call changes of the reference but the row -/
def Rz (r r' : qI) : Prop := (∀ a, a ≠ 2199 → a ≠ 2202 → a ≠ 2203 → a ≠ 2216 → a ≠ 2217 → a ≠ 2198 → r' a = r a) ∧ (∀ k, k ≠ 29 → r' 2198 k = r 2198 k)
theorem Rz_rf (r : qI) : Rz r r := ⟨fun _ _ _ _ _ _ _ => rfl, fun _ _ => rfl⟩
theorem Rz_tr {r r' r'' : qI} (h : Rz r r') (h' : Rz r' r'') : Rz r r'' := ⟨fun a a1 a2 a3 a4 a5 a6 => (h'.1 a a1 a2 a3 a4 a5 a6).trans (h.1 a a1 a2 a3 a4 a5 a6), fun k hk => (h'.2 k hk).trans (h.2 k hk)⟩
theorem Rz_y {r r' : qI} (h : Ry r r') : Rz r r' := ⟨h.1, h.2.1⟩
theorem Rz_x {r r' : qI} (h : Rx r r') : Rz r r' := Rz_y (Ry_x h)
theorem Rz_n {r : qI} {f : Int → Int} : Rz r (uA r 2199 f) := ⟨fun a a1 _ _ _ _ _ => uA_ne a1, fun _ _ => by rw [uA_ne (by omega)]⟩
theorem Rz_a {r r' : qI} (h : Rz r r') {a : Nat} (ha : a ≠ 2199 ∧ a ≠ 2202 ∧ a ≠ 2203 ∧ a ≠ 2216 ∧ a ≠ 2217 ∧ a ≠ 2198) : r' a = r a := h.1 a ha.1 ha.2.1 ha.2.2.1 ha.2.2.2.1 ha.2.2.2.2.1 ha.2.2.2.2.2
theorem Rz_lw {r r' : qI} (h : Rz r r') (hL : LOK r) : lwR r' = lwR r := by
  funext F
  exact lwR_c (fun a a1 a2 => Rz_a h (by omega)) (h.2 15 (by omega)) hL (fun _ _ _ => rfl)
theorem Rz_LOK {r r' : qI} (h : Rz r r') (hL : LOK r) : LOK r' := by
  unfold LOK LOKq
  rw [h.2 15 (by omega), Rz_a h (a := 2211) (by omega), Rz_a h (a := 2212) (by omega), Rz_a h (a := 2213) (by omega), Rz_a h (a := 2214) (by omega), Rz_a h (a := 2215) (by omega)]
  exact hL
def TZ (l : Launch) (V : qV) (d : Nat) (mi : qMI) (as : List Value) (s : qS) (c r : qI) (v : Option Value) (S' : qN) : Prop :=
  T l V mi (rm d) 0 0 as (mkH s (jn c r)) (fun v' h' => v' = v ∧ ∃ r', h' = mkH s (jn c r') ∧ r' 2199 = S' ∧ Rz r r')
section MS
variable {l : Launch} {V : qV} {d : Nat} {s : qS} {c r r0 : qI} {R n : Int} {Q : Option Value → qH → Prop}
theorem GCZ {mi : qMI} {Q : Option Value → qH → Prop} {cd : Nat → Option qE} {op nx a b w0 pc d1 : Nat} {vv : Int} {L : List (Int × Nat)} {lv st as rest : List Value} {t : qMI} {v1 : Option Value} {S' : qN} {d' : Nat} (hcd : cdok mi cd) (he : cd pc = some (op, nx, a, b, vv, L, w0)) (hop : 43 ≤ op ∧ op ≤ 45) (ht : qms[a]? = some t)
    (hT : TZ l V d1 t as s c r v1 S') (hst : st = as.reverse ++ rest) (hal : as.length = b + (if op = 45 then 0 else 1)) (hrc : (op = 44 ∨ op = 43) → ∃ x as', as = .ref x :: as' ∧ (hK (mkH s (jn c r)) x).1 = t.2.2.2.2.2.1 ∧ t.2.2.2.2.2.1 < 10)
    (hrt : rest.all qtr = true) (hr8 : rest.length ≤ 8) (hd : d1 < d') (kk : ∀ r', r' 2199 = S' → Rz r r' → G l V mi (rm d') 0 0 Q 0 0 nx lv (v1.toList ++ rest) (mkH s (jn c r'))) : G l V mi (rm d') 0 0 Q 0 0 pc lv st (mkH s (jn c r)) :=
  GCQ hcd he hop ht hT hst hal hrc hrt hr8 hd (fun v1 h1 q => by obtain ⟨rfl, r', rfl, q1, q2⟩ := q; exact kk r' q1 q2)
theorem L_fd11 (hd : 5 ≤ d) (hs : ShMs s) {w : Int} {x2 : Value} {S : qN} : ∀ (j : Nat) (k : Int), k + j = 11138 → 0 ≤ k →
    (∀ x3, G l V mi_M_founds (rm d) 0 0 Q 0 0 31 [.ref 2198, .int (Int32.ofInt w), x2, x3] [] (mkH s (jn c (uA r 2199 (z0 S 11138))))) →
    G l V mi_M_founds (rm d) 0 0 Q 0 0 11 [.ref 2198, .int (Int32.ofInt w), x2, .int (Int32.ofInt k)] [] (mkH s (jn c (uA r 2199 (z0 S k)))) := by
  have hm : smS (fun _ => 0) := fun _ _ => by show -100000 ≤ (0 : Int) ∧ (0 : Int) ≤ 100000; omega
  intro j
  induction j with
  | zero =>
    intro k hk k0 g
    have e : k = 11138 := by omega
    subst e
    refine G_ev ok_M_founds (smE_ok (d := d - 1) (by omega)) (fun pc => pc == 11 || pc == 31) 200 (by omega) (fun K kK => ?_)
    simp (disch := omega) only [ev_s, evN_ap, List.getElem?_cons_zero, List.getElem?_cons_succ, List.set_cons_zero, List.set_cons_succ, Bool.false_eq_true, ↓reduceIte, qrest_n, qrest_1, qrest_2, qrest_3, qrest_4, qrest_5, qrest_6, qtr_i, qtr_r, true_and, and_true, List.length_cons, List.length_nil, Int.cast_ofNat_Int, Int32.toInt_zero, false_implies, true_implies, not_false_eq_true, not_true_eq_false, Option.toList_some, Option.toList_none, List.cons_append, List.nil_append, Nat.reduceBEq, Nat.reduceEqDiff, Bool.or_self, or_self, Nat.reduceAdd, Nat.reduceLT, Nat.zero_add, Int.reduceAdd, Int.reduceLE, Int.reduceLT, Int.reduceEq, and_self, Int.reduceNeg, qrok_i, qrok_b0, qrok_b1, qrok_bI, Option.some.injEq, Value.int.injEq, J_bI0, J_bI1, Classical.not_not, Int.zero_add, Int.add_zero, Int.sub_zero, false_and, and_false, and_true, true_and, e_0, v_0, e_1, v_1, e_2, v_2, e_3, v_3, e_5, v_5, e_13, v_13, e_15, v_15, e_20, v_20, e_24, v_24, e_25, v_25, e_41, e_44, qspl_z, qspl_s, evC_s, evD_none, evD_v, evD_s, c_3, smE_177, sw_M_sets, (smE_no (k := 223) rfl), r_M_founds_0, r_M_founds_1, r_M_founds_4, r_M_founds_7, r_M_founds_8, r_M_founds_9, r_M_founds_10, r_M_founds_11, r_M_founds_12, r_M_founds_15, r_M_founds_18, r_M_founds_19, r_M_founds_22, r_M_founds_23, r_M_founds_24, r_M_founds_25, r_M_founds_28, r_M_founds_31, r_M_founds_32, r_M_founds_35, r_M_founds_38, r_M_founds_39, r_M_founds_40, r_M_founds_41, r_M_founds_42, r_M_founds_43, r_M_founds_45, r_M_founds_48, r_M_founds_49, r_M_founds_50, r_M_founds_51, r_M_founds_52, r_M_founds_55, r_M_founds_56, r_M_founds_57, r_M_founds_58, r_M_founds_59, r_M_founds_62, r_M_founds_63, r_M_founds_64, r_M_founds_66, r_M_founds_67, r_M_founds_70, r_M_founds_71, r_M_founds_72, r_M_founds_74, r_M_founds_75, r_M_founds_78, r_M_founds_81, r_M_founds_84, r_M_founds_85, r_M_founds_86, r_M_founds_87, r_M_founds_89, r_M_founds_92, r_M_founds_93, r_M_founds_94, r_M_founds_97, r_M_founds_100, r_M_founds_103, (shS_o hs), (shS_r_now hs), (shS_k_now hs), nA_mk, lpI_mk, mnI_I, mxI_I, I_val, I_add, I_sub, I_mul, ShM_mk, hs, ndB_I, hM_jr, inB, smv hm, smn hm, bI_z, Bool.or_eq_true, Bool.or_false, Bool.false_or, beq_iff_eq, or_false, false_or, set_jA, uA_uA, uA_same, uA_ne, u1_ne, u1_same, nd_u1, nd_u1s, lpS_u1]
    exact kK _ _ _ _ (g _)
  | succ j ih =>
    intro k hk k0 g
    have ih := ih (k + 1) (by omega) (by omega) g
    rw [← z0_s k0] at ih
    refine G_ev ok_M_founds (smE_ok (d := d - 1) (by omega)) (fun pc => pc == 11 || pc == 31) 200 (by omega) (fun K kK => ?_)
    simp (disch := omega) only [ev_s, evN_ap, List.getElem?_cons_zero, List.getElem?_cons_succ, List.set_cons_zero, List.set_cons_succ, Bool.false_eq_true, ↓reduceIte, qrest_n, qrest_1, qrest_2, qrest_3, qrest_4, qrest_5, qrest_6, qtr_i, qtr_r, true_and, and_true, List.length_cons, List.length_nil, Int.cast_ofNat_Int, Int32.toInt_zero, false_implies, true_implies, not_false_eq_true, not_true_eq_false, Option.toList_some, Option.toList_none, List.cons_append, List.nil_append, Nat.reduceBEq, Nat.reduceEqDiff, Bool.or_self, or_self, Nat.reduceAdd, Nat.reduceLT, Nat.zero_add, Int.reduceAdd, Int.reduceLE, Int.reduceLT, Int.reduceEq, and_self, Int.reduceNeg, qrok_i, qrok_b0, qrok_b1, qrok_bI, Option.some.injEq, Value.int.injEq, J_bI0, J_bI1, Classical.not_not, Int.zero_add, Int.add_zero, Int.sub_zero, false_and, and_false, and_true, true_and, e_0, v_0, e_1, v_1, e_2, v_2, e_3, v_3, e_5, v_5, e_13, v_13, e_15, v_15, e_20, v_20, e_24, v_24, e_25, v_25, e_41, e_44, qspl_z, qspl_s, evC_s, evD_none, evD_v, evD_s, c_3, smE_177, sw_M_sets, (smE_no (k := 223) rfl), r_M_founds_0, r_M_founds_1, r_M_founds_4, r_M_founds_7, r_M_founds_8, r_M_founds_9, r_M_founds_10, r_M_founds_11, r_M_founds_12, r_M_founds_15, r_M_founds_18, r_M_founds_19, r_M_founds_22, r_M_founds_23, r_M_founds_24, r_M_founds_25, r_M_founds_28, r_M_founds_31, r_M_founds_32, r_M_founds_35, r_M_founds_38, r_M_founds_39, r_M_founds_40, r_M_founds_41, r_M_founds_42, r_M_founds_43, r_M_founds_45, r_M_founds_48, r_M_founds_49, r_M_founds_50, r_M_founds_51, r_M_founds_52, r_M_founds_55, r_M_founds_56, r_M_founds_57, r_M_founds_58, r_M_founds_59, r_M_founds_62, r_M_founds_63, r_M_founds_64, r_M_founds_66, r_M_founds_67, r_M_founds_70, r_M_founds_71, r_M_founds_72, r_M_founds_74, r_M_founds_75, r_M_founds_78, r_M_founds_81, r_M_founds_84, r_M_founds_85, r_M_founds_86, r_M_founds_87, r_M_founds_89, r_M_founds_92, r_M_founds_93, r_M_founds_94, r_M_founds_97, r_M_founds_100, r_M_founds_103, (shS_o hs), (shS_r_now hs), (shS_k_now hs), nA_mk, lpI_mk, mnI_I, mxI_I, I_val, I_add, I_sub, I_mul, ShM_mk, hs, ndB_I, hM_jr, inB, smv hm, smn hm, bI_z, Bool.or_eq_true, Bool.or_false, Bool.false_or, beq_iff_eq, or_false, false_or, set_jA, uA_uA, uA_same, uA_ne, u1_ne, u1_same, nd_u1, nd_u1s, lpS_u1]
    repeat' (first | with_reducible apply And.intro | intro _)
    all_goals first | assumption | contradiction | trivial | (exact kK _ _ _ _ ih) | (exact ih) | (clear kK; omega)
theorem L_fd42 (hd : 5 ≤ d) (hs : ShMs s) {w : Int} {x2 : Value} {S : qN} : ∀ (j : Nat) (k : Int), k + j = 7 → 0 ≤ k →
    (G l V mi_M_founds (rm d) 0 0 Q 0 0 86 [.ref 2198, .int (Int32.ofInt w), x2, .int (Int32.ofInt 0)] [] (mkH s (jn c (uA r 2199 (fdF S w 7))))) →
    G l V mi_M_founds (rm d) 0 0 Q 0 0 42 [.ref 2198, .int (Int32.ofInt w), x2, .int (Int32.ofInt k)] [] (mkH s (jn c (uA r 2199 (fdF S w k)))) := by
  have hm : smS (fun _ => 0) := fun _ _ => by show -100000 ≤ (0 : Int) ∧ (0 : Int) ≤ 100000; omega
  intro j
  induction j with
  | zero =>
    intro k hk k0 g
    have e : k = 7 := by omega
    subst e
    refine G_ev ok_M_founds (smE_ok (d := d - 1) (by omega)) (fun pc => pc == 11 || pc == 42 || pc == 86) 200 (by omega) (fun K kK => ?_)
    simp (disch := omega) only [ev_s, evN_ap, List.getElem?_cons_zero, List.getElem?_cons_succ, List.set_cons_zero, List.set_cons_succ, Bool.false_eq_true, ↓reduceIte, qrest_n, qrest_1, qrest_2, qrest_3, qrest_4, qrest_5, qrest_6, qtr_i, qtr_r, true_and, and_true, List.length_cons, List.length_nil, Int.cast_ofNat_Int, Int32.toInt_zero, false_implies, true_implies, not_false_eq_true, not_true_eq_false, Option.toList_some, Option.toList_none, List.cons_append, List.nil_append, Nat.reduceBEq, Nat.reduceEqDiff, Bool.or_self, or_self, Nat.reduceAdd, Nat.reduceLT, Nat.zero_add, Int.reduceAdd, Int.reduceLE, Int.reduceLT, Int.reduceEq, and_self, Int.reduceNeg, qrok_i, qrok_b0, qrok_b1, qrok_bI, Option.some.injEq, Value.int.injEq, J_bI0, J_bI1, Classical.not_not, Int.zero_add, Int.add_zero, Int.sub_zero, false_and, and_false, and_true, true_and, e_0, v_0, e_1, v_1, e_2, v_2, e_3, v_3, e_5, v_5, e_13, v_13, e_15, v_15, e_20, v_20, e_24, v_24, e_25, v_25, e_41, e_44, qspl_z, qspl_s, evC_s, evD_none, evD_v, evD_s, c_3, smE_177, sw_M_sets, (smE_no (k := 223) rfl), r_M_founds_0, r_M_founds_1, r_M_founds_4, r_M_founds_7, r_M_founds_8, r_M_founds_9, r_M_founds_10, r_M_founds_11, r_M_founds_12, r_M_founds_15, r_M_founds_18, r_M_founds_19, r_M_founds_22, r_M_founds_23, r_M_founds_24, r_M_founds_25, r_M_founds_28, r_M_founds_31, r_M_founds_32, r_M_founds_35, r_M_founds_38, r_M_founds_39, r_M_founds_40, r_M_founds_41, r_M_founds_42, r_M_founds_43, r_M_founds_45, r_M_founds_48, r_M_founds_49, r_M_founds_50, r_M_founds_51, r_M_founds_52, r_M_founds_55, r_M_founds_56, r_M_founds_57, r_M_founds_58, r_M_founds_59, r_M_founds_62, r_M_founds_63, r_M_founds_64, r_M_founds_66, r_M_founds_67, r_M_founds_70, r_M_founds_71, r_M_founds_72, r_M_founds_74, r_M_founds_75, r_M_founds_78, r_M_founds_81, r_M_founds_84, r_M_founds_85, r_M_founds_86, r_M_founds_87, r_M_founds_89, r_M_founds_92, r_M_founds_93, r_M_founds_94, r_M_founds_97, r_M_founds_100, r_M_founds_103, (shS_o hs), (shS_r_now hs), (shS_k_now hs), nA_mk, lpI_mk, mnI_I, mxI_I, I_val, I_add, I_sub, I_mul, ShM_mk, hs, ndB_I, hM_jr, inB, smv hm, smn hm, bI_z, Bool.or_eq_true, Bool.or_false, Bool.false_or, beq_iff_eq, or_false, false_or, set_jA, uA_uA, uA_same, uA_ne, u1_ne, u1_same, nd_u1, nd_u1s, lpS_u1]
    repeat' (first | with_reducible apply And.intro | intro _)
    all_goals first | assumption | contradiction | trivial | (exact kK _ _ _ _ g) | (exact g) | (clear kK; omega)
  | succ j ih =>
    intro k hk k0 g
    have ih := ih (k + 1) (by omega) (by omega) g
    rw [← fdF_s k0] at ih
    refine G_ev ok_M_founds (smE_ok (d := d - 1) (by omega)) (fun pc => pc == 11 || pc == 42 || pc == 86) 200 (by omega) (fun K kK => ?_)
    simp (disch := omega) only [ev_s, evN_ap, List.getElem?_cons_zero, List.getElem?_cons_succ, List.set_cons_zero, List.set_cons_succ, Bool.false_eq_true, ↓reduceIte, qrest_n, qrest_1, qrest_2, qrest_3, qrest_4, qrest_5, qrest_6, qtr_i, qtr_r, true_and, and_true, List.length_cons, List.length_nil, Int.cast_ofNat_Int, Int32.toInt_zero, false_implies, true_implies, not_false_eq_true, not_true_eq_false, Option.toList_some, Option.toList_none, List.cons_append, List.nil_append, Nat.reduceBEq, Nat.reduceEqDiff, Bool.or_self, or_self, Nat.reduceAdd, Nat.reduceLT, Nat.zero_add, Int.reduceAdd, Int.reduceLE, Int.reduceLT, Int.reduceEq, and_self, Int.reduceNeg, qrok_i, qrok_b0, qrok_b1, qrok_bI, Option.some.injEq, Value.int.injEq, J_bI0, J_bI1, Classical.not_not, Int.zero_add, Int.add_zero, Int.sub_zero, false_and, and_false, and_true, true_and, e_0, v_0, e_1, v_1, e_2, v_2, e_3, v_3, e_5, v_5, e_13, v_13, e_15, v_15, e_20, v_20, e_24, v_24, e_25, v_25, e_41, e_44, qspl_z, qspl_s, evC_s, evD_none, evD_v, evD_s, c_3, smE_177, sw_M_sets, (smE_no (k := 223) rfl), r_M_founds_0, r_M_founds_1, r_M_founds_4, r_M_founds_7, r_M_founds_8, r_M_founds_9, r_M_founds_10, r_M_founds_11, r_M_founds_12, r_M_founds_15, r_M_founds_18, r_M_founds_19, r_M_founds_22, r_M_founds_23, r_M_founds_24, r_M_founds_25, r_M_founds_28, r_M_founds_31, r_M_founds_32, r_M_founds_35, r_M_founds_38, r_M_founds_39, r_M_founds_40, r_M_founds_41, r_M_founds_42, r_M_founds_43, r_M_founds_45, r_M_founds_48, r_M_founds_49, r_M_founds_50, r_M_founds_51, r_M_founds_52, r_M_founds_55, r_M_founds_56, r_M_founds_57, r_M_founds_58, r_M_founds_59, r_M_founds_62, r_M_founds_63, r_M_founds_64, r_M_founds_66, r_M_founds_67, r_M_founds_70, r_M_founds_71, r_M_founds_72, r_M_founds_74, r_M_founds_75, r_M_founds_78, r_M_founds_81, r_M_founds_84, r_M_founds_85, r_M_founds_86, r_M_founds_87, r_M_founds_89, r_M_founds_92, r_M_founds_93, r_M_founds_94, r_M_founds_97, r_M_founds_100, r_M_founds_103, (shS_o hs), (shS_r_now hs), (shS_k_now hs), nA_mk, lpI_mk, mnI_I, mxI_I, I_val, I_add, I_sub, I_mul, ShM_mk, hs, ndB_I, hM_jr, inB, smv hm, smn hm, bI_z, Bool.or_eq_true, Bool.or_false, Bool.false_or, beq_iff_eq, or_false, false_or, set_jA, uA_uA, uA_same, uA_ne, u1_ne, u1_same, nd_u1, nd_u1s, lpS_u1]
    rw [Int.add_zero] at ih
    repeat' (first | with_reducible apply And.intro | intro _)
    all_goals first | assumption | contradiction | trivial | (exact kK _ _ _ _ ih) | (exact ih) | (clear kK; omega)
theorem L_fd86 (hd : 12 ≤ d) (hs : ShMs s) (hL : LOK r0) {w : Int} {x2 : Value} : ∀ (j : Nat) (n : Int) (r : qI), n + j = 7 → 0 ≤ n → Rz r0 r → OK R (r 2199) → (∀ r', r' 2199 = tfF (lwR r0) j n (r 2199) → Rz r0 r' → Q none (mkH s (jn c r'))) →
    G l V mi_M_founds (rm d) 0 0 Q 0 0 86 [.ref 2198, .int (Int32.ofInt w), x2, .int (Int32.ofInt n)] [] (mkH s (jn c r)) := by
  intro j
  induction j with
  | zero =>
    intro n r hj h0 hx ho hQ
    have hm := OK_sm ho
    have := hQ r rfl hx
    refine G_ev ok_M_founds (smE_ok (d := d - 1) (by omega)) (fun pc => pc == 11 || pc == 42 || pc == 86) 200 (by omega) (fun K kK => ?_)
    simp (disch := omega) only [ev_s, evN_ap, List.getElem?_cons_zero, List.getElem?_cons_succ, List.set_cons_zero, List.set_cons_succ, Bool.false_eq_true, ↓reduceIte, qrest_n, qrest_1, qrest_2, qrest_3, qrest_4, qrest_5, qrest_6, qtr_i, qtr_r, true_and, and_true, List.length_cons, List.length_nil, Int.cast_ofNat_Int, Int32.toInt_zero, false_implies, true_implies, not_false_eq_true, not_true_eq_false, Option.toList_some, Option.toList_none, List.cons_append, List.nil_append, Nat.reduceBEq, Nat.reduceEqDiff, Bool.or_self, or_self, Nat.reduceAdd, Nat.reduceLT, Nat.zero_add, Int.reduceAdd, Int.reduceLE, Int.reduceLT, Int.reduceEq, and_self, Int.reduceNeg, qrok_i, qrok_b0, qrok_b1, qrok_bI, Option.some.injEq, Value.int.injEq, J_bI0, J_bI1, Classical.not_not, Int.zero_add, Int.add_zero, Int.sub_zero, false_and, and_false, and_true, true_and, e_0, v_0, e_1, v_1, e_2, v_2, e_3, v_3, e_5, v_5, e_13, v_13, e_15, v_15, e_20, v_20, e_24, v_24, e_25, v_25, e_41, e_44, qspl_z, qspl_s, evC_s, evD_none, evD_v, evD_s, c_3, smE_177, sw_M_sets, (smE_no (k := 223) rfl), r_M_founds_0, r_M_founds_1, r_M_founds_4, r_M_founds_7, r_M_founds_8, r_M_founds_9, r_M_founds_10, r_M_founds_11, r_M_founds_12, r_M_founds_15, r_M_founds_18, r_M_founds_19, r_M_founds_22, r_M_founds_23, r_M_founds_24, r_M_founds_25, r_M_founds_28, r_M_founds_31, r_M_founds_32, r_M_founds_35, r_M_founds_38, r_M_founds_39, r_M_founds_40, r_M_founds_41, r_M_founds_42, r_M_founds_43, r_M_founds_45, r_M_founds_48, r_M_founds_49, r_M_founds_50, r_M_founds_51, r_M_founds_52, r_M_founds_55, r_M_founds_56, r_M_founds_57, r_M_founds_58, r_M_founds_59, r_M_founds_62, r_M_founds_63, r_M_founds_64, r_M_founds_66, r_M_founds_67, r_M_founds_70, r_M_founds_71, r_M_founds_72, r_M_founds_74, r_M_founds_75, r_M_founds_78, r_M_founds_81, r_M_founds_84, r_M_founds_85, r_M_founds_86, r_M_founds_87, r_M_founds_89, r_M_founds_92, r_M_founds_93, r_M_founds_94, r_M_founds_97, r_M_founds_100, r_M_founds_103, (shS_o hs), (shS_r_now hs), (shS_k_now hs), nA_mk, lpI_mk, mnI_I, mxI_I, I_val, I_add, I_sub, I_mul, ShM_mk, hs, ndB_I, hM_jr, inB, smv hm, smn hm, bI_z, Bool.or_eq_true, Bool.or_false, Bool.false_or, beq_iff_eq, or_false, false_or, set_jA, uA_uA, uA_same, uA_ne, u1_ne, u1_same, nd_u1, nd_u1s, lpS_u1]
    repeat' (first | with_reducible apply And.intro | intro _)
    all_goals first | assumption | contradiction | trivial | (exact kK _ _ _ _ this) | (exact this) | (clear kK; omega)
  | succ j ih =>
    intro n r hj h0 hx ho hQ
    have hm := OK_sm ho
    refine G_ev ok_M_founds (smE_ok (d := d - 1) (by omega)) (fun pc => pc == 11 || pc == 42 || pc == 86) 200 (by omega) (fun K kK => ?_)
    simp (disch := omega) only [ev_s, evN_ap, List.getElem?_cons_zero, List.getElem?_cons_succ, List.set_cons_zero, List.set_cons_succ, Bool.false_eq_true, ↓reduceIte, qrest_n, qrest_1, qrest_2, qrest_3, qrest_4, qrest_5, qrest_6, qtr_i, qtr_r, true_and, and_true, List.length_cons, List.length_nil, Int.cast_ofNat_Int, Int32.toInt_zero, false_implies, true_implies, not_false_eq_true, not_true_eq_false, Option.toList_some, Option.toList_none, List.cons_append, List.nil_append, Nat.reduceBEq, Nat.reduceEqDiff, Bool.or_self, or_self, Nat.reduceAdd, Nat.reduceLT, Nat.zero_add, Int.reduceAdd, Int.reduceLE, Int.reduceLT, Int.reduceEq, and_self, Int.reduceNeg, qrok_i, qrok_b0, qrok_b1, qrok_bI, Option.some.injEq, Value.int.injEq, J_bI0, J_bI1, Classical.not_not, Int.zero_add, Int.add_zero, Int.sub_zero, false_and, and_false, and_true, true_and, e_0, v_0, e_1, v_1, e_2, v_2, e_3, v_3, e_5, v_5, e_13, v_13, e_15, v_15, e_20, v_20, e_24, v_24, e_25, v_25, e_41, e_44, qspl_z, qspl_s, evC_s, evD_none, evD_v, evD_s, c_3, smE_177, sw_M_sets, (smE_no (k := 223) rfl), r_M_founds_0, r_M_founds_1, r_M_founds_4, r_M_founds_7, r_M_founds_8, r_M_founds_9, r_M_founds_10, r_M_founds_11, r_M_founds_12, r_M_founds_15, r_M_founds_18, r_M_founds_19, r_M_founds_22, r_M_founds_23, r_M_founds_24, r_M_founds_25, r_M_founds_28, r_M_founds_31, r_M_founds_32, r_M_founds_35, r_M_founds_38, r_M_founds_39, r_M_founds_40, r_M_founds_41, r_M_founds_42, r_M_founds_43, r_M_founds_45, r_M_founds_48, r_M_founds_49, r_M_founds_50, r_M_founds_51, r_M_founds_52, r_M_founds_55, r_M_founds_56, r_M_founds_57, r_M_founds_58, r_M_founds_59, r_M_founds_62, r_M_founds_63, r_M_founds_64, r_M_founds_66, r_M_founds_67, r_M_founds_70, r_M_founds_71, r_M_founds_72, r_M_founds_74, r_M_founds_75, r_M_founds_78, r_M_founds_81, r_M_founds_84, r_M_founds_85, r_M_founds_86, r_M_founds_87, r_M_founds_89, r_M_founds_92, r_M_founds_93, r_M_founds_94, r_M_founds_97, r_M_founds_100, r_M_founds_103, (shS_o hs), (shS_r_now hs), (shS_k_now hs), nA_mk, lpI_mk, mnI_I, mxI_I, I_val, I_add, I_sub, I_mul, ShM_mk, hs, ndB_I, hM_jr, inB, smv hm, smn hm, bI_z, Bool.or_eq_true, Bool.or_false, Bool.false_or, beq_iff_eq, or_false, false_or, set_jA, uA_uA, uA_same, uA_ne, u1_ne, u1_same, nd_u1, nd_u1s, lpS_u1]
    refine ⟨fun z => absurd z (by omega), fun _ => ?_⟩
    refine kK _ _ _ _ (GCR ok_M_founds r_M_founds_94 ⟨by decide, by decide⟩ qm_M_setsTimer (T_M_setsTimer (d := d - 1) (R := R) (by omega) hs (by omega) ho (Rz_LOK hx hL)) rfl rfl (fun _ => rcM hs) rfl (Nat.le_of_ble_eq_true rfl) (by omega) (fun r1 e1 x1 => ?_))
    refine G_ev ok_M_founds (smE_ok (d := d - 1) (by omega)) (fun pc => pc == 11 || pc == 42 || pc == 86) 200 (by omega) (fun K kK => ?_)
    rw [Rz_lw hx hL] at e1
    simp (disch := omega) only [ev_s, evN_ap, List.getElem?_cons_zero, List.getElem?_cons_succ, List.set_cons_zero, List.set_cons_succ, Bool.false_eq_true, ↓reduceIte, qrest_n, qrest_1, qrest_2, qrest_3, qrest_4, qrest_5, qrest_6, qtr_i, qtr_r, true_and, and_true, List.length_cons, List.length_nil, Int.cast_ofNat_Int, Int32.toInt_zero, false_implies, true_implies, not_false_eq_true, not_true_eq_false, Option.toList_some, Option.toList_none, List.cons_append, List.nil_append, Nat.reduceBEq, Nat.reduceEqDiff, Bool.or_self, or_self, Nat.reduceAdd, Nat.reduceLT, Nat.zero_add, Int.reduceAdd, Int.reduceLE, Int.reduceLT, Int.reduceEq, and_self, Int.reduceNeg, qrok_i, qrok_b0, qrok_b1, qrok_bI, Option.some.injEq, Value.int.injEq, J_bI0, J_bI1, Classical.not_not, Int.zero_add, Int.add_zero, Int.sub_zero, false_and, and_false, and_true, true_and, e_0, v_0, e_1, v_1, e_2, v_2, e_3, v_3, e_5, v_5, e_13, v_13, e_15, v_15, e_20, v_20, e_24, v_24, e_25, v_25, e_41, e_44, qspl_z, qspl_s, evC_s, evD_none, evD_v, evD_s, c_3, smE_177, sw_M_sets, (smE_no (k := 223) rfl), r_M_founds_0, r_M_founds_1, r_M_founds_4, r_M_founds_7, r_M_founds_8, r_M_founds_9, r_M_founds_10, r_M_founds_11, r_M_founds_12, r_M_founds_15, r_M_founds_18, r_M_founds_19, r_M_founds_22, r_M_founds_23, r_M_founds_24, r_M_founds_25, r_M_founds_28, r_M_founds_31, r_M_founds_32, r_M_founds_35, r_M_founds_38, r_M_founds_39, r_M_founds_40, r_M_founds_41, r_M_founds_42, r_M_founds_43, r_M_founds_45, r_M_founds_48, r_M_founds_49, r_M_founds_50, r_M_founds_51, r_M_founds_52, r_M_founds_55, r_M_founds_56, r_M_founds_57, r_M_founds_58, r_M_founds_59, r_M_founds_62, r_M_founds_63, r_M_founds_64, r_M_founds_66, r_M_founds_67, r_M_founds_70, r_M_founds_71, r_M_founds_72, r_M_founds_74, r_M_founds_75, r_M_founds_78, r_M_founds_81, r_M_founds_84, r_M_founds_85, r_M_founds_86, r_M_founds_87, r_M_founds_89, r_M_founds_92, r_M_founds_93, r_M_founds_94, r_M_founds_97, r_M_founds_100, r_M_founds_103, (shS_o hs), (shS_r_now hs), (shS_k_now hs), nA_mk, lpI_mk, mnI_I, mxI_I, I_val, I_add, I_sub, I_mul, ShM_mk, hs, ndB_I, hM_jr, inB, smv hm, smn hm, bI_z, Bool.or_eq_true, Bool.or_false, Bool.false_or, beq_iff_eq, or_false, false_or, set_jA, uA_uA, uA_same, uA_ne, u1_ne, u1_same, nd_u1, nd_u1s, lpS_u1]
    exact kK _ _ _ _ (ih (n + 1) r1 (by omega) (by omega) (Rz_tr hx (Rz_x x1)) (by rw [e1]; exact OK_tm ho (by omega) lwR_ok) (by rw [e1]; exact hQ))
set_option maxHeartbeats 2000000 in
set_option maxRecDepth 100000 in
theorem T_M_founds (hd : 12 ≤ d) (hs : ShMs s) {w : Int} (hw : 0 ≤ w ∧ w ≤ 127) (hX : 0 ≤ r 2199 11132 ∧ r 2199 11132 ≤ 65535) (hm : smS (r 2199)) (hL : LOK r) : TZ l V d mi_M_founds [.ref 2198, .int (Int32.ofInt w)] s c r none (fdS (lwR r) (r 2199) w) := by
  refine T_ev qm_M_founds [.ref 2198, .int (Int32.ofInt w), .retAddr 0, .retAddr 0] rfl rfl (Nat.le_of_ble_eq_true rfl) ok_M_founds (smE_ok (d := d - 1) (by omega)) (fun pc => pc == 11 || pc == 42) 200 (by omega) (fun K kK => ?_)
  have g := L_fd11 (l := l) (V := V) (d := d) (s := s) (c := c) (r := r) (w := w) (x2 := .int (Int32.ofInt (r 2199 11132))) (S := r 2199) (Q := fun v' h' => v' = none ∧ ∃ r', h' = mkH s (jn c r') ∧ r' 2199 = fdS (lwR r) (r 2199) w ∧ Rz r r') (by omega) hs 11138 0 (by omega) (by omega) ?_
  · rw [z0_0, uA_self] at g
    simp (disch := omega) only [ev_s, evN_ap, List.getElem?_cons_zero, List.getElem?_cons_succ, List.set_cons_zero, List.set_cons_succ, Bool.false_eq_true, ↓reduceIte, qrest_n, qrest_1, qrest_2, qrest_3, qrest_4, qrest_5, qrest_6, qtr_i, qtr_r, true_and, and_true, List.length_cons, List.length_nil, Int.cast_ofNat_Int, Int32.toInt_zero, false_implies, true_implies, not_false_eq_true, not_true_eq_false, Option.toList_some, Option.toList_none, List.cons_append, List.nil_append, Nat.reduceBEq, Nat.reduceEqDiff, Bool.or_self, or_self, Nat.reduceAdd, Nat.reduceLT, Nat.zero_add, Int.reduceAdd, Int.reduceLE, Int.reduceLT, Int.reduceEq, and_self, Int.reduceNeg, qrok_i, qrok_b0, qrok_b1, qrok_bI, Option.some.injEq, Value.int.injEq, J_bI0, J_bI1, Classical.not_not, Int.zero_add, Int.add_zero, Int.sub_zero, false_and, and_false, and_true, true_and, e_0, v_0, e_1, v_1, e_2, v_2, e_3, v_3, e_5, v_5, e_13, v_13, e_15, v_15, e_20, v_20, e_24, v_24, e_25, v_25, e_41, e_44, qspl_z, qspl_s, evC_s, evD_none, evD_v, evD_s, c_3, smE_177, sw_M_sets, (smE_no (k := 223) rfl), r_M_founds_0, r_M_founds_1, r_M_founds_4, r_M_founds_7, r_M_founds_8, r_M_founds_9, r_M_founds_10, r_M_founds_11, r_M_founds_12, r_M_founds_15, r_M_founds_18, r_M_founds_19, r_M_founds_22, r_M_founds_23, r_M_founds_24, r_M_founds_25, r_M_founds_28, r_M_founds_31, r_M_founds_32, r_M_founds_35, r_M_founds_38, r_M_founds_39, r_M_founds_40, r_M_founds_41, r_M_founds_42, r_M_founds_43, r_M_founds_45, r_M_founds_48, r_M_founds_49, r_M_founds_50, r_M_founds_51, r_M_founds_52, r_M_founds_55, r_M_founds_56, r_M_founds_57, r_M_founds_58, r_M_founds_59, r_M_founds_62, r_M_founds_63, r_M_founds_64, r_M_founds_66, r_M_founds_67, r_M_founds_70, r_M_founds_71, r_M_founds_72, r_M_founds_74, r_M_founds_75, r_M_founds_78, r_M_founds_81, r_M_founds_84, r_M_founds_85, r_M_founds_86, r_M_founds_87, r_M_founds_89, r_M_founds_92, r_M_founds_93, r_M_founds_94, r_M_founds_97, r_M_founds_100, r_M_founds_103, (shS_o hs), (shS_r_now hs), (shS_k_now hs), nA_mk, lpI_mk, mnI_I, mxI_I, I_val, I_add, I_sub, I_mul, ShM_mk, hs, ndB_I, hM_jr, inB, smv hm, smn hm, bI_z, Bool.or_eq_true, Bool.or_false, Bool.false_or, beq_iff_eq, or_false, false_or, set_jA, uA_uA, uA_same, uA_ne, u1_ne, u1_same, nd_u1, nd_u1s, lpS_u1]
    repeat' (first | with_reducible apply And.intro | intro _)
    all_goals first | assumption | contradiction | trivial | (exact kK _ _ _ _ g) | (exact g) | (clear kK; omega)
  · intro x3
    have g := L_fd42 (l := l) (V := V) (d := d) (s := s) (c := c) (r := r) (w := w) (x2 := .int (Int32.ofInt (r 2199 11132))) (S := fd0 (r 2199)) (Q := fun v' h' => v' = none ∧ ∃ r', h' = mkH s (jn c r') ∧ r' 2199 = fdS (lwR r) (r 2199) w ∧ Rz r r') (by omega) hs 7 0 (by omega) (by omega) ?_
    · rw [fdF_0] at g
      clear kK K
      refine G_ev ok_M_founds (smE_ok (d := d - 1) (by omega)) (fun pc => pc == 11 || pc == 42) 200 (by omega) (fun K kK => ?_)
      simp (disch := omega) only [ev_s, evN_ap, List.getElem?_cons_zero, List.getElem?_cons_succ, List.set_cons_zero, List.set_cons_succ, Bool.false_eq_true, ↓reduceIte, qrest_n, qrest_1, qrest_2, qrest_3, qrest_4, qrest_5, qrest_6, qtr_i, qtr_r, true_and, and_true, List.length_cons, List.length_nil, Int.cast_ofNat_Int, Int32.toInt_zero, false_implies, true_implies, not_false_eq_true, not_true_eq_false, Option.toList_some, Option.toList_none, List.cons_append, List.nil_append, Nat.reduceBEq, Nat.reduceEqDiff, Bool.or_self, or_self, Nat.reduceAdd, Nat.reduceLT, Nat.zero_add, Int.reduceAdd, Int.reduceLE, Int.reduceLT, Int.reduceEq, and_self, Int.reduceNeg, qrok_i, qrok_b0, qrok_b1, qrok_bI, Option.some.injEq, Value.int.injEq, J_bI0, J_bI1, Classical.not_not, Int.zero_add, Int.add_zero, Int.sub_zero, false_and, and_false, and_true, true_and, e_0, v_0, e_1, v_1, e_2, v_2, e_3, v_3, e_5, v_5, e_13, v_13, e_15, v_15, e_20, v_20, e_24, v_24, e_25, v_25, e_41, e_44, qspl_z, qspl_s, evC_s, evD_none, evD_v, evD_s, c_3, smE_177, sw_M_sets, (smE_no (k := 223) rfl), r_M_founds_0, r_M_founds_1, r_M_founds_4, r_M_founds_7, r_M_founds_8, r_M_founds_9, r_M_founds_10, r_M_founds_11, r_M_founds_12, r_M_founds_15, r_M_founds_18, r_M_founds_19, r_M_founds_22, r_M_founds_23, r_M_founds_24, r_M_founds_25, r_M_founds_28, r_M_founds_31, r_M_founds_32, r_M_founds_35, r_M_founds_38, r_M_founds_39, r_M_founds_40, r_M_founds_41, r_M_founds_42, r_M_founds_43, r_M_founds_45, r_M_founds_48, r_M_founds_49, r_M_founds_50, r_M_founds_51, r_M_founds_52, r_M_founds_55, r_M_founds_56, r_M_founds_57, r_M_founds_58, r_M_founds_59, r_M_founds_62, r_M_founds_63, r_M_founds_64, r_M_founds_66, r_M_founds_67, r_M_founds_70, r_M_founds_71, r_M_founds_72, r_M_founds_74, r_M_founds_75, r_M_founds_78, r_M_founds_81, r_M_founds_84, r_M_founds_85, r_M_founds_86, r_M_founds_87, r_M_founds_89, r_M_founds_92, r_M_founds_93, r_M_founds_94, r_M_founds_97, r_M_founds_100, r_M_founds_103, (shS_o hs), (shS_r_now hs), (shS_k_now hs), nA_mk, lpI_mk, mnI_I, mxI_I, I_val, I_add, I_sub, I_mul, ShM_mk, hs, ndB_I, hM_jr, inB, smv hm, smn hm, bI_z, Bool.or_eq_true, Bool.or_false, Bool.false_or, beq_iff_eq, or_false, false_or, set_jA, uA_uA, uA_same, uA_ne, u1_ne, u1_same, nd_u1, nd_u1s, lpS_u1]
      unfold fd0 at g
      repeat' (first | with_reducible apply And.intro | intro _)
      all_goals first | assumption | contradiction | trivial | (exact kK _ _ _ _ g) | (exact g) | (clear kK; omega)
    · refine L_fd86 (R := 1) (by omega) hs hL 7 0 _ (by omega) (by omega) Rz_n (by rw [uA_same]; exact OK_fd0 hw hX hm) (fun r' e1 x1 => ⟨rfl, r', rfl, ?_, x1⟩)
      rw [e1, uA_same]; rfl
end MS
