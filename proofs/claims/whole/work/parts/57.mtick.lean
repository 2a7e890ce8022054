/-! a tick -/
noncomputable def hlS (L : qL) : Nat → qN → qN
  | 0, S => S
  | j + 1, S => if tdI S = -1 then S else hlS L j (hdS L (rmM S (tdI S)) (nrm (ml S (tdI S))))
noncomputable def ngS (L : qL) (S : qN) (n : Int) : qN :=
  if nd S n 3 = 2 then (if nd S n 14 + 1 < 3 then u1 S (244 * n + 14) (nd S n 14 + 1) else askS L (u1 S (244 * n + 14) (nd S n 14 + 1)) n)
  else (if nd S n 10 - 1 = 0 then stS L (u1 S (244 * n + 10) (nd S n 10 - 1)) n else u1 S (244 * n + 10) (nd S n 10 - 1))
noncomputable def nlF (L : qL) : Nat → Int → qN → qN
  | 0, _, S => S
  | j + 1, n, S => nlF L j (n + 1) (if nd S n 0 = 1 then ngS L S n else S)
noncomputable def tkS (L : qL) (S : qN) : qN := nlF L 7 0 (hlS L (S 11133).toNat (u1 S 11131 (S 11131 + 1)))
def TKs (S : qN) : Prop := ∀ m, 0 ≤ m → m ≤ 6 → 1 ≤ nd S m 10 ∧ nd S m 14 ≤ 2
theorem TKs_tk {S S' : qN} (h : TKs S) (h' : Tk S S') : TKs S' := fun m m1 m2 => by
  have a := h m m1 m2
  have b := h' m m1 m2
  omega
/-- only the first w can be due -/
def duW (S : qN) (w : Int) : Prop := (0 ≤ w ∧ w ≤ S 11133) ∧ ∀ m, w ≤ m → m < S 11133 → S 11131 < S (1708 + 27 * m + 4)
theorem tdF_due {S : qN} : ∀ (j : Nat) (m : Int), 0 ≤ m → (tdF S j m = -1 → ∀ i, m ≤ i → i < m + j → S 11131 < S (1708 + 27 * i + 4)) ∧ (tdF S j m ≠ -1 → S (1708 + 27 * tdF S j m + 4) ≤ S 11131 ∧ ∀ i, m ≤ i → i < tdF S j m → S 11131 < S (1708 + 27 * i + 4))
  | 0, m, _ => ⟨fun _ i i1 i2 => by omega, fun h => absurd rfl h⟩
  | j + 1, m, m0 => by
    obtain ⟨a, b⟩ := tdF_due (S := S) j (m + 1) (by omega)
    rw [tdF]
    by_cases q : S 11131 < S (1708 + 27 * m + 4)
    · rw [if_pos q]
      refine ⟨fun h i i1 i2 => ?_, fun h => ⟨(b h).1, fun i i1 i2 => ?_⟩⟩
      · by_cases z : i = m
        · subst z; exact q
        · exact a h i (by omega) (by omega)
      · by_cases z : i = m
        · subst z; exact q
        · exact (b h).2 i (by omega) i2
    · rw [if_neg q]
      exact ⟨fun h => by omega, fun h => ⟨by omega, fun i i1 i2 => by omega⟩⟩
section OKs
variable {R : Int} {S : qN} {n : Int} {L : qL}
theorem tdI_rng (h : OK R S) (q : tdI S ≠ -1) : 0 ≤ tdI S ∧ tdI S < S 11133 := by
  have g := (OK_g h).2.2.1
  have := tdF_rng (S := S) (S 11133).toNat 0
  unfold tdI at *; omega
theorem nrm_ok {M : qN} (h : MOK R M) : MOK R (nrm M) := MOK_c (fun e e1 e2 _ => nrm_k ⟨e1, e2⟩) h
theorem hstep (h : OK R S) (q : tdI S ≠ -1) (hl : LwOK L) : OK R (hdS L (rmM S (tdI S)) (nrm (ml S (tdI S)))) := by
  have hr := tdI_rng h q
  exact OK_hd (OK_rmM h hr) (nrm_ok (OK_m h hr.1 hr.2)) hl
theorem du_step (h : OK R S) (q : tdI S ≠ -1) (hl : LwOK L) {w : Int} (hw : duW S w) : 1 ≤ w ∧ duW (hdS L (rmM S (tdI S)) (nrm (ml S (tdI S)))) (w - 1) := by
  have hr := tdI_rng h q
  have g := OK_g h
  have hd := (tdF_due (S := S) (S 11133).toNat 0 (by omega)).2 q
  obtain ⟨⟨w1, w2⟩, w3⟩ := hw
  have hmw : tdI S < w := by
    by_cases z : tdI S < w
    · exact z
    · have := w3 (tdI S) (by omega) hr.2
      unfold tdI at *; omega
  have a := Ap_hd (OK_rmM h hr) (nrm_ok (OK_m h hr.1 hr.2)) hl
  have e3 : rmM S (tdI S) 11133 = S 11133 - 1 := u1_same
  have e1 : rmM S (tdI S) 11131 = S 11131 := rm_off g hr (by omega) (by omega)
  obtain ⟨a1, a2, a3, a4, -⟩ := a
  rw [e3] at a2 a3 a4
  rw [e1] at a1 a4
  refine ⟨by omega, ⟨by omega, by omega⟩, fun m m1 m2 => ?_⟩
  rw [a1]
  by_cases z : m < S 11133 - 1
  · rw [a3 _ (by omega) (by omega)]
    have := rm_ml g hr (i := m) (k := 4) (by omega) (by omega)
    unfold ml at this
    rw [this, if_neg (by omega)]
    exact w3 (m + 1) (by omega) (by omega)
  · exact a4 m (by omega) (by omega) m2
theorem OK_hl (hl : LwOK L) : ∀ (j : Nat) (S : qN), OK R S → OK R (hlS L j S)
  | 0, _, h => h
  | j + 1, S, h => by
    rw [hlS]; split
    · exact h
    · rename_i q; exact OK_hl hl j _ (hstep h q hl)
theorem Tk_hl (hl : LwOK L) : ∀ (j : Nat) (S : qN), OK R S → Tk S (hlS L j S)
  | 0, _, h => Tk_rf
  | j + 1, S, h => by
    rw [hlS]; split
    · exact Tk_rf
    · rename_i q
      have hr := tdI_rng h q
      have a : Tk S (rmM S (tdI S)) := Tk_lo (fun j hj => rm_off (OK_g h) hr (by omega) (by omega))
      exact Tk_tr (Tk_tr a (Tk_hd (OK_rmM h hr) (nrm_ok (OK_m h hr.1 hr.2)) hl)) (Tk_hl hl j _ (hstep h q hl))
theorem OK_tick0 (h : OK R S) (ht : S 11131 < 9999) : OK R (u1 S 11131 (S 11131 + 1)) := by
  have g := OK_g h
  have g1 := g.1
  refine OK_out h (fun j hj => ?_) (smS_u1 (OK_sm h) (by omega) (by omega)) ?_ (fun m m1 m2 => ?_) (u1_ne (by omega))
  · exact u1_ne (by omega)
  · unfold GOK; rw [u1_same, u1_ne (by omega), u1_ne (by omega), u1_ne (by omega), u1_ne (by omega), u1_ne (by omega)]; exact ⟨by omega, g.2⟩
  · rw [u1_ne (by omega)] at m2
    have := g.2.2.1
    exact MOK_c (fun e e1 e2 _ => u1_ne (by omega)) (OK_m h m1 m2)
theorem OK_ng (h : OK R S) (hn : 0 ≤ n ∧ n ≤ 6) (hl : LwOK L) (hR : R + 1 ≤ 90000) (ht : 1 ≤ nd S n 10 ∧ nd S n 14 ≤ 2) : OK (R + 1) (ngS L S n) := by
  have c := (OK_n h hn).2.2.1
  have c10 := c.1
  have c14 := c.2.2.2.2
  have hu : OK R (u1 S (244 * n + 14) (nd S n 14 + 1)) := OK_cell h hn (by omega) (by unfold cOKv; omega)
  have hv : OK R (u1 S (244 * n + 10) (nd S n 10 - 1)) := OK_cell h hn (by omega) (by unfold cOKv; omega)
  unfold ngS; split
  · split
    · exact OK_mono hu (by omega) hR
    · exact OK_ask hu hn hl hR
  · split
    · exact OK_mono (OK_st hv hn hl) (by omega) hR
    · exact OK_mono hv (by omega) hR
theorem ask_nd (h : OK R S) (hn : 0 ≤ n ∧ n ≤ 6) (hl : LwOK L) (hR : R + 1 ≤ 90000) {m e : Int} (hm : 0 ≤ m ∧ m ≤ 6) (he : 0 ≤ e ∧ e < 244) : nd (askS L S n) m e = nd (u1 (u1 S (244 * n + 14) 0) (244 * n + 13) (nd S n 13 + 1)) m e := saS_nd (OK_ask0 h hn hR) hn hl hm he
theorem TK_ng (h : OK R S) (hn : 0 ≤ n ∧ n ≤ 6) (hl : LwOK L) (hR : R + 1 ≤ 90000) (ht : TKs S) : TKs (ngS L S n) ∧ ∀ m, 0 ≤ m → m ≤ 6 → nd (ngS L S n) m 0 = nd S m 0 := by
  have tn := ht n hn.1 hn.2
  have c := (OK_n h hn).2.2.1
  have c10 := c.1
  have c14 := c.2.2.2.2
  have hu : OK R (u1 S (244 * n + 14) (nd S n 14 + 1)) := OK_cell h hn (by omega) (by unfold cOKv; omega)
  have hv : OK R (u1 S (244 * n + 10) (nd S n 10 - 1)) := OK_cell h hn (by omega) (by unfold cOKv; omega)
  unfold ngS; split
  · split
    · refine ⟨fun m m1 m2 => ?_, fun m m1 m2 => by rw [nd_u1 (by omega)]⟩
      have tm := ht m m1 m2
      by_cases q : m = n
      · subst q; rw [nd_u1 (by omega), nd_u1s]; omega
      · rw [nd_u1 (by omega), nd_u1 (by omega)]; exact tm
    · refine ⟨fun m m1 m2 => ?_, fun m m1 m2 => ?_⟩
      · have tm := ht m m1 m2
        rw [ask_nd hu hn hl hR ⟨m1, m2⟩ (by omega), ask_nd hu hn hl hR ⟨m1, m2⟩ (by omega), nd_u1 (by omega), nd_u1 (by omega), nd_u1 (by omega), nd_u1 (by omega)]
        by_cases q : m = n
        · subst q; rw [nd_u1s]; omega
        · rw [nd_u1 (by omega), nd_u1 (by omega)]; exact tm
      · rw [ask_nd hu hn hl hR ⟨m1, m2⟩ (by omega), nd_u1 (by omega), nd_u1 (by omega), nd_u1 (by omega)]
  · split
    · obtain ⟨a, b⟩ := st_10 hv hn hl
      refine ⟨fun m m1 m2 => ?_, fun m m1 m2 => by rw [(a m m1 m2).1, nd_u1 (by omega)]⟩
      have tm := ht m m1 m2
      have am := a m m1 m2
      by_cases q : m = n
      · subst q
        rw [nd_u1 (e := 14) (by omega)] at am
        omega
      · rw [nd_u1 (e := 14) (by omega), nd_u1 (e := 10) (by omega)] at am
        omega
    · refine ⟨fun m m1 m2 => ?_, fun m m1 m2 => by rw [nd_u1 (by omega)]⟩
      have tm := ht m m1 m2
      by_cases q : m = n
      · subst q; rw [nd_u1s, nd_u1 (by omega)]; omega
      · rw [nd_u1 (by omega), nd_u1 (by omega)]; exact tm
theorem OK_nl (hl : LwOK L) : ∀ (j : Nat) (n : Int) (R : Int) (S : qN), n + j = 7 → 0 ≤ n → R + j ≤ 90000 → OK R S → TKs S → OK (R + j) (nlF L j n S) ∧ TKs (nlF L j n S)
  | 0, n, R, S, _, _, _, h, ht => ⟨by rw [show R + ((0 : Nat) : Int) = R by omega]; exact h, ht⟩
  | j + 1, n, R, S, hj, h0, hR, h, ht => by
    rw [nlF]
    have a : OK (R + 1) (if nd S n 0 = 1 then ngS L S n else S) ∧ TKs (if nd S n 0 = 1 then ngS L S n else S) := by
      split
      · exact ⟨OK_ng h (by omega) hl (by omega) (ht n (by omega) (by omega)), (TK_ng h (by omega) hl (by omega) ht).1⟩
      · exact ⟨OK_mono h (by omega) (by omega), ht⟩
    have := OK_nl hl j (n + 1) (R + 1) _ (by omega) (by omega) (by omega) a.1 a.2
    rw [show R + ((j + 1 : Nat) : Int) = R + 1 + j by omega]
    exact this
theorem OK_tk (h : OK R S) (hl : LwOK L) (ht : TKs S) (hR : R + 7 ≤ 90000) (h9 : S 11131 < 9999) : OK (R + 7) (tkS L S) ∧ TKs (tkS L S) := by
  have h0 := OK_tick0 h h9
  have t0 : TKs (u1 S 11131 (S 11131 + 1)) := TKs_tk ht (Tk_lo (fun j hj => u1_ne (by omega)))
  have h1 := OK_hl hl (S 11133).toNat _ h0
  have t1 := TKs_tk t0 (Tk_hl hl (S 11133).toNat _ h0)
  exact OK_nl hl 7 0 R _ (by omega) (by omega) hR h1 t1
end OKs
/-- what a tick changes but the row: also the message in hand -/
def Ry (r r' : qI) : Prop := (∀ a, a ≠ 2199 → a ≠ 2202 → a ≠ 2203 → a ≠ 2216 → a ≠ 2217 → a ≠ 2198 → r' a = r a) ∧ (∀ k, k ≠ 29 → r' 2198 k = r 2198 k) ∧ r' 2198 29 - hcnt (r' 2199) = r 2198 29 - hcnt (r 2199)
theorem Ry_rf (r : qI) : Ry r r := ⟨fun _ _ _ _ _ _ _ => rfl, fun _ _ => rfl, rfl⟩
theorem Ry_tr {r r' r'' : qI} (h : Ry r r') (h' : Ry r' r'') : Ry r r'' :=
  ⟨fun a a1 a2 a3 a4 a5 a6 => (h'.1 a a1 a2 a3 a4 a5 a6).trans (h.1 a a1 a2 a3 a4 a5 a6), fun k hk => (h'.2.1 k hk).trans (h.2.1 k hk), h'.2.2.trans h.2.2⟩
theorem Ry_x {r r' : qI} (h : Rx r r') : Ry r r' := ⟨fun a a1 a2 _ a4 a5 a6 => h.1 a a1 a2 a4 a5 a6, h.2⟩
theorem Ry_3 {r : qI} {f : Int → Int} : Ry r (uA r 2203 f) := ⟨fun a _ _ a3 _ _ _ => uA_ne a3, fun _ _ => by rw [uA_ne (by omega)], by rw [uA_ne (by omega), uA_ne (by omega)]⟩
theorem Ry_a {r r' : qI} (h : Ry r r') {a : Nat} (ha : a ≠ 2199 ∧ a ≠ 2202 ∧ a ≠ 2203 ∧ a ≠ 2216 ∧ a ≠ 2217 ∧ a ≠ 2198) : r' a = r a := h.1 a ha.1 ha.2.1 ha.2.2.1 ha.2.2.2.1 ha.2.2.2.2.1 ha.2.2.2.2.2
theorem Ry_lw {r r' : qI} (h : Ry r r') (hL : LOK r) : lwR r' = lwR r := by
  funext F
  exact lwR_c (fun a a1 a2 => Ry_a h (by omega)) (h.2.1 15 (by omega)) hL (fun _ _ _ => rfl)
theorem Ry_LOK {r r' : qI} (h : Ry r r') (hL : LOK r) : LOK r' := by
  unfold LOK LOKq
  rw [h.2.1 15 (by omega), Ry_a h (a := 2211) (by omega), Ry_a h (a := 2212) (by omega), Ry_a h (a := 2213) (by omega), Ry_a h (a := 2214) (by omega), Ry_a h (a := 2215) (by omega)]
  exact hL
def TY (l : Launch) (V : qV) (d : Nat) (mi : qMI) (as : List Value) (s : qS) (c r : qI) (v : Option Value) (S' : qN) : Prop :=
  T l V mi (rm d) 0 0 as (mkH s (jn c r)) (fun v' h' => v' = v ∧ ∃ r', h' = mkH s (jn c r') ∧ r' 2199 = S' ∧ Ry r r')
section MS
variable {l : Launch} {V : qV} {d : Nat} {s : qS} {c r r0 : qI} {R n : Int} {Q : Option Value → qH → Prop}
theorem GCY {mi : qMI} {Q : Option Value → qH → Prop} {cd : Nat → Option qE} {op nx a b w0 pc d1 : Nat} {vv : Int} {L : List (Int × Nat)} {lv st as rest : List Value} {t : qMI} {v1 : Option Value} {S' : qN} {d' : Nat} (hcd : cdok mi cd) (he : cd pc = some (op, nx, a, b, vv, L, w0)) (hop : 43 ≤ op ∧ op ≤ 45) (ht : qms[a]? = some t)
    (hT : TY l V d1 t as s c r v1 S') (hst : st = as.reverse ++ rest) (hal : as.length = b + (if op = 45 then 0 else 1)) (hrc : (op = 44 ∨ op = 43) → ∃ x as', as = .ref x :: as' ∧ (hK (mkH s (jn c r)) x).1 = t.2.2.2.2.2.1 ∧ t.2.2.2.2.2.1 < 10)
    (hrt : rest.all qtr = true) (hr8 : rest.length ≤ 8) (hd : d1 < d') (kk : ∀ r', r' 2199 = S' → Ry r r' → G l V mi (rm d') 0 0 Q 0 0 nx lv (v1.toList ++ rest) (mkH s (jn c r'))) : G l V mi (rm d') 0 0 Q 0 0 pc lv st (mkH s (jn c r)) :=
  GCQ hcd he hop ht hT hst hal hrc hrt hr8 hd (fun v1 h1 q => by obtain ⟨rfl, r', rfl, q1, q2⟩ := q; exact kk r' q1 q2)
set_option maxHeartbeats 2000000 in
set_option maxRecDepth 100000 in
theorem T_M_nodeGoes (hd : 19 ≤ d) (hs : ShMs s) {n : Int} (hn : 0 ≤ n ∧ n ≤ 6) (ho : OK R (r 2199)) (hR : R + 1 ≤ 90000) (ht : 1 ≤ nd (r 2199) n 10 ∧ nd (r 2199) n 14 ≤ 2) (hL : LOK r) : TR l V d mi_M_nodeGoes [.ref 2198, .int (Int32.ofInt n)] s c r none (ngS (lwR r) (r 2199) n) := by
  refine T_ev qm_M_nodeGoes [.ref 2198, .int (Int32.ofInt n)] rfl rfl (Nat.le_of_ble_eq_true rfl) ok_M_nodeGoes (smE_ok (d := d - 1) (by omega)) (fun pc => pc == 36 || pc == 70) 200 (by omega) (fun K kK => ?_)
  have hm := OK_sm ho
  have cc := (OK_n ho hn).2.2.1
  have c10 := cc.1
  have c14 := cc.2.2.2.2
  have c3 := (OK_n ho hn).1.2.2.2
  have hu : OK R (u1 (r 2199) (244 * n + 14) (nd (r 2199) n 14 + 1)) := OK_cell ho hn (by omega) (by unfold cOKv; omega)
  have hv : OK R (u1 (r 2199) (244 * n + 10) (nd (r 2199) n 10 - 1)) := OK_cell ho hn (by omega) (by unfold cOKv; omega)
  have xu : Rx r (uA r 2199 (u1 (r 2199) (244 * n + 14) (nd (r 2199) n 14 + 1))) := Rx_2199 (fun j j1 j2 => u1_ne (by omega))
  have xv : Rx r (uA r 2199 (u1 (r 2199) (244 * n + 10) (nd (r 2199) n 10 - 1))) := Rx_2199 (fun j j1 j2 => u1_ne (by omega))
  by_cases q : nd (r 2199) n 3 = 2
  · by_cases q2 : nd (r 2199) n 14 + 1 < 3
    · have g : ∃ r', mkH s (jn c (uA r 2199 (u1 (r 2199) (244 * n + 14) (nd (r 2199) n 14 + 1)))) = mkH s (jn c r') ∧ r' 2199 = ngS (lwR r) (r 2199) n ∧ Rx r r' := ⟨_, rfl, by rw [uA_same]; unfold ngS; rw [if_pos q, if_pos q2], xu⟩
      simp (disch := omega) only [ev_s, evN_ap, List.getElem?_cons_zero, List.getElem?_cons_succ, List.set_cons_zero, List.set_cons_succ, Bool.false_eq_true, ↓reduceIte, qrest_n, qrest_1, qrest_2, qrest_3, qrest_4, qrest_5, qrest_6, qtr_i, qtr_r, true_and, and_true, List.length_cons, List.length_nil, Int.cast_ofNat_Int, Int32.toInt_zero, false_implies, true_implies, not_false_eq_true, not_true_eq_false, Option.toList_some, Option.toList_none, List.cons_append, List.nil_append, Nat.reduceBEq, Nat.reduceEqDiff, Bool.or_self, or_self, Nat.reduceAdd, Nat.reduceLT, Nat.zero_add, Int.reduceAdd, Int.reduceLE, Int.reduceLT, Int.reduceEq, and_self, Int.reduceNeg, qrok_i, qrok_b0, qrok_b1, qrok_bI, Option.some.injEq, Value.int.injEq, J_bI0, J_bI1, Classical.not_not, Int.zero_add, Int.add_zero, Int.sub_zero, false_and, and_false, and_true, true_and, e_0, v_0, e_1, v_1, e_2, v_2, e_6, v_6, e_14, v_14, e_15, v_15, e_41, e_44, qspl_z, qspl_s, evC_s, evD_none, evD_v, evD_s, c_0, c_1, c_3, b_0, b_1, smE_176, sw_M_the, smE_177, sw_M_sets, (smE_no (k := 234) rfl), (smE_no (k := 261) rfl), r_M_nodeGoes_0, r_M_nodeGoes_1, r_M_nodeGoes_2, r_M_nodeGoes_3, r_M_nodeGoes_6, r_M_nodeGoes_7, r_M_nodeGoes_10, r_M_nodeGoes_11, r_M_nodeGoes_12, r_M_nodeGoes_14, r_M_nodeGoes_15, r_M_nodeGoes_16, r_M_nodeGoes_18, r_M_nodeGoes_21, r_M_nodeGoes_22, r_M_nodeGoes_23, r_M_nodeGoes_26, r_M_nodeGoes_27, r_M_nodeGoes_28, r_M_nodeGoes_30, r_M_nodeGoes_33, r_M_nodeGoes_36, r_M_nodeGoes_37, r_M_nodeGoes_38, r_M_nodeGoes_41, r_M_nodeGoes_42, r_M_nodeGoes_43, r_M_nodeGoes_44, r_M_nodeGoes_46, r_M_nodeGoes_47, r_M_nodeGoes_48, r_M_nodeGoes_50, r_M_nodeGoes_53, r_M_nodeGoes_54, r_M_nodeGoes_55, r_M_nodeGoes_58, r_M_nodeGoes_59, r_M_nodeGoes_60, r_M_nodeGoes_62, r_M_nodeGoes_65, r_M_nodeGoes_66, r_M_nodeGoes_69, r_M_nodeGoes_70, r_M_nodeGoes_71, r_M_nodeGoes_72, r_M_nodeGoes_75, (shS_o hs), (shS_r_now hs), (shS_k_now hs), nA_mk, lpI_mk, mnI_I, mxI_I, I_val, I_add, I_sub, I_mul, ShM_mk, hs, ndB_I, hM_jr, inB, smv hm, smn hm, bI_z, Bool.or_eq_true, Bool.or_false, Bool.false_or, beq_iff_eq, or_false, false_or, set_jA, uA_uA, uA_same, uA_ne, u1_ne, u1_same, nd_u1, nd_u1s, lpS_u1]
      repeat' (first | with_reducible apply And.intro | intro _)
      all_goals first | assumption | contradiction | trivial | (exact kK _ _ _ _ g) | (exact g) | (clear kK; omega)
    · have g : G l V mi_M_nodeGoes (rm d) 0 0 (fun v' h' => v' = none ∧ ∃ r', h' = mkH s (jn c r') ∧ r' 2199 = ngS (lwR r) (r 2199) n ∧ Rx r r') 0 0 70 [.ref 2198, .int (Int32.ofInt n)] [] (mkH s (jn c (uA r 2199 (u1 (r 2199) (244 * n + 14) (nd (r 2199) n 14 + 1))))) := by
        clear kK K
        refine G_ev ok_M_nodeGoes (smE_ok (d := d - 1) (by omega)) (fun _ => false) 200 (by omega) (fun K kK => ?_)
        simp (disch := omega) only [ev_s, evN_ap, List.getElem?_cons_zero, List.getElem?_cons_succ, List.set_cons_zero, List.set_cons_succ, Bool.false_eq_true, ↓reduceIte, qrest_n, qrest_1, qrest_2, qrest_3, qrest_4, qrest_5, qrest_6, qtr_i, qtr_r, true_and, and_true, List.length_cons, List.length_nil, Int.cast_ofNat_Int, Int32.toInt_zero, false_implies, true_implies, not_false_eq_true, not_true_eq_false, Option.toList_some, Option.toList_none, List.cons_append, List.nil_append, Nat.reduceBEq, Nat.reduceEqDiff, Bool.or_self, or_self, Nat.reduceAdd, Nat.reduceLT, Nat.zero_add, Int.reduceAdd, Int.reduceLE, Int.reduceLT, Int.reduceEq, and_self, Int.reduceNeg, qrok_i, qrok_b0, qrok_b1, qrok_bI, Option.some.injEq, Value.int.injEq, J_bI0, J_bI1, Classical.not_not, Int.zero_add, Int.add_zero, Int.sub_zero, false_and, and_false, and_true, true_and, e_0, v_0, e_1, v_1, e_2, v_2, e_6, v_6, e_14, v_14, e_15, v_15, e_41, e_44, qspl_z, qspl_s, evC_s, evD_none, evD_v, evD_s, c_0, c_1, c_3, b_0, b_1, smE_176, sw_M_the, smE_177, sw_M_sets, (smE_no (k := 234) rfl), (smE_no (k := 261) rfl), r_M_nodeGoes_0, r_M_nodeGoes_1, r_M_nodeGoes_2, r_M_nodeGoes_3, r_M_nodeGoes_6, r_M_nodeGoes_7, r_M_nodeGoes_10, r_M_nodeGoes_11, r_M_nodeGoes_12, r_M_nodeGoes_14, r_M_nodeGoes_15, r_M_nodeGoes_16, r_M_nodeGoes_18, r_M_nodeGoes_21, r_M_nodeGoes_22, r_M_nodeGoes_23, r_M_nodeGoes_26, r_M_nodeGoes_27, r_M_nodeGoes_28, r_M_nodeGoes_30, r_M_nodeGoes_33, r_M_nodeGoes_36, r_M_nodeGoes_37, r_M_nodeGoes_38, r_M_nodeGoes_41, r_M_nodeGoes_42, r_M_nodeGoes_43, r_M_nodeGoes_44, r_M_nodeGoes_46, r_M_nodeGoes_47, r_M_nodeGoes_48, r_M_nodeGoes_50, r_M_nodeGoes_53, r_M_nodeGoes_54, r_M_nodeGoes_55, r_M_nodeGoes_58, r_M_nodeGoes_59, r_M_nodeGoes_60, r_M_nodeGoes_62, r_M_nodeGoes_65, r_M_nodeGoes_66, r_M_nodeGoes_69, r_M_nodeGoes_70, r_M_nodeGoes_71, r_M_nodeGoes_72, r_M_nodeGoes_75, (shS_o hs), (shS_r_now hs), (shS_k_now hs), nA_mk, lpI_mk, mnI_I, mxI_I, I_val, I_add, I_sub, I_mul, ShM_mk, hs, ndB_I, hM_jr, inB, smv hm, smn hm, bI_z, Bool.or_eq_true, Bool.or_false, Bool.false_or, beq_iff_eq, or_false, false_or, set_jA, uA_uA, uA_same, uA_ne, u1_ne, u1_same, nd_u1, nd_u1s, lpS_u1]
        refine kK _ _ _ _ (GCR ok_M_nodeGoes r_M_nodeGoes_72 ⟨by decide, by decide⟩ qm_M_asksAll (T_M_asksAll (d := d - 1) (R := R) (by omega) hs hn (by rw [uA_same]; exact hu) hR (Rx_LOK xu hL)) rfl rfl (fun _ => rcM hs) rfl (Nat.le_of_ble_eq_true rfl) (by omega) (fun r1 e1 x1 => ?_))
        refine G_ev ok_M_nodeGoes (smE_ok (d := d - 1) (by omega)) (fun pc => pc == 36 || pc == 70) 200 (by omega) (fun K kK => ?_)
        rw [uA_same, Rx_lw xu hL] at e1
        simp (disch := omega) only [ev_s, evN_ap, List.getElem?_cons_zero, List.getElem?_cons_succ, List.set_cons_zero, List.set_cons_succ, Bool.false_eq_true, ↓reduceIte, qrest_n, qrest_1, qrest_2, qrest_3, qrest_4, qrest_5, qrest_6, qtr_i, qtr_r, true_and, and_true, List.length_cons, List.length_nil, Int.cast_ofNat_Int, Int32.toInt_zero, false_implies, true_implies, not_false_eq_true, not_true_eq_false, Option.toList_some, Option.toList_none, List.cons_append, List.nil_append, Nat.reduceBEq, Nat.reduceEqDiff, Bool.or_self, or_self, Nat.reduceAdd, Nat.reduceLT, Nat.zero_add, Int.reduceAdd, Int.reduceLE, Int.reduceLT, Int.reduceEq, and_self, Int.reduceNeg, qrok_i, qrok_b0, qrok_b1, qrok_bI, Option.some.injEq, Value.int.injEq, J_bI0, J_bI1, Classical.not_not, Int.zero_add, Int.add_zero, Int.sub_zero, false_and, and_false, and_true, true_and, e_0, v_0, e_1, v_1, e_2, v_2, e_6, v_6, e_14, v_14, e_15, v_15, e_41, e_44, qspl_z, qspl_s, evC_s, evD_none, evD_v, evD_s, c_0, c_1, c_3, b_0, b_1, smE_176, sw_M_the, smE_177, sw_M_sets, (smE_no (k := 234) rfl), (smE_no (k := 261) rfl), r_M_nodeGoes_0, r_M_nodeGoes_1, r_M_nodeGoes_2, r_M_nodeGoes_3, r_M_nodeGoes_6, r_M_nodeGoes_7, r_M_nodeGoes_10, r_M_nodeGoes_11, r_M_nodeGoes_12, r_M_nodeGoes_14, r_M_nodeGoes_15, r_M_nodeGoes_16, r_M_nodeGoes_18, r_M_nodeGoes_21, r_M_nodeGoes_22, r_M_nodeGoes_23, r_M_nodeGoes_26, r_M_nodeGoes_27, r_M_nodeGoes_28, r_M_nodeGoes_30, r_M_nodeGoes_33, r_M_nodeGoes_36, r_M_nodeGoes_37, r_M_nodeGoes_38, r_M_nodeGoes_41, r_M_nodeGoes_42, r_M_nodeGoes_43, r_M_nodeGoes_44, r_M_nodeGoes_46, r_M_nodeGoes_47, r_M_nodeGoes_48, r_M_nodeGoes_50, r_M_nodeGoes_53, r_M_nodeGoes_54, r_M_nodeGoes_55, r_M_nodeGoes_58, r_M_nodeGoes_59, r_M_nodeGoes_60, r_M_nodeGoes_62, r_M_nodeGoes_65, r_M_nodeGoes_66, r_M_nodeGoes_69, r_M_nodeGoes_70, r_M_nodeGoes_71, r_M_nodeGoes_72, r_M_nodeGoes_75, (shS_o hs), (shS_r_now hs), (shS_k_now hs), nA_mk, lpI_mk, mnI_I, mxI_I, I_val, I_add, I_sub, I_mul, ShM_mk, hs, ndB_I, hM_jr, inB, smv hm, smn hm, bI_z, Bool.or_eq_true, Bool.or_false, Bool.false_or, beq_iff_eq, or_false, false_or, set_jA, uA_uA, uA_same, uA_ne, u1_ne, u1_same, nd_u1, nd_u1s, lpS_u1]
        exact ⟨r1, rfl, by rw [e1]; unfold ngS; rw [if_pos q, if_neg q2], Rx_tr xu x1⟩
      simp (disch := omega) only [ev_s, evN_ap, List.getElem?_cons_zero, List.getElem?_cons_succ, List.set_cons_zero, List.set_cons_succ, Bool.false_eq_true, ↓reduceIte, qrest_n, qrest_1, qrest_2, qrest_3, qrest_4, qrest_5, qrest_6, qtr_i, qtr_r, true_and, and_true, List.length_cons, List.length_nil, Int.cast_ofNat_Int, Int32.toInt_zero, false_implies, true_implies, not_false_eq_true, not_true_eq_false, Option.toList_some, Option.toList_none, List.cons_append, List.nil_append, Nat.reduceBEq, Nat.reduceEqDiff, Bool.or_self, or_self, Nat.reduceAdd, Nat.reduceLT, Nat.zero_add, Int.reduceAdd, Int.reduceLE, Int.reduceLT, Int.reduceEq, and_self, Int.reduceNeg, qrok_i, qrok_b0, qrok_b1, qrok_bI, Option.some.injEq, Value.int.injEq, J_bI0, J_bI1, Classical.not_not, Int.zero_add, Int.add_zero, Int.sub_zero, false_and, and_false, and_true, true_and, e_0, v_0, e_1, v_1, e_2, v_2, e_6, v_6, e_14, v_14, e_15, v_15, e_41, e_44, qspl_z, qspl_s, evC_s, evD_none, evD_v, evD_s, c_0, c_1, c_3, b_0, b_1, smE_176, sw_M_the, smE_177, sw_M_sets, (smE_no (k := 234) rfl), (smE_no (k := 261) rfl), r_M_nodeGoes_0, r_M_nodeGoes_1, r_M_nodeGoes_2, r_M_nodeGoes_3, r_M_nodeGoes_6, r_M_nodeGoes_7, r_M_nodeGoes_10, r_M_nodeGoes_11, r_M_nodeGoes_12, r_M_nodeGoes_14, r_M_nodeGoes_15, r_M_nodeGoes_16, r_M_nodeGoes_18, r_M_nodeGoes_21, r_M_nodeGoes_22, r_M_nodeGoes_23, r_M_nodeGoes_26, r_M_nodeGoes_27, r_M_nodeGoes_28, r_M_nodeGoes_30, r_M_nodeGoes_33, r_M_nodeGoes_36, r_M_nodeGoes_37, r_M_nodeGoes_38, r_M_nodeGoes_41, r_M_nodeGoes_42, r_M_nodeGoes_43, r_M_nodeGoes_44, r_M_nodeGoes_46, r_M_nodeGoes_47, r_M_nodeGoes_48, r_M_nodeGoes_50, r_M_nodeGoes_53, r_M_nodeGoes_54, r_M_nodeGoes_55, r_M_nodeGoes_58, r_M_nodeGoes_59, r_M_nodeGoes_60, r_M_nodeGoes_62, r_M_nodeGoes_65, r_M_nodeGoes_66, r_M_nodeGoes_69, r_M_nodeGoes_70, r_M_nodeGoes_71, r_M_nodeGoes_72, r_M_nodeGoes_75, (shS_o hs), (shS_r_now hs), (shS_k_now hs), nA_mk, lpI_mk, mnI_I, mxI_I, I_val, I_add, I_sub, I_mul, ShM_mk, hs, ndB_I, hM_jr, inB, smv hm, smn hm, bI_z, Bool.or_eq_true, Bool.or_false, Bool.false_or, beq_iff_eq, or_false, false_or, set_jA, uA_uA, uA_same, uA_ne, u1_ne, u1_same, nd_u1, nd_u1s, lpS_u1]
      repeat' (first | with_reducible apply And.intro | intro _)
      all_goals first | assumption | contradiction | trivial | (exact kK _ _ _ _ g) | (exact g) | (clear kK; omega)
  · by_cases q2 : nd (r 2199) n 10 - 1 = 0
    · have g : G l V mi_M_nodeGoes (rm d) 0 0 (fun v' h' => v' = none ∧ ∃ r', h' = mkH s (jn c r') ∧ r' 2199 = ngS (lwR r) (r 2199) n ∧ Rx r r') 0 0 36 [.ref 2198, .int (Int32.ofInt n)] [] (mkH s (jn c (uA r 2199 (u1 (r 2199) (244 * n + 10) (nd (r 2199) n 10 - 1))))) := by
        clear kK K
        refine G_ev ok_M_nodeGoes (smE_ok (d := d - 1) (by omega)) (fun _ => false) 200 (by omega) (fun K kK => ?_)
        simp (disch := omega) only [ev_s, evN_ap, List.getElem?_cons_zero, List.getElem?_cons_succ, List.set_cons_zero, List.set_cons_succ, Bool.false_eq_true, ↓reduceIte, qrest_n, qrest_1, qrest_2, qrest_3, qrest_4, qrest_5, qrest_6, qtr_i, qtr_r, true_and, and_true, List.length_cons, List.length_nil, Int.cast_ofNat_Int, Int32.toInt_zero, false_implies, true_implies, not_false_eq_true, not_true_eq_false, Option.toList_some, Option.toList_none, List.cons_append, List.nil_append, Nat.reduceBEq, Nat.reduceEqDiff, Bool.or_self, or_self, Nat.reduceAdd, Nat.reduceLT, Nat.zero_add, Int.reduceAdd, Int.reduceLE, Int.reduceLT, Int.reduceEq, and_self, Int.reduceNeg, qrok_i, qrok_b0, qrok_b1, qrok_bI, Option.some.injEq, Value.int.injEq, J_bI0, J_bI1, Classical.not_not, Int.zero_add, Int.add_zero, Int.sub_zero, false_and, and_false, and_true, true_and, e_0, v_0, e_1, v_1, e_2, v_2, e_6, v_6, e_14, v_14, e_15, v_15, e_41, e_44, qspl_z, qspl_s, evC_s, evD_none, evD_v, evD_s, c_0, c_1, c_3, b_0, b_1, smE_176, sw_M_the, smE_177, sw_M_sets, (smE_no (k := 234) rfl), (smE_no (k := 261) rfl), r_M_nodeGoes_0, r_M_nodeGoes_1, r_M_nodeGoes_2, r_M_nodeGoes_3, r_M_nodeGoes_6, r_M_nodeGoes_7, r_M_nodeGoes_10, r_M_nodeGoes_11, r_M_nodeGoes_12, r_M_nodeGoes_14, r_M_nodeGoes_15, r_M_nodeGoes_16, r_M_nodeGoes_18, r_M_nodeGoes_21, r_M_nodeGoes_22, r_M_nodeGoes_23, r_M_nodeGoes_26, r_M_nodeGoes_27, r_M_nodeGoes_28, r_M_nodeGoes_30, r_M_nodeGoes_33, r_M_nodeGoes_36, r_M_nodeGoes_37, r_M_nodeGoes_38, r_M_nodeGoes_41, r_M_nodeGoes_42, r_M_nodeGoes_43, r_M_nodeGoes_44, r_M_nodeGoes_46, r_M_nodeGoes_47, r_M_nodeGoes_48, r_M_nodeGoes_50, r_M_nodeGoes_53, r_M_nodeGoes_54, r_M_nodeGoes_55, r_M_nodeGoes_58, r_M_nodeGoes_59, r_M_nodeGoes_60, r_M_nodeGoes_62, r_M_nodeGoes_65, r_M_nodeGoes_66, r_M_nodeGoes_69, r_M_nodeGoes_70, r_M_nodeGoes_71, r_M_nodeGoes_72, r_M_nodeGoes_75, (shS_o hs), (shS_r_now hs), (shS_k_now hs), nA_mk, lpI_mk, mnI_I, mxI_I, I_val, I_add, I_sub, I_mul, ShM_mk, hs, ndB_I, hM_jr, inB, smv hm, smn hm, bI_z, Bool.or_eq_true, Bool.or_false, Bool.false_or, beq_iff_eq, or_false, false_or, set_jA, uA_uA, uA_same, uA_ne, u1_ne, u1_same, nd_u1, nd_u1s, lpS_u1]
        refine kK _ _ _ _ (GCR ok_M_nodeGoes r_M_nodeGoes_38 ⟨by decide, by decide⟩ qm_M_stands (T_M_stands (d := d - 1) (R := R) (by omega) hs hn (by rw [uA_same]; exact hv) (Rx_LOK xv hL)) rfl rfl (fun _ => rcM hs) rfl (Nat.le_of_ble_eq_true rfl) (by omega) (fun r1 e1 x1 => ?_))
        refine G_ev ok_M_nodeGoes (smE_ok (d := d - 1) (by omega)) (fun pc => pc == 36 || pc == 70) 200 (by omega) (fun K kK => ?_)
        rw [uA_same, Rx_lw xv hL] at e1
        simp (disch := omega) only [ev_s, evN_ap, List.getElem?_cons_zero, List.getElem?_cons_succ, List.set_cons_zero, List.set_cons_succ, Bool.false_eq_true, ↓reduceIte, qrest_n, qrest_1, qrest_2, qrest_3, qrest_4, qrest_5, qrest_6, qtr_i, qtr_r, true_and, and_true, List.length_cons, List.length_nil, Int.cast_ofNat_Int, Int32.toInt_zero, false_implies, true_implies, not_false_eq_true, not_true_eq_false, Option.toList_some, Option.toList_none, List.cons_append, List.nil_append, Nat.reduceBEq, Nat.reduceEqDiff, Bool.or_self, or_self, Nat.reduceAdd, Nat.reduceLT, Nat.zero_add, Int.reduceAdd, Int.reduceLE, Int.reduceLT, Int.reduceEq, and_self, Int.reduceNeg, qrok_i, qrok_b0, qrok_b1, qrok_bI, Option.some.injEq, Value.int.injEq, J_bI0, J_bI1, Classical.not_not, Int.zero_add, Int.add_zero, Int.sub_zero, false_and, and_false, and_true, true_and, e_0, v_0, e_1, v_1, e_2, v_2, e_6, v_6, e_14, v_14, e_15, v_15, e_41, e_44, qspl_z, qspl_s, evC_s, evD_none, evD_v, evD_s, c_0, c_1, c_3, b_0, b_1, smE_176, sw_M_the, smE_177, sw_M_sets, (smE_no (k := 234) rfl), (smE_no (k := 261) rfl), r_M_nodeGoes_0, r_M_nodeGoes_1, r_M_nodeGoes_2, r_M_nodeGoes_3, r_M_nodeGoes_6, r_M_nodeGoes_7, r_M_nodeGoes_10, r_M_nodeGoes_11, r_M_nodeGoes_12, r_M_nodeGoes_14, r_M_nodeGoes_15, r_M_nodeGoes_16, r_M_nodeGoes_18, r_M_nodeGoes_21, r_M_nodeGoes_22, r_M_nodeGoes_23, r_M_nodeGoes_26, r_M_nodeGoes_27, r_M_nodeGoes_28, r_M_nodeGoes_30, r_M_nodeGoes_33, r_M_nodeGoes_36, r_M_nodeGoes_37, r_M_nodeGoes_38, r_M_nodeGoes_41, r_M_nodeGoes_42, r_M_nodeGoes_43, r_M_nodeGoes_44, r_M_nodeGoes_46, r_M_nodeGoes_47, r_M_nodeGoes_48, r_M_nodeGoes_50, r_M_nodeGoes_53, r_M_nodeGoes_54, r_M_nodeGoes_55, r_M_nodeGoes_58, r_M_nodeGoes_59, r_M_nodeGoes_60, r_M_nodeGoes_62, r_M_nodeGoes_65, r_M_nodeGoes_66, r_M_nodeGoes_69, r_M_nodeGoes_70, r_M_nodeGoes_71, r_M_nodeGoes_72, r_M_nodeGoes_75, (shS_o hs), (shS_r_now hs), (shS_k_now hs), nA_mk, lpI_mk, mnI_I, mxI_I, I_val, I_add, I_sub, I_mul, ShM_mk, hs, ndB_I, hM_jr, inB, smv hm, smn hm, bI_z, Bool.or_eq_true, Bool.or_false, Bool.false_or, beq_iff_eq, or_false, false_or, set_jA, uA_uA, uA_same, uA_ne, u1_ne, u1_same, nd_u1, nd_u1s, lpS_u1]
        exact ⟨r1, rfl, by rw [e1]; unfold ngS; rw [if_neg q, if_pos q2], Rx_tr xv x1⟩
      simp (disch := omega) only [ev_s, evN_ap, List.getElem?_cons_zero, List.getElem?_cons_succ, List.set_cons_zero, List.set_cons_succ, Bool.false_eq_true, ↓reduceIte, qrest_n, qrest_1, qrest_2, qrest_3, qrest_4, qrest_5, qrest_6, qtr_i, qtr_r, true_and, and_true, List.length_cons, List.length_nil, Int.cast_ofNat_Int, Int32.toInt_zero, false_implies, true_implies, not_false_eq_true, not_true_eq_false, Option.toList_some, Option.toList_none, List.cons_append, List.nil_append, Nat.reduceBEq, Nat.reduceEqDiff, Bool.or_self, or_self, Nat.reduceAdd, Nat.reduceLT, Nat.zero_add, Int.reduceAdd, Int.reduceLE, Int.reduceLT, Int.reduceEq, and_self, Int.reduceNeg, qrok_i, qrok_b0, qrok_b1, qrok_bI, Option.some.injEq, Value.int.injEq, J_bI0, J_bI1, Classical.not_not, Int.zero_add, Int.add_zero, Int.sub_zero, false_and, and_false, and_true, true_and, e_0, v_0, e_1, v_1, e_2, v_2, e_6, v_6, e_14, v_14, e_15, v_15, e_41, e_44, qspl_z, qspl_s, evC_s, evD_none, evD_v, evD_s, c_0, c_1, c_3, b_0, b_1, smE_176, sw_M_the, smE_177, sw_M_sets, (smE_no (k := 234) rfl), (smE_no (k := 261) rfl), r_M_nodeGoes_0, r_M_nodeGoes_1, r_M_nodeGoes_2, r_M_nodeGoes_3, r_M_nodeGoes_6, r_M_nodeGoes_7, r_M_nodeGoes_10, r_M_nodeGoes_11, r_M_nodeGoes_12, r_M_nodeGoes_14, r_M_nodeGoes_15, r_M_nodeGoes_16, r_M_nodeGoes_18, r_M_nodeGoes_21, r_M_nodeGoes_22, r_M_nodeGoes_23, r_M_nodeGoes_26, r_M_nodeGoes_27, r_M_nodeGoes_28, r_M_nodeGoes_30, r_M_nodeGoes_33, r_M_nodeGoes_36, r_M_nodeGoes_37, r_M_nodeGoes_38, r_M_nodeGoes_41, r_M_nodeGoes_42, r_M_nodeGoes_43, r_M_nodeGoes_44, r_M_nodeGoes_46, r_M_nodeGoes_47, r_M_nodeGoes_48, r_M_nodeGoes_50, r_M_nodeGoes_53, r_M_nodeGoes_54, r_M_nodeGoes_55, r_M_nodeGoes_58, r_M_nodeGoes_59, r_M_nodeGoes_60, r_M_nodeGoes_62, r_M_nodeGoes_65, r_M_nodeGoes_66, r_M_nodeGoes_69, r_M_nodeGoes_70, r_M_nodeGoes_71, r_M_nodeGoes_72, r_M_nodeGoes_75, (shS_o hs), (shS_r_now hs), (shS_k_now hs), nA_mk, lpI_mk, mnI_I, mxI_I, I_val, I_add, I_sub, I_mul, ShM_mk, hs, ndB_I, hM_jr, inB, smv hm, smn hm, bI_z, Bool.or_eq_true, Bool.or_false, Bool.false_or, beq_iff_eq, or_false, false_or, set_jA, uA_uA, uA_same, uA_ne, u1_ne, u1_same, nd_u1, nd_u1s, lpS_u1]
      repeat' (first | with_reducible apply And.intro | intro _)
      all_goals first | assumption | contradiction | trivial | (exact kK _ _ _ _ g) | (exact g) | (clear kK; omega)
    · have g : ∃ r', mkH s (jn c (uA r 2199 (u1 (r 2199) (244 * n + 10) (nd (r 2199) n 10 - 1)))) = mkH s (jn c r') ∧ r' 2199 = ngS (lwR r) (r 2199) n ∧ Rx r r' := ⟨_, rfl, by rw [uA_same]; unfold ngS; rw [if_neg q, if_neg q2], xv⟩
      simp (disch := omega) only [ev_s, evN_ap, List.getElem?_cons_zero, List.getElem?_cons_succ, List.set_cons_zero, List.set_cons_succ, Bool.false_eq_true, ↓reduceIte, qrest_n, qrest_1, qrest_2, qrest_3, qrest_4, qrest_5, qrest_6, qtr_i, qtr_r, true_and, and_true, List.length_cons, List.length_nil, Int.cast_ofNat_Int, Int32.toInt_zero, false_implies, true_implies, not_false_eq_true, not_true_eq_false, Option.toList_some, Option.toList_none, List.cons_append, List.nil_append, Nat.reduceBEq, Nat.reduceEqDiff, Bool.or_self, or_self, Nat.reduceAdd, Nat.reduceLT, Nat.zero_add, Int.reduceAdd, Int.reduceLE, Int.reduceLT, Int.reduceEq, and_self, Int.reduceNeg, qrok_i, qrok_b0, qrok_b1, qrok_bI, Option.some.injEq, Value.int.injEq, J_bI0, J_bI1, Classical.not_not, Int.zero_add, Int.add_zero, Int.sub_zero, false_and, and_false, and_true, true_and, e_0, v_0, e_1, v_1, e_2, v_2, e_6, v_6, e_14, v_14, e_15, v_15, e_41, e_44, qspl_z, qspl_s, evC_s, evD_none, evD_v, evD_s, c_0, c_1, c_3, b_0, b_1, smE_176, sw_M_the, smE_177, sw_M_sets, (smE_no (k := 234) rfl), (smE_no (k := 261) rfl), r_M_nodeGoes_0, r_M_nodeGoes_1, r_M_nodeGoes_2, r_M_nodeGoes_3, r_M_nodeGoes_6, r_M_nodeGoes_7, r_M_nodeGoes_10, r_M_nodeGoes_11, r_M_nodeGoes_12, r_M_nodeGoes_14, r_M_nodeGoes_15, r_M_nodeGoes_16, r_M_nodeGoes_18, r_M_nodeGoes_21, r_M_nodeGoes_22, r_M_nodeGoes_23, r_M_nodeGoes_26, r_M_nodeGoes_27, r_M_nodeGoes_28, r_M_nodeGoes_30, r_M_nodeGoes_33, r_M_nodeGoes_36, r_M_nodeGoes_37, r_M_nodeGoes_38, r_M_nodeGoes_41, r_M_nodeGoes_42, r_M_nodeGoes_43, r_M_nodeGoes_44, r_M_nodeGoes_46, r_M_nodeGoes_47, r_M_nodeGoes_48, r_M_nodeGoes_50, r_M_nodeGoes_53, r_M_nodeGoes_54, r_M_nodeGoes_55, r_M_nodeGoes_58, r_M_nodeGoes_59, r_M_nodeGoes_60, r_M_nodeGoes_62, r_M_nodeGoes_65, r_M_nodeGoes_66, r_M_nodeGoes_69, r_M_nodeGoes_70, r_M_nodeGoes_71, r_M_nodeGoes_72, r_M_nodeGoes_75, (shS_o hs), (shS_r_now hs), (shS_k_now hs), nA_mk, lpI_mk, mnI_I, mxI_I, I_val, I_add, I_sub, I_mul, ShM_mk, hs, ndB_I, hM_jr, inB, smv hm, smn hm, bI_z, Bool.or_eq_true, Bool.or_false, Bool.false_or, beq_iff_eq, or_false, false_or, set_jA, uA_uA, uA_same, uA_ne, u1_ne, u1_same, nd_u1, nd_u1s, lpS_u1]
      repeat' (first | with_reducible apply And.intro | intro _)
      all_goals first | assumption | contradiction | trivial | (exact kK _ _ _ _ g) | (exact g) | (clear kK; omega)
theorem L_hand (hd : 20 ≤ d) (hs : ShMs s) (hL : LOK r0) {x1 : Value} : ∀ (j : Nat) (r : qI), Ry r0 r → OK R (r 2199) → duW (r 2199) j → (∀ r', r' 2199 = hlS (lwR r0) j (r 2199) → Ry r0 r' → G l V mi_M_tickGoes (rm d) 0 0 Q 0 0 34 [.ref 2198, .int (Int32.ofInt 0)] [] (mkH s (jn c r'))) →
    G l V mi_M_tickGoes (rm d) 0 0 Q 0 0 18 [.ref 2198, x1] [] (mkH s (jn c r)) := by
  have stop : ∀ r : qI, OK R (r 2199) → tdI (r 2199) = -1 → G l V mi_M_tickGoes (rm d) 0 0 Q 0 0 34 [.ref 2198, .int (Int32.ofInt 0)] [] (mkH s (jn c r)) → G l V mi_M_tickGoes (rm d) 0 0 Q 0 0 18 [.ref 2198, x1] [] (mkH s (jn c r)) := by
    intro r ho h1 w
    have hm := OK_sm ho
    refine G_ev ok_M_tickGoes (smE_ok (d := d - 1) (by omega)) (fun _ => false) 200 (by omega) (fun K kK => ?_)
    simp (disch := omega) only [ev_s, evN_ap, List.getElem?_cons_zero, List.getElem?_cons_succ, List.set_cons_zero, List.set_cons_succ, Bool.false_eq_true, ↓reduceIte, qrest_n, qrest_1, qrest_2, qrest_3, qrest_4, qrest_5, qrest_6, qtr_i, qtr_r, true_and, and_true, List.length_cons, List.length_nil, Int.cast_ofNat_Int, Int32.toInt_zero, false_implies, true_implies, not_false_eq_true, not_true_eq_false, Option.toList_some, Option.toList_none, List.cons_append, List.nil_append, Nat.reduceBEq, Nat.reduceEqDiff, Bool.or_self, or_self, Nat.reduceAdd, Nat.reduceLT, Nat.zero_add, Int.reduceAdd, Int.reduceLE, Int.reduceLT, Int.reduceEq, and_self, Int.reduceNeg, qrok_i, qrok_b0, qrok_b1, qrok_bI, Option.some.injEq, Value.int.injEq, J_bI0, J_bI1, Classical.not_not, Int.zero_add, Int.add_zero, Int.sub_zero, false_and, and_false, and_true, true_and, e_0, v_0, e_1, v_1, e_2, v_2, e_3, v_3, e_5, v_5, e_6, v_6, e_13, v_13, e_14, v_14, e_15, v_15, e_20, v_20, e_24, v_24, e_25, v_25, e_41, e_44, qspl_z, qspl_s, evC_s, evD_none, evD_v, evD_s, c_0, c_3, b_0, smE_178, sw_M_isUp, (smE_no (k := 246) rfl), (smE_no (k := 247) rfl), (smE_no (k := 260) rfl), r_M_tickGoes_0, r_M_tickGoes_1, r_M_tickGoes_4, r_M_tickGoes_7, r_M_tickGoes_8, r_M_tickGoes_11, r_M_tickGoes_14, r_M_tickGoes_15, r_M_tickGoes_16, r_M_tickGoes_17, r_M_tickGoes_18, r_M_tickGoes_19, r_M_tickGoes_22, r_M_tickGoes_25, r_M_tickGoes_26, r_M_tickGoes_29, r_M_tickGoes_32, r_M_tickGoes_33, r_M_tickGoes_34, r_M_tickGoes_35, r_M_tickGoes_37, r_M_tickGoes_40, r_M_tickGoes_41, r_M_tickGoes_42, r_M_tickGoes_45, r_M_tickGoes_48, r_M_tickGoes_49, r_M_tickGoes_50, r_M_tickGoes_53, r_M_tickGoes_56, r_M_tickGoes_59, (shS_o hs), (shS_r_now hs), (shS_k_now hs), nA_mk, lpI_mk, mnI_I, mxI_I, I_val, I_add, I_sub, I_mul, ShM_mk, hs, ndB_I, hM_jr, inB, smv hm, smn hm, bI_z, Bool.or_eq_true, Bool.or_false, Bool.false_or, beq_iff_eq, or_false, false_or, set_jA, uA_uA, uA_same, uA_ne, u1_ne, u1_same, nd_u1, nd_u1s, lpS_u1]
    refine kK _ _ _ _ (GCQ ok_M_tickGoes r_M_tickGoes_19 ⟨by decide, by decide⟩ qm_M_takesDue (T_M_takesDue (d := d - 1) (R := R) (by omega) hs ho) rfl rfl (fun _ => rcM hs) rfl (Nat.le_of_ble_eq_true rfl) (by omega) (fun v1 h1' q1 => ?_))
    rcases q1 with ⟨-, rfl, rfl⟩ | ⟨z, -⟩
    · clear kK K
      refine G_ev ok_M_tickGoes (smE_ok (d := d - 1) (by omega)) (fun pc => pc == 18 || pc == 34) 200 (by omega) (fun K kK => ?_)
      simp (disch := omega) only [ev_s, evN_ap, List.getElem?_cons_zero, List.getElem?_cons_succ, List.set_cons_zero, List.set_cons_succ, Bool.false_eq_true, ↓reduceIte, qrest_n, qrest_1, qrest_2, qrest_3, qrest_4, qrest_5, qrest_6, qtr_i, qtr_r, true_and, and_true, List.length_cons, List.length_nil, Int.cast_ofNat_Int, Int32.toInt_zero, false_implies, true_implies, not_false_eq_true, not_true_eq_false, Option.toList_some, Option.toList_none, List.cons_append, List.nil_append, Nat.reduceBEq, Nat.reduceEqDiff, Bool.or_self, or_self, Nat.reduceAdd, Nat.reduceLT, Nat.zero_add, Int.reduceAdd, Int.reduceLE, Int.reduceLT, Int.reduceEq, and_self, Int.reduceNeg, qrok_i, qrok_b0, qrok_b1, qrok_bI, Option.some.injEq, Value.int.injEq, J_bI0, J_bI1, Classical.not_not, Int.zero_add, Int.add_zero, Int.sub_zero, false_and, and_false, and_true, true_and, e_0, v_0, e_1, v_1, e_2, v_2, e_3, v_3, e_5, v_5, e_6, v_6, e_13, v_13, e_14, v_14, e_15, v_15, e_20, v_20, e_24, v_24, e_25, v_25, e_41, e_44, qspl_z, qspl_s, evC_s, evD_none, evD_v, evD_s, c_0, c_3, b_0, smE_178, sw_M_isUp, (smE_no (k := 246) rfl), (smE_no (k := 247) rfl), (smE_no (k := 260) rfl), r_M_tickGoes_0, r_M_tickGoes_1, r_M_tickGoes_4, r_M_tickGoes_7, r_M_tickGoes_8, r_M_tickGoes_11, r_M_tickGoes_14, r_M_tickGoes_15, r_M_tickGoes_16, r_M_tickGoes_17, r_M_tickGoes_18, r_M_tickGoes_19, r_M_tickGoes_22, r_M_tickGoes_25, r_M_tickGoes_26, r_M_tickGoes_29, r_M_tickGoes_32, r_M_tickGoes_33, r_M_tickGoes_34, r_M_tickGoes_35, r_M_tickGoes_37, r_M_tickGoes_40, r_M_tickGoes_41, r_M_tickGoes_42, r_M_tickGoes_45, r_M_tickGoes_48, r_M_tickGoes_49, r_M_tickGoes_50, r_M_tickGoes_53, r_M_tickGoes_56, r_M_tickGoes_59, (shS_o hs), (shS_r_now hs), (shS_k_now hs), nA_mk, lpI_mk, mnI_I, mxI_I, I_val, I_add, I_sub, I_mul, ShM_mk, hs, ndB_I, hM_jr, inB, smv hm, smn hm, bI_z, Bool.or_eq_true, Bool.or_false, Bool.false_or, beq_iff_eq, or_false, false_or, set_jA, uA_uA, uA_same, uA_ne, u1_ne, u1_same, nd_u1, nd_u1s, lpS_u1]
      exact kK _ _ _ _ w
    · exact absurd h1 z
  intro j
  induction j with
  | zero =>
    intro r hx ho hw w
    have h1 : tdI (r 2199) = -1 := Classical.byContradiction (fun z => by have := (du_step (L := lwR r0) ho z lwR_ok hw).1; omega)
    exact stop r ho h1 (w r rfl hx)
  | succ j ih =>
    intro r hx ho hw w
    rw [hlS] at w
    by_cases h1 : tdI (r 2199) = -1
    · rw [if_pos h1] at w
      exact stop r ho h1 (w r rfl hx)
    · rw [if_neg h1] at w
      have hm := OK_sm ho
      have hr := tdI_rng ho h1
      have du := (du_step (L := lwR r0) ho h1 lwR_ok hw).2
      have hst := hstep (L := lwR r0) ho h1 lwR_ok
      have hMm := OK_m ho hr.1 hr.2
      have g3 := (OK_g ho).2.2.1
      have hrm := OK_rmM ho hr
      refine G_ev ok_M_tickGoes (smE_ok (d := d - 1) (by omega)) (fun _ => false) 200 (by omega) (fun K kK => ?_)
      simp (disch := omega) only [ev_s, evN_ap, List.getElem?_cons_zero, List.getElem?_cons_succ, List.set_cons_zero, List.set_cons_succ, Bool.false_eq_true, ↓reduceIte, qrest_n, qrest_1, qrest_2, qrest_3, qrest_4, qrest_5, qrest_6, qtr_i, qtr_r, true_and, and_true, List.length_cons, List.length_nil, Int.cast_ofNat_Int, Int32.toInt_zero, false_implies, true_implies, not_false_eq_true, not_true_eq_false, Option.toList_some, Option.toList_none, List.cons_append, List.nil_append, Nat.reduceBEq, Nat.reduceEqDiff, Bool.or_self, or_self, Nat.reduceAdd, Nat.reduceLT, Nat.zero_add, Int.reduceAdd, Int.reduceLE, Int.reduceLT, Int.reduceEq, and_self, Int.reduceNeg, qrok_i, qrok_b0, qrok_b1, qrok_bI, Option.some.injEq, Value.int.injEq, J_bI0, J_bI1, Classical.not_not, Int.zero_add, Int.add_zero, Int.sub_zero, false_and, and_false, and_true, true_and, e_0, v_0, e_1, v_1, e_2, v_2, e_3, v_3, e_5, v_5, e_6, v_6, e_13, v_13, e_14, v_14, e_15, v_15, e_20, v_20, e_24, v_24, e_25, v_25, e_41, e_44, qspl_z, qspl_s, evC_s, evD_none, evD_v, evD_s, c_0, c_3, b_0, smE_178, sw_M_isUp, (smE_no (k := 246) rfl), (smE_no (k := 247) rfl), (smE_no (k := 260) rfl), r_M_tickGoes_0, r_M_tickGoes_1, r_M_tickGoes_4, r_M_tickGoes_7, r_M_tickGoes_8, r_M_tickGoes_11, r_M_tickGoes_14, r_M_tickGoes_15, r_M_tickGoes_16, r_M_tickGoes_17, r_M_tickGoes_18, r_M_tickGoes_19, r_M_tickGoes_22, r_M_tickGoes_25, r_M_tickGoes_26, r_M_tickGoes_29, r_M_tickGoes_32, r_M_tickGoes_33, r_M_tickGoes_34, r_M_tickGoes_35, r_M_tickGoes_37, r_M_tickGoes_40, r_M_tickGoes_41, r_M_tickGoes_42, r_M_tickGoes_45, r_M_tickGoes_48, r_M_tickGoes_49, r_M_tickGoes_50, r_M_tickGoes_53, r_M_tickGoes_56, r_M_tickGoes_59, (shS_o hs), (shS_r_now hs), (shS_k_now hs), nA_mk, lpI_mk, mnI_I, mxI_I, I_val, I_add, I_sub, I_mul, ShM_mk, hs, ndB_I, hM_jr, inB, smv hm, smn hm, bI_z, Bool.or_eq_true, Bool.or_false, Bool.false_or, beq_iff_eq, or_false, false_or, set_jA, uA_uA, uA_same, uA_ne, u1_ne, u1_same, nd_u1, nd_u1s, lpS_u1]
      refine kK _ _ _ _ (GCQ ok_M_tickGoes r_M_tickGoes_19 ⟨by decide, by decide⟩ qm_M_takesDue (T_M_takesDue (d := d - 1) (R := R) (by omega) hs ho) rfl rfl (fun _ => rcM hs) rfl (Nat.le_of_ble_eq_true rfl) (by omega) (fun v1 h1' q1 => ?_))
      rcases q1 with ⟨z, -⟩ | ⟨-, rfl, rfl⟩
      · exact absurd z h1
      · clear kK K
        have y1 : Ry r (uA (uA r 2203 (cpN (r 2203) (r 2199) 0 (1708 + 27 * tdI (r 2199)) 27)) 2199 (rmM (r 2199) (tdI (r 2199)))) := Ry_tr Ry_3 (Ry_x (Rx_2199 (fun j j1 j2 => by rw [uA_ne (by omega)]; exact rm_off (OK_g ho) hr (by omega) (by omega))))
        have e3 : uA (uA r 2203 (cpN (r 2203) (r 2199) 0 (1708 + 27 * tdI (r 2199)) 27)) 2199 (rmM (r 2199) (tdI (r 2199))) 2203 = cpN (r 2203) (r 2199) 0 (1708 + 27 * tdI (r 2199)) 27 := by rw [uA_ne (by omega), uA_same]
        have ec : ∀ k, 0 ≤ k → k < 27 → cpN (r 2203) (r 2199) 0 (1708 + 27 * tdI (r 2199)) 27 k = ml (r 2199) (tdI (r 2199)) k := fun k k0 k1 => by unfold cpN ml; rw [if_pos (by omega)]; congr 1; omega
        have hM3 : MOK R (cpN (r 2203) (r 2199) 0 (1708 + 27 * tdI (r 2199)) 27) := MOK_c (fun e e1 e2 _ => ec e e1 e2) hMm
        have hms : ∀ k, 0 ≤ k → k < 27 → -100000 ≤ cpN (r 2203) (r 2199) 0 (1708 + 27 * tdI (r 2199)) 27 k ∧ cpN (r 2203) (r 2199) 0 (1708 + 27 * tdI (r 2199)) 27 k ≤ 100000 := fun k k0 k1 => by rw [ec k k0 k1]; exact hm _ (by omega)
        refine G_ev ok_M_tickGoes (smE_ok (d := d - 1) (by omega)) (fun pc => pc == 18 || pc == 34) 200 (by omega) (fun K kK => ?_)
        simp (disch := omega) only [ev_s, evN_ap, List.getElem?_cons_zero, List.getElem?_cons_succ, List.set_cons_zero, List.set_cons_succ, Bool.false_eq_true, ↓reduceIte, qrest_n, qrest_1, qrest_2, qrest_3, qrest_4, qrest_5, qrest_6, qtr_i, qtr_r, true_and, and_true, List.length_cons, List.length_nil, Int.cast_ofNat_Int, Int32.toInt_zero, false_implies, true_implies, not_false_eq_true, not_true_eq_false, Option.toList_some, Option.toList_none, List.cons_append, List.nil_append, Nat.reduceBEq, Nat.reduceEqDiff, Bool.or_self, or_self, Nat.reduceAdd, Nat.reduceLT, Nat.zero_add, Int.reduceAdd, Int.reduceLE, Int.reduceLT, Int.reduceEq, and_self, Int.reduceNeg, qrok_i, qrok_b0, qrok_b1, qrok_bI, Option.some.injEq, Value.int.injEq, J_bI0, J_bI1, Classical.not_not, Int.zero_add, Int.add_zero, Int.sub_zero, false_and, and_false, and_true, true_and, e_0, v_0, e_1, v_1, e_2, v_2, e_3, v_3, e_5, v_5, e_6, v_6, e_13, v_13, e_14, v_14, e_15, v_15, e_20, v_20, e_24, v_24, e_25, v_25, e_41, e_44, qspl_z, qspl_s, evC_s, evD_none, evD_v, evD_s, c_0, c_3, b_0, smE_178, sw_M_isUp, (smE_no (k := 246) rfl), (smE_no (k := 247) rfl), (smE_no (k := 260) rfl), r_M_tickGoes_0, r_M_tickGoes_1, r_M_tickGoes_4, r_M_tickGoes_7, r_M_tickGoes_8, r_M_tickGoes_11, r_M_tickGoes_14, r_M_tickGoes_15, r_M_tickGoes_16, r_M_tickGoes_17, r_M_tickGoes_18, r_M_tickGoes_19, r_M_tickGoes_22, r_M_tickGoes_25, r_M_tickGoes_26, r_M_tickGoes_29, r_M_tickGoes_32, r_M_tickGoes_33, r_M_tickGoes_34, r_M_tickGoes_35, r_M_tickGoes_37, r_M_tickGoes_40, r_M_tickGoes_41, r_M_tickGoes_42, r_M_tickGoes_45, r_M_tickGoes_48, r_M_tickGoes_49, r_M_tickGoes_50, r_M_tickGoes_53, r_M_tickGoes_56, r_M_tickGoes_59, (shS_o hs), (shS_r_now hs), (shS_k_now hs), nA_mk, lpI_mk, mnI_I, mxI_I, I_val, I_add, I_sub, I_mul, ShM_mk, hs, ndB_I, hM_jr, inB, smv hm, smn hm, bI_z, Bool.or_eq_true, Bool.or_false, Bool.false_or, beq_iff_eq, or_false, false_or, set_jA, uA_uA, uA_same, uA_ne, u1_ne, u1_same, nd_u1, nd_u1s, lpS_u1]
        refine kK _ _ _ _ (GCR ok_M_tickGoes r_M_tickGoes_26 ⟨by decide, by decide⟩ qm_M_isHanded (T_M_isHanded (d := d - 1) (R := R) (by omega) hs (by rw [uA_same]; exact hrm) (by rw [e3]; exact hM3) (by rw [e3]; exact hms) (Ry_LOK (Ry_tr hx y1) hL)) rfl rfl (fun _ => rcM hs) rfl (Nat.le_of_ble_eq_true rfl) (by omega) (fun r2 e2 x2 => ?_))
        refine G_ev ok_M_tickGoes (smE_ok (d := d - 1) (by omega)) (fun pc => pc == 18 || pc == 34) 200 (by omega) (fun K kK => ?_)
        rw [uA_same, e3, Ry_lw (Ry_tr hx y1) hL] at e2
        have e2 : r2 2199 = hdS (lwR r0) (rmM (r 2199) (tdI (r 2199))) (nrm (ml (r 2199) (tdI (r 2199)))) := by
          rw [e2, ← hd_c hM3.1.2.2.2.2.2.2.1]
          congr 1
          funext k
          unfold nrm; split
          · rename_i z; exact ec k z.1 z.2
          · rfl
        simp (disch := omega) only [ev_s, evN_ap, List.getElem?_cons_zero, List.getElem?_cons_succ, List.set_cons_zero, List.set_cons_succ, Bool.false_eq_true, ↓reduceIte, qrest_n, qrest_1, qrest_2, qrest_3, qrest_4, qrest_5, qrest_6, qtr_i, qtr_r, true_and, and_true, List.length_cons, List.length_nil, Int.cast_ofNat_Int, Int32.toInt_zero, false_implies, true_implies, not_false_eq_true, not_true_eq_false, Option.toList_some, Option.toList_none, List.cons_append, List.nil_append, Nat.reduceBEq, Nat.reduceEqDiff, Bool.or_self, or_self, Nat.reduceAdd, Nat.reduceLT, Nat.zero_add, Int.reduceAdd, Int.reduceLE, Int.reduceLT, Int.reduceEq, and_self, Int.reduceNeg, qrok_i, qrok_b0, qrok_b1, qrok_bI, Option.some.injEq, Value.int.injEq, J_bI0, J_bI1, Classical.not_not, Int.zero_add, Int.add_zero, Int.sub_zero, false_and, and_false, and_true, true_and, e_0, v_0, e_1, v_1, e_2, v_2, e_3, v_3, e_5, v_5, e_6, v_6, e_13, v_13, e_14, v_14, e_15, v_15, e_20, v_20, e_24, v_24, e_25, v_25, e_41, e_44, qspl_z, qspl_s, evC_s, evD_none, evD_v, evD_s, c_0, c_3, b_0, smE_178, sw_M_isUp, (smE_no (k := 246) rfl), (smE_no (k := 247) rfl), (smE_no (k := 260) rfl), r_M_tickGoes_0, r_M_tickGoes_1, r_M_tickGoes_4, r_M_tickGoes_7, r_M_tickGoes_8, r_M_tickGoes_11, r_M_tickGoes_14, r_M_tickGoes_15, r_M_tickGoes_16, r_M_tickGoes_17, r_M_tickGoes_18, r_M_tickGoes_19, r_M_tickGoes_22, r_M_tickGoes_25, r_M_tickGoes_26, r_M_tickGoes_29, r_M_tickGoes_32, r_M_tickGoes_33, r_M_tickGoes_34, r_M_tickGoes_35, r_M_tickGoes_37, r_M_tickGoes_40, r_M_tickGoes_41, r_M_tickGoes_42, r_M_tickGoes_45, r_M_tickGoes_48, r_M_tickGoes_49, r_M_tickGoes_50, r_M_tickGoes_53, r_M_tickGoes_56, r_M_tickGoes_59, (shS_o hs), (shS_r_now hs), (shS_k_now hs), nA_mk, lpI_mk, mnI_I, mxI_I, I_val, I_add, I_sub, I_mul, ShM_mk, hs, ndB_I, hM_jr, inB, smv hm, smn hm, bI_z, Bool.or_eq_true, Bool.or_false, Bool.false_or, beq_iff_eq, or_false, false_or, set_jA, uA_uA, uA_same, uA_ne, u1_ne, u1_same, nd_u1, nd_u1s, lpS_u1]
        refine kK _ _ _ _ (ih r2 (Ry_tr (Ry_tr hx y1) (Ry_x x2)) (by rw [e2]; exact hst) (by rw [e2]; rw [show ((j : Nat) : Int) = ((j + 1 : Nat) : Int) - 1 by omega]; exact du) (by rw [e2]; exact w))
theorem L_nodes (hd : 20 ≤ d) (hs : ShMs s) (hL : LOK r0) : ∀ (j : Nat) (n R : Int) (r : qI), n + j = 7 → 0 ≤ n → R + j ≤ 90000 → Ry r0 r → OK R (r 2199) → TKs (r 2199) → (∀ r', r' 2199 = nlF (lwR r0) j n (r 2199) → Ry r0 r' → Q none (mkH s (jn c r'))) →
    G l V mi_M_tickGoes (rm d) 0 0 Q 0 0 34 [.ref 2198, .int (Int32.ofInt n)] [] (mkH s (jn c r)) := by
  intro j
  induction j with
  | zero =>
    intro n R r hj h0 hR hx ho ht hQ
    have hm := OK_sm ho
    have := hQ r rfl hx
    refine G_ev ok_M_tickGoes (smE_ok (d := d - 1) (by omega)) (fun pc => pc == 18 || pc == 34) 200 (by omega) (fun K kK => ?_)
    simp (disch := omega) only [ev_s, evN_ap, List.getElem?_cons_zero, List.getElem?_cons_succ, List.set_cons_zero, List.set_cons_succ, Bool.false_eq_true, ↓reduceIte, qrest_n, qrest_1, qrest_2, qrest_3, qrest_4, qrest_5, qrest_6, qtr_i, qtr_r, true_and, and_true, List.length_cons, List.length_nil, Int.cast_ofNat_Int, Int32.toInt_zero, false_implies, true_implies, not_false_eq_true, not_true_eq_false, Option.toList_some, Option.toList_none, List.cons_append, List.nil_append, Nat.reduceBEq, Nat.reduceEqDiff, Bool.or_self, or_self, Nat.reduceAdd, Nat.reduceLT, Nat.zero_add, Int.reduceAdd, Int.reduceLE, Int.reduceLT, Int.reduceEq, and_self, Int.reduceNeg, qrok_i, qrok_b0, qrok_b1, qrok_bI, Option.some.injEq, Value.int.injEq, J_bI0, J_bI1, Classical.not_not, Int.zero_add, Int.add_zero, Int.sub_zero, false_and, and_false, and_true, true_and, e_0, v_0, e_1, v_1, e_2, v_2, e_3, v_3, e_5, v_5, e_6, v_6, e_13, v_13, e_14, v_14, e_15, v_15, e_20, v_20, e_24, v_24, e_25, v_25, e_41, e_44, qspl_z, qspl_s, evC_s, evD_none, evD_v, evD_s, c_0, c_3, b_0, smE_178, sw_M_isUp, (smE_no (k := 246) rfl), (smE_no (k := 247) rfl), (smE_no (k := 260) rfl), r_M_tickGoes_0, r_M_tickGoes_1, r_M_tickGoes_4, r_M_tickGoes_7, r_M_tickGoes_8, r_M_tickGoes_11, r_M_tickGoes_14, r_M_tickGoes_15, r_M_tickGoes_16, r_M_tickGoes_17, r_M_tickGoes_18, r_M_tickGoes_19, r_M_tickGoes_22, r_M_tickGoes_25, r_M_tickGoes_26, r_M_tickGoes_29, r_M_tickGoes_32, r_M_tickGoes_33, r_M_tickGoes_34, r_M_tickGoes_35, r_M_tickGoes_37, r_M_tickGoes_40, r_M_tickGoes_41, r_M_tickGoes_42, r_M_tickGoes_45, r_M_tickGoes_48, r_M_tickGoes_49, r_M_tickGoes_50, r_M_tickGoes_53, r_M_tickGoes_56, r_M_tickGoes_59, (shS_o hs), (shS_r_now hs), (shS_k_now hs), nA_mk, lpI_mk, mnI_I, mxI_I, I_val, I_add, I_sub, I_mul, ShM_mk, hs, ndB_I, hM_jr, inB, smv hm, smn hm, bI_z, Bool.or_eq_true, Bool.or_false, Bool.false_or, beq_iff_eq, or_false, false_or, set_jA, uA_uA, uA_same, uA_ne, u1_ne, u1_same, nd_u1, nd_u1s, lpS_u1]
    repeat' (first | with_reducible apply And.intro | intro _)
    all_goals first | assumption | contradiction | trivial | (exact kK _ _ _ _ this) | (exact this) | (clear kK; omega)
  | succ j ih =>
    intro n R r hj h0 hR hx ho ht hQ
    have hm := OK_sm ho
    have A0 := (OK_n ho (n := n) (by omega)).1.1
    rw [nlF] at hQ
    by_cases q : nd (r 2199) n 0 = 1
    · rw [if_pos q] at hQ
      refine G_ev ok_M_tickGoes (smE_ok (d := d - 1) (by omega)) (fun pc => pc == 18 || pc == 34) 200 (by omega) (fun K kK => ?_)
      simp (disch := omega) only [ev_s, evN_ap, List.getElem?_cons_zero, List.getElem?_cons_succ, List.set_cons_zero, List.set_cons_succ, Bool.false_eq_true, ↓reduceIte, qrest_n, qrest_1, qrest_2, qrest_3, qrest_4, qrest_5, qrest_6, qtr_i, qtr_r, true_and, and_true, List.length_cons, List.length_nil, Int.cast_ofNat_Int, Int32.toInt_zero, false_implies, true_implies, not_false_eq_true, not_true_eq_false, Option.toList_some, Option.toList_none, List.cons_append, List.nil_append, Nat.reduceBEq, Nat.reduceEqDiff, Bool.or_self, or_self, Nat.reduceAdd, Nat.reduceLT, Nat.zero_add, Int.reduceAdd, Int.reduceLE, Int.reduceLT, Int.reduceEq, and_self, Int.reduceNeg, qrok_i, qrok_b0, qrok_b1, qrok_bI, Option.some.injEq, Value.int.injEq, J_bI0, J_bI1, Classical.not_not, Int.zero_add, Int.add_zero, Int.sub_zero, false_and, and_false, and_true, true_and, e_0, v_0, e_1, v_1, e_2, v_2, e_3, v_3, e_5, v_5, e_6, v_6, e_13, v_13, e_14, v_14, e_15, v_15, e_20, v_20, e_24, v_24, e_25, v_25, e_41, e_44, qspl_z, qspl_s, evC_s, evD_none, evD_v, evD_s, c_0, c_3, b_0, smE_178, sw_M_isUp, (smE_no (k := 246) rfl), (smE_no (k := 247) rfl), (smE_no (k := 260) rfl), r_M_tickGoes_0, r_M_tickGoes_1, r_M_tickGoes_4, r_M_tickGoes_7, r_M_tickGoes_8, r_M_tickGoes_11, r_M_tickGoes_14, r_M_tickGoes_15, r_M_tickGoes_16, r_M_tickGoes_17, r_M_tickGoes_18, r_M_tickGoes_19, r_M_tickGoes_22, r_M_tickGoes_25, r_M_tickGoes_26, r_M_tickGoes_29, r_M_tickGoes_32, r_M_tickGoes_33, r_M_tickGoes_34, r_M_tickGoes_35, r_M_tickGoes_37, r_M_tickGoes_40, r_M_tickGoes_41, r_M_tickGoes_42, r_M_tickGoes_45, r_M_tickGoes_48, r_M_tickGoes_49, r_M_tickGoes_50, r_M_tickGoes_53, r_M_tickGoes_56, r_M_tickGoes_59, (shS_o hs), (shS_r_now hs), (shS_k_now hs), nA_mk, lpI_mk, mnI_I, mxI_I, I_val, I_add, I_sub, I_mul, ShM_mk, hs, ndB_I, hM_jr, inB, smv hm, smn hm, bI_z, Bool.or_eq_true, Bool.or_false, Bool.false_or, beq_iff_eq, or_false, false_or, set_jA, uA_uA, uA_same, uA_ne, u1_ne, u1_same, nd_u1, nd_u1s, lpS_u1, q]
      refine ⟨fun z => absurd z (by omega), fun _ => ⟨fun z => absurd (by omega) z, fun _ => ?_⟩⟩
      refine kK _ _ _ _ (GCR ok_M_tickGoes r_M_tickGoes_50 ⟨by decide, by decide⟩ qm_M_nodeGoes (T_M_nodeGoes (d := d - 1) (R := R) (by omega) hs (by omega) ho (by omega) (ht n (by omega) (by omega)) (Ry_LOK hx hL)) rfl rfl (fun _ => rcM hs) rfl (Nat.le_of_ble_eq_true rfl) (by omega) (fun r1 e1 x1 => ?_))
      refine G_ev ok_M_tickGoes (smE_ok (d := d - 1) (by omega)) (fun pc => pc == 18 || pc == 34) 200 (by omega) (fun K kK => ?_)
      rw [Ry_lw hx hL] at e1
      simp (disch := omega) only [ev_s, evN_ap, List.getElem?_cons_zero, List.getElem?_cons_succ, List.set_cons_zero, List.set_cons_succ, Bool.false_eq_true, ↓reduceIte, qrest_n, qrest_1, qrest_2, qrest_3, qrest_4, qrest_5, qrest_6, qtr_i, qtr_r, true_and, and_true, List.length_cons, List.length_nil, Int.cast_ofNat_Int, Int32.toInt_zero, false_implies, true_implies, not_false_eq_true, not_true_eq_false, Option.toList_some, Option.toList_none, List.cons_append, List.nil_append, Nat.reduceBEq, Nat.reduceEqDiff, Bool.or_self, or_self, Nat.reduceAdd, Nat.reduceLT, Nat.zero_add, Int.reduceAdd, Int.reduceLE, Int.reduceLT, Int.reduceEq, and_self, Int.reduceNeg, qrok_i, qrok_b0, qrok_b1, qrok_bI, Option.some.injEq, Value.int.injEq, J_bI0, J_bI1, Classical.not_not, Int.zero_add, Int.add_zero, Int.sub_zero, false_and, and_false, and_true, true_and, e_0, v_0, e_1, v_1, e_2, v_2, e_3, v_3, e_5, v_5, e_6, v_6, e_13, v_13, e_14, v_14, e_15, v_15, e_20, v_20, e_24, v_24, e_25, v_25, e_41, e_44, qspl_z, qspl_s, evC_s, evD_none, evD_v, evD_s, c_0, c_3, b_0, smE_178, sw_M_isUp, (smE_no (k := 246) rfl), (smE_no (k := 247) rfl), (smE_no (k := 260) rfl), r_M_tickGoes_0, r_M_tickGoes_1, r_M_tickGoes_4, r_M_tickGoes_7, r_M_tickGoes_8, r_M_tickGoes_11, r_M_tickGoes_14, r_M_tickGoes_15, r_M_tickGoes_16, r_M_tickGoes_17, r_M_tickGoes_18, r_M_tickGoes_19, r_M_tickGoes_22, r_M_tickGoes_25, r_M_tickGoes_26, r_M_tickGoes_29, r_M_tickGoes_32, r_M_tickGoes_33, r_M_tickGoes_34, r_M_tickGoes_35, r_M_tickGoes_37, r_M_tickGoes_40, r_M_tickGoes_41, r_M_tickGoes_42, r_M_tickGoes_45, r_M_tickGoes_48, r_M_tickGoes_49, r_M_tickGoes_50, r_M_tickGoes_53, r_M_tickGoes_56, r_M_tickGoes_59, (shS_o hs), (shS_r_now hs), (shS_k_now hs), nA_mk, lpI_mk, mnI_I, mxI_I, I_val, I_add, I_sub, I_mul, ShM_mk, hs, ndB_I, hM_jr, inB, smv hm, smn hm, bI_z, Bool.or_eq_true, Bool.or_false, Bool.false_or, beq_iff_eq, or_false, false_or, set_jA, uA_uA, uA_same, uA_ne, u1_ne, u1_same, nd_u1, nd_u1s, lpS_u1]
      refine kK _ _ _ _ (ih (n + 1) (R + 1) r1 (by omega) (by omega) (by omega) (Ry_tr hx (Ry_x x1)) ?_ ?_ ?_)
      · rw [e1]; exact OK_ng ho (by omega) lwR_ok (by omega) (ht n (by omega) (by omega))
      · rw [e1]; exact (TK_ng ho (by omega) lwR_ok (by omega) ht).1
      · rw [e1]; exact hQ
    · rw [if_neg q] at hQ
      have g := ih (n + 1) (R + 1) r (by omega) (by omega) (by omega) hx (OK_mono ho (by omega) (by omega)) ht hQ
      refine G_ev ok_M_tickGoes (smE_ok (d := d - 1) (by omega)) (fun pc => pc == 18 || pc == 34) 200 (by omega) (fun K kK => ?_)
      simp (disch := omega) only [ev_s, evN_ap, List.getElem?_cons_zero, List.getElem?_cons_succ, List.set_cons_zero, List.set_cons_succ, Bool.false_eq_true, ↓reduceIte, qrest_n, qrest_1, qrest_2, qrest_3, qrest_4, qrest_5, qrest_6, qtr_i, qtr_r, true_and, and_true, List.length_cons, List.length_nil, Int.cast_ofNat_Int, Int32.toInt_zero, false_implies, true_implies, not_false_eq_true, not_true_eq_false, Option.toList_some, Option.toList_none, List.cons_append, List.nil_append, Nat.reduceBEq, Nat.reduceEqDiff, Bool.or_self, or_self, Nat.reduceAdd, Nat.reduceLT, Nat.zero_add, Int.reduceAdd, Int.reduceLE, Int.reduceLT, Int.reduceEq, and_self, Int.reduceNeg, qrok_i, qrok_b0, qrok_b1, qrok_bI, Option.some.injEq, Value.int.injEq, J_bI0, J_bI1, Classical.not_not, Int.zero_add, Int.add_zero, Int.sub_zero, false_and, and_false, and_true, true_and, e_0, v_0, e_1, v_1, e_2, v_2, e_3, v_3, e_5, v_5, e_6, v_6, e_13, v_13, e_14, v_14, e_15, v_15, e_20, v_20, e_24, v_24, e_25, v_25, e_41, e_44, qspl_z, qspl_s, evC_s, evD_none, evD_v, evD_s, c_0, c_3, b_0, smE_178, sw_M_isUp, (smE_no (k := 246) rfl), (smE_no (k := 247) rfl), (smE_no (k := 260) rfl), r_M_tickGoes_0, r_M_tickGoes_1, r_M_tickGoes_4, r_M_tickGoes_7, r_M_tickGoes_8, r_M_tickGoes_11, r_M_tickGoes_14, r_M_tickGoes_15, r_M_tickGoes_16, r_M_tickGoes_17, r_M_tickGoes_18, r_M_tickGoes_19, r_M_tickGoes_22, r_M_tickGoes_25, r_M_tickGoes_26, r_M_tickGoes_29, r_M_tickGoes_32, r_M_tickGoes_33, r_M_tickGoes_34, r_M_tickGoes_35, r_M_tickGoes_37, r_M_tickGoes_40, r_M_tickGoes_41, r_M_tickGoes_42, r_M_tickGoes_45, r_M_tickGoes_48, r_M_tickGoes_49, r_M_tickGoes_50, r_M_tickGoes_53, r_M_tickGoes_56, r_M_tickGoes_59, (shS_o hs), (shS_r_now hs), (shS_k_now hs), nA_mk, lpI_mk, mnI_I, mxI_I, I_val, I_add, I_sub, I_mul, ShM_mk, hs, ndB_I, hM_jr, inB, smv hm, smn hm, bI_z, Bool.or_eq_true, Bool.or_false, Bool.false_or, beq_iff_eq, or_false, false_or, set_jA, uA_uA, uA_same, uA_ne, u1_ne, u1_same, nd_u1, nd_u1s, lpS_u1, q]
      repeat' (first | with_reducible apply And.intro | intro _)
      all_goals first | assumption | contradiction | trivial | (exact kK _ _ _ _ g) | (exact g) | (clear kK; omega)
set_option maxHeartbeats 2000000 in
set_option maxRecDepth 100000 in
theorem T_M_tickGoes (hd : 20 ≤ d) (hs : ShMs s) (ho : OK R (r 2199)) (ht : TKs (r 2199)) (hR : R + 7 ≤ 90000) (h9 : r 2199 11131 < 9999) (hL : LOK r) : TY l V d mi_M_tickGoes [.ref 2198] s c r none (tkS (lwR r) (r 2199)) := by
  refine T_ev qm_M_tickGoes [.ref 2198, .retAddr 0] rfl rfl (Nat.le_of_ble_eq_true rfl) ok_M_tickGoes (smE_ok (d := d - 1) (by omega)) (fun pc => pc == 18 || pc == 34) 200 (by omega) (fun K kK => ?_)
  have hm := OK_sm ho
  have g1 := (OK_g ho).1
  have g3 := (OK_g ho).2.2.1
  have h0 := OK_tick0 ho h9
  have y0 : Ry r (uA r 2199 (u1 (r 2199) 11131 (r 2199 11131 + 1))) := Ry_x (Rx_2199 (fun j j1 j2 => u1_ne (by omega)))
  have t0 : TKs (u1 (r 2199) 11131 (r 2199 11131 + 1)) := TKs_tk ht (Tk_lo (fun j hj => u1_ne (by omega)))
  simp (disch := omega) only [ev_s, evN_ap, List.getElem?_cons_zero, List.getElem?_cons_succ, List.set_cons_zero, List.set_cons_succ, Bool.false_eq_true, ↓reduceIte, qrest_n, qrest_1, qrest_2, qrest_3, qrest_4, qrest_5, qrest_6, qtr_i, qtr_r, true_and, and_true, List.length_cons, List.length_nil, Int.cast_ofNat_Int, Int32.toInt_zero, false_implies, true_implies, not_false_eq_true, not_true_eq_false, Option.toList_some, Option.toList_none, List.cons_append, List.nil_append, Nat.reduceBEq, Nat.reduceEqDiff, Bool.or_self, or_self, Nat.reduceAdd, Nat.reduceLT, Nat.zero_add, Int.reduceAdd, Int.reduceLE, Int.reduceLT, Int.reduceEq, and_self, Int.reduceNeg, qrok_i, qrok_b0, qrok_b1, qrok_bI, Option.some.injEq, Value.int.injEq, J_bI0, J_bI1, Classical.not_not, Int.zero_add, Int.add_zero, Int.sub_zero, false_and, and_false, and_true, true_and, e_0, v_0, e_1, v_1, e_2, v_2, e_3, v_3, e_5, v_5, e_6, v_6, e_13, v_13, e_14, v_14, e_15, v_15, e_20, v_20, e_24, v_24, e_25, v_25, e_41, e_44, qspl_z, qspl_s, evC_s, evD_none, evD_v, evD_s, c_0, c_3, b_0, smE_178, sw_M_isUp, (smE_no (k := 246) rfl), (smE_no (k := 247) rfl), (smE_no (k := 260) rfl), r_M_tickGoes_0, r_M_tickGoes_1, r_M_tickGoes_4, r_M_tickGoes_7, r_M_tickGoes_8, r_M_tickGoes_11, r_M_tickGoes_14, r_M_tickGoes_15, r_M_tickGoes_16, r_M_tickGoes_17, r_M_tickGoes_18, r_M_tickGoes_19, r_M_tickGoes_22, r_M_tickGoes_25, r_M_tickGoes_26, r_M_tickGoes_29, r_M_tickGoes_32, r_M_tickGoes_33, r_M_tickGoes_34, r_M_tickGoes_35, r_M_tickGoes_37, r_M_tickGoes_40, r_M_tickGoes_41, r_M_tickGoes_42, r_M_tickGoes_45, r_M_tickGoes_48, r_M_tickGoes_49, r_M_tickGoes_50, r_M_tickGoes_53, r_M_tickGoes_56, r_M_tickGoes_59, (shS_o hs), (shS_r_now hs), (shS_k_now hs), nA_mk, lpI_mk, mnI_I, mxI_I, I_val, I_add, I_sub, I_mul, ShM_mk, hs, ndB_I, hM_jr, inB, smv hm, smn hm, bI_z, Bool.or_eq_true, Bool.or_false, Bool.false_or, beq_iff_eq, or_false, false_or, set_jA, uA_uA, uA_same, uA_ne, u1_ne, u1_same, nd_u1, nd_u1s, lpS_u1]
  refine kK _ _ _ _ (L_hand (R := R) (by omega) hs hL (r 2199 11133).toNat _ y0 (by rw [uA_same]; exact h0) ?_ (fun r1 e1 x1 => ?_))
  · rw [uA_same]
    refine ⟨⟨by omega, by rw [u1_ne (by omega)]; omega⟩, fun m m1 m2 => ?_⟩
    rw [u1_ne (by omega)] at m2
    omega
  · rw [uA_same] at e1
    refine L_nodes (by omega) hs hL 7 0 R r1 (by omega) (by omega) (by omega) x1 ?_ ?_ (fun r2 e2 x2 => ⟨rfl, r2, rfl, ?_, x2⟩)
    · rw [e1]; exact OK_hl lwR_ok _ _ h0
    · rw [e1]; exact TKs_tk t0 (Tk_hl lwR_ok _ _ h0)
    · rw [e2, e1]; unfold tkS; rfl
end MS
