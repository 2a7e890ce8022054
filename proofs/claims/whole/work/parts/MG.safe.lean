/-! safety: the invariant of a row, kept by all that a row can be asked -/
def sfB (S : qN) : Prop := (0 ≤ S 11133 ∧ S 11133 ≤ 160) ∧ (0 ≤ S 11135 ∧ S 11135 ≤ 16) ∧ (∀ n, 0 ≤ n → n ≤ 6 → 0 ≤ nd S n 8 ∧ nd S n 8 ≤ 48) ∧ (∀ m, 0 ≤ m → m < S 11135 → 0 ≤ S (11028 + 6 * m) ∧ S (11028 + 6 * m) ≤ 6) ∧ ∀ m, 0 ≤ m → m < S 11133 → 0 ≤ ml S m 1 ∧ ml S m 1 ≤ 6
def sfV (S : qN) : Prop := sfB S ∧ (RI S ∧ ∀ n, 0 ≤ n → n ≤ 6 → nd S n 3 = 2 → NX S n) ∧ hdN S ∧ sfJ S
section Su
variable {n : Int} {R x u t i m p q e c v r w y k b a : Int} {S S' T M F : qN} {L : qL}
theorem sfB_ok (ok : OK R S) : sfB S := ⟨(OK_g ok).2.2.1, OK_aOk ok, fun n n0 n6 => by have := (OK_nOk ok ⟨n0, n6⟩).2; omega, fun m m0 m1 => (OK_q ok m m0 m1).1, fun m m0 m1 => (OK_m ok m0 m1).1.2.1⟩
theorem sfV_X (h : sfV S) (hn : 0 ≤ n ∧ n ≤ 6) : RX S n := ⟨h.2.1.1, h.2.1.2 n hn.1 hn.2⟩
/-- a step of node n -/
theorem sfV_s (hn : 0 ≤ n ∧ n ≤ 6) (h : sfV S) (ok' : OK R S') (o : Ot n S S') (rx : RX S' n) (d : hdN S') (j : sfJ S') : sfV S' := by
  refine ⟨sfB_ok ok', ⟨rx.1, fun k k0 k6 h3 => ?_⟩, d, j⟩
  by_cases q : k = n
  · subst q; exact rx.2 h3
  · have f : ∀ e, 0 ≤ e → e < 244 → nd S' k e = nd S k e := fun e e0 e1 => o k e k0 k6 ⟨q, e0, e1⟩
    exact NX_c (h.2.1.2 k k0 k6 (by rw [← f 3 (by omega) (by omega)]; exact h3)) (fun k' k0 k6 => f _ (by omega) (by omega)) (by rw [f 4 (by omega) (by omega), f 8 (by omega) (by omega)]; omega)
/-- only its cells matter -/
theorem sfJ_c (hb : sfB S) (h : ∀ j, 0 ≤ j → j < 1708 + 27 * S 11133 ∨ j = 11133 ∨ (10028 ≤ j ∧ j < 11028) → S' j = S j) (j : sfJ S) : sfJ S' := by
  obtain ⟨gl, gn, ge, ld, ak, vo, ct, cn, K, z, fl, H, N, ⟨A, q⟩, B⟩ := j
  obtain ⟨b1, b2, b3, b4, b5⟩ := hb
  refine ⟨gl, gn, ge, ld, ak, vo, ct, cn, K, z, fl, H, fun n n0 n6 => sfNS_cg (b3 n n0 n6).2 (fun e he => h _ (by unfold sfR at he; omega) (by unfold sfR at he; omega)) (N n n0 n6), ⟨fun m m0 m1 => ?_, sfQ_c (fun j j1 j2 => h j (by omega) (by omega)) q⟩, B⟩
  rw [h 11133 (by omega) (by omega)] at m1
  exact sfM_cg (fun k k0 k1 _ => h _ (by omega) (by omega)) (A m m0 m1)
theorem sfV_c (h : sfV S) (e : ∀ j, 0 ≤ j → j < 6028 ∨ (10028 ≤ j ∧ j < 11124) ∨ j = 11133 ∨ j = 11135 → S' j = S j) : sfV S' := by
  obtain ⟨hb, ⟨h1, h2⟩, h3, h4⟩ := h
  have hb' := hb
  obtain ⟨b1, b2, b3, b4, b5⟩ := hb
  have f : ∀ n k, 0 ≤ n → n ≤ 6 → 0 ≤ k → k < 244 → nd S' n k = nd S n k := fun n k n0 n6 k0 k1 => e _ (by omega) (by omega)
  refine ⟨⟨by rw [e 11133 (by omega) (by omega)]; exact b1, by rw [e 11135 (by omega) (by omega)]; exact b2, fun n n0 n6 => by rw [f n 8 n0 n6 (by omega) (by omega)]; exact b3 n n0 n6, fun m m0 m1 => ?_, fun m m0 m1 => ?_⟩, ⟨fun m m0 m1 q => ?_, fun n n0 n6 q => ?_⟩, fun m m0 m1 hm => ?_, sfJ_c hb' (fun j j0 j1 => e j j0 (by omega)) h4⟩
  · rw [e 11135 (by omega) (by omega)] at m1
    rw [e (11028 + 6 * m) (by omega) (by omega)]
    exact b4 m m0 m1
  · rw [e 11133 (by omega) (by omega)] at m1
    unfold ml
    rw [e _ (by omega) (by omega)]
    exact b5 m m0 m1
  · rw [e 11135 (by omega) (by omega)] at m1
    rw [e (11028 + 6 * m + 4) (by omega) (by omega)] at q
    have y := b4 m m0 m1
    rw [e (11028 + 6 * m) (by omega) (by omega), f _ 3 y.1 y.2 (by omega) (by omega)]
    exact h1 m m0 m1 q
  · rw [f n 3 n0 n6 (by omega) (by omega)] at q
    exact NX_c (h2 n n0 n6 q) (fun k k0 k6 => f n _ n0 n6 (by omega) (by omega)) (by rw [f n 4 n0 n6 (by omega) (by omega), f n 8 n0 n6 (by omega) (by omega)]; omega)
  · rw [f m 0 m0 m1 (by omega) (by omega)] at hm
    rw [f m 3 m0 m1 (by omega) (by omega), f m 11 m0 m1 (by omega) (by omega)]
    exact h3 m m0 m1 hm
theorem sfV_ck (h : sfV S) : sfV (u1 S 11131 x) := sfV_c h (fun j j0 j1 => u1_ne (by omega))
theorem sfV_ldr (h : sfV S) (hn : 0 ≤ n ∧ n ≤ 6) (h3 : nd S n 3 = 2) : LDR S n := ⟨h.2.1.2 n hn.1 hn.2 h3, sfI_ldr hn h3 h.2.2.2⟩
theorem sfV_mb (h : sfV S) (hm : 0 ≤ m ∧ m < S 11133) : MB S (ml S m) := by
  obtain ⟨⟨b1, b2, b3, b4, b5⟩, -, -, gl, gn, ge, ld, ak, vo, ct, cn, K, z, fl, H, N, A, B⟩ := h
  exact sfI_mb (b5 m hm.1 hm.2) ⟨gl, gn, ge, ld, ak, vo, ct, cn, K, z, fl, H, N, A, A.1 m hm.1 hm.2⟩
/-- nobody but itself has led the term for which a node counts a majority -/
theorem CW_c (hn : nOk S n) (lg : lgEq S S' n) (e12 : nd S' n 12 = nd S n 12) (e1 : nd S' n 1 = nd S n 1) (q : ∀ j, 10028 ≤ j → j < 11028 → S' j = S j) (t : 0 ≤ nd S n 1 ∧ nd S n 1 ≤ 999) (h : CWr S n) : CWr S' n := by
  unfold CWr at *
  rw [e12, e1, lg_most lg hn, q _ (by omega) (by omega)]
  exact h
theorem sfV_stw (ok : OK R S) (hn : 0 ≤ n ∧ n ≤ 6) (hl : LwOK L) (h : sfV S) : STW L (u1 S (244 * n + 10) v) n := by
  intro q1 q2
  have tq : nd (u1 S (244 * n + 10) v) n 1 = nd S n 1 := nd_u1 (by omega)
  rw [tq] at q1
  have okd := OK_cd ok hn q1
  have okt := OK_tm (L := L) okd hn hl
  have gt := sfI_tm (L := L) okd hn (sfI_cd ok hn h.2.2.2)
  have d1 : ∀ T : qN, nd (cdS T n (shZ 1 n)) n 1 = nd T n 1 + 1 := fun T => by unfold cdS; rw [nd_u1 (by omega), nd_u1 (by omega), nd_u1 (by omega), nd_u1 (by omega), nd_u1s]
  have d3 : nd (cdS S n (shZ 1 n)) n 3 = 1 := by unfold cdS; rw [nd_u1 (by omega), nd_u1 (by omega), nd_u1 (by omega), nd_u1s]
  have d12 : ∀ T : qN, nd (cdS T n (shZ 1 n)) n 12 = shZ 1 n := fun T => by unfold cdS; rw [nd_u1 (by omega), nd_u1s]
  have a : ∀ (T : qN) e, 0 ≤ e → e < 244 → e ≠ 10 → nd (tmS L T n) n e = nd T n e := fun T e e0 e1 e2 => tm_nd hn hn ⟨e0, e1⟩ (by omega)
  have k1 : ∀ (T : qN) j, 10028 ≤ j → j < 11028 → tmS L T n j = T j := fun T j j0 j1 => by unfold tmS rnS; rw [u1_ne (by omega), u1_ne (by omega)]
  have k2 : ∀ (T : qN) j, 10028 ≤ j → j < 11028 → cdS T n (shZ 1 n) j = T j := fun T j j0 j1 => by unfold cdS; rw [u1_ne (by omega), u1_ne (by omega), u1_ne (by omega), u1_ne (by omega), u1_ne (by omega)]
  have t9 := (OK_n okt hn).1.2.1
  have cw := CW_I okt hn (by rw [a _ 3 (by omega) (by omega) (by omega)]; exact d3) gt
  refine CW_c (OK_nOk okt hn) (fun e he => ?_) ?_ ?_ (fun j j0 j1 => ?_) t9 cw
  · rw [a _ e (by omega) (by omega) (by omega), a _ e (by omega) (by omega) (by omega), cd_e (by omega), cd_e (by omega), nd_u1 (by omega)]
  · rw [a _ 12 (by omega) (by omega) (by omega), a _ 12 (by omega) (by omega) (by omega), d12, d12]
  · rw [a _ 1 (by omega) (by omega) (by omega), a _ 1 (by omega) (by omega) (by omega), d1, d1, tq]
  · rw [k1 _ j j0 j1, k1 _ j j0 j1, k2 _ j j0 j1, k2 _ j j0 j1, u1_ne (by omega)]
theorem sfV_hcw (ok : OK R S) (q : tdI S ≠ -1) (h : sfV S) : HCW (rmM S (tdI S)) (nrm (ml S (tdI S))) := by
  have hr := tdI_rng ok q
  have ok1 := OK_rmM ok hr
  have hM := nrm_ok (OK_m ok hr.1 hr.2)
  have j1 := sfI_hd1 ok1 hM (sfI_rm ok hr h.2.2.2)
  have ok2 := OK_hd1 ok1 hM
  have hn := hM.1.2.1
  intro _ q1 q2 q3 q4
  exact CW_I (OK_hv1 ok2 hn hM) hn (by unfold hv1; rw [nd_u1 (by omega)]; exact q2) (sfI_hv1 ok2 hn hM rfl q1 q2 q3 q4 j1)
/-- what is due is handed over -/
theorem sfV_rm (ok : OK R S) (ha : 0 ≤ a ∧ a < S 11133) (h : sfV S) : sfV (rmM S a) := by
  have g := OK_g ok
  have g3 := g.2.2.1
  have e : ∀ j, j < 1708 ∨ 6028 ≤ j → j ≠ 11133 → rmM S a j = S j := fun j j0 j1 => rm_off g ha j0 j1
  have f : ∀ n k, 0 ≤ n → n ≤ 6 → 0 ≤ k → k < 244 → nd (rmM S a) n k = nd S n k := fun n k n0 n6 k0 k1 => e _ (by omega) (by omega)
  exact ⟨sfB_ok (OK_rmM ok ha), ⟨RI_rm ok ha h.2.1.1, fun n n0 n6 q => NX_c (h.2.1.2 n n0 n6 (by rw [← f n 3 n0 n6 (by omega) (by omega)]; exact q)) (fun k k0 k6 => f n _ n0 n6 (by omega) (by omega)) (by rw [f n 4 n0 n6 (by omega) (by omega), f n 8 n0 n6 (by omega) (by omega)]; omega)⟩, hdN_lo h.2.2.1 (fun j hj => e j (by omega) (by omega)), sfJ_I (sfI_rm ok ha h.2.2.2)⟩
theorem sfV_hd (ok : OK R S) (q : tdI S ≠ -1) (hl : LwOK L) (h : sfV S) : sfV (hdS L (rmM S (tdI S)) (nrm (ml S (tdI S)))) := by
  have hr := tdI_rng ok q
  have ok1 := OK_rmM ok hr
  have hM := nrm_ok (OK_m ok hr.1 hr.2)
  have h1 := sfV_rm ok hr h
  have j1 := sfI_rm ok hr h.2.2.2
  have hn := hM.1.2.1
  have rx := sfV_X h1 hn
  exact sfV_s hn h1 (OK_hd ok1 hM hl) (Ot_hd ok1 hM hl) (RX_hd ok1 hM hl j1 rx) (hdN_hd h1.2.2.1 ok1 hM hl) (sfJ_I (sfI_hd ok1 hM rx.2 rx.1 hl j1))
theorem sfV_ng (ok : OK R S) (ht : TKs S) (hR : R + 1 ≤ 90000) (hn : 0 ≤ n ∧ n ≤ 6) (u : nd S n 0 = 1) (hl : LwOK L) (h : sfV S) : sfV (ngS L S n) := by
  have tn := ht n hn.1 hn.2
  exact sfV_s hn h (OK_ng ok hn hl hR tn) (Ot_ng ok hn hl hR ht) (RX_ng ok hn hl hR tn (sfV_X h hn)) (hdN_ng h.2.2.1 ok hn hl hR ht u) (sfI_ng ok hn hl hR tn (sfV_X h hn).2 h.2.2.2)
theorem sfV_hl (hl : LwOK L) : ∀ (j : Nat) (S : qN), OK R S → sfV S → sfV (hlS L j S)
  | 0, _, _, h => h
  | j + 1, S, ok, h => by
    rw [hlS]
    split
    · exact h
    · rename_i q
      exact sfV_hl hl j _ (hstep ok q hl) (sfV_hd ok q hl h)
theorem sfV_nl (hl : LwOK L) : ∀ (j : Nat) (n R : Int) (S : qN), n + j = 7 → 0 ≤ n → R + j ≤ 90000 → OK R S → TKs S → sfV S → sfV (nlF L j n S)
  | 0, _, _, _, _, _, _, _, _, h => h
  | j + 1, n, R, S, hj, n0, hR, ok, ht, h => by
    have hn : 0 ≤ n ∧ n ≤ 6 := by omega
    rw [nlF]
    split
    · rename_i u
      exact sfV_nl hl j (n + 1) (R + 1) _ (by omega) (by omega) (by omega) (OK_ng ok hn hl (by omega) (ht n hn.1 hn.2)) (TK_ng ok hn hl (by omega) ht).1 (sfV_ng ok ht (by omega) hn u hl h)
    · exact sfV_nl hl j (n + 1) (R + 1) _ (by omega) (by omega) (by omega) (OK_mono ok (by omega) (by omega)) ht h
theorem sfV_ot (hr : RSt S) (hl : LwOK L) (h : sfV S) : sfV (otS L S) := by
  unfold otS; split
  · rename_i h9
    have hR := RSt_R hr
    have ok1 := OK_tick0 hr.1 h9
    have t1 : TKs (u1 S 11131 (S 11131 + 1)) := TKs_tk hr.2 (Tk_lo (fun j hj => u1_ne (by omega)))
    unfold tkS
    exact sfV_nl hl 7 0 _ _ (by omega) (by omega) (by omega) (OK_hl hl _ _ ok1) (TKs_tk t1 (Tk_hl hl _ _ ok1)) (sfV_hl hl _ _ ok1 (sfV_ck h))
  · exact h
theorem sfV_cr (hr : RSt S) (h : sfV S) : sfV (rcr S n) := by
  have ok' := (RSt_cr (n := n) hr).1
  have d := hdN_cr (n := n) h.2.2.1
  unfold rcr at *
  split
  · rename_i q
    have hn := q.1
    have ok := hr.1
    have ok1 := OK_fo ok hn (w := -1) (by omega)
    simp only [if_pos q] at ok' d
    exact sfV_s hn h ok' (Ot_tr (Ot_fo hn) (Ot_u1 hn (by omega))) (RX_u1 ok1 hn (by omega) (by omega) (RX_fo ok hn (sfV_X h hn))) d (sfI_u1 ok1 hn (by omega) (by unfold sfR; omega) (sfI_fo ok hn h.2.2.2))
  · exact h
theorem sfV_up (hr : RSt S) (hl : LwOK L) (h : sfV S) : sfV (rup L S n) := by
  have ok' := (RSt_up (n := n) hr hl).1
  unfold rup at *
  split
  · rename_i q
    have hn := q.1
    have ok := hr.1
    have ok1 := OK_upK (OK_up1 ok hn) hn
    simp only [if_pos q] at ok'
    have o1 : Ot n S (upK (up1 S n) n 8) := fun m e m0 m1 he => upU_off hn (by omega)
    have r3 := (h.2.2.1 n hn.1 hn.2 q.2)
    have e : ∀ e, 0 ≤ e → e < 244 → e ≠ 10 → (e < 15 ∨ 23 ≤ e) → nd (tmS L (upK (up1 S n) n 8) n) n e = nd (upK (up1 S n) n 8) n e := fun e e0 e1 e2 e3 => tm_nd hn hn ⟨e0, e1⟩ (by omega)
    refine sfV_s hn h ok' (Ot_tr o1 (Ot_tm hn hl)) (RX_tm ok1 hn (RX_up ok hn (sfV_X h hn))) (fun m m0 m1 hm => ?_) (sfI_tm ok1 hn (sfI_up ok hn r3.1 h.2.2.2))
    by_cases y : m = n
    · subst y
      rw [e 0 (by omega) (by omega) (by omega) (by omega), upU_e hn (by omega) (by omega), if_pos rfl] at hm
      exact absurd rfl hm
    · have f : ∀ e, 0 ≤ e → e < 244 → nd (tmS L (upK (up1 S n) n 8) n) m e = nd S m e := fun e e0 e1 => Ot_tr o1 (Ot_tm hn hl) m e m0 m1 ⟨y, e0, e1⟩
      rw [f 0 (by omega) (by omega)] at hm
      rw [f 3 (by omega) (by omega), f 11 (by omega) (by omega)]
      exact h.2.2.1 m m0 m1 hm
  · exact h
theorem sfV_cm (hr : RSt S) (h : sfV S) : sfV (rcm S n) := by
  have ok' := (RSt_cm (n := n) hr).1
  unfold rcm at *
  split
  · rename_i q
    have hn := q.1.1
    have ok := hr.1
    simp only [if_pos q] at ok'
    have j : sfJ (cmS S n) := by
      obtain ⟨gl, gn, ge, ld, ak, vo, ct, cn, K, z, fl, G⟩ := h.2.2.2
      exact ⟨gl, gn, ge, ld, ak, vo, ct, cn, K, z, fl, sfG_cm ok hn G⟩
    exact sfV_s hn h ok' (Ot_cm ok hn) (RX_cm ok hn (sfV_X h hn)) (hdN_o h.2.2.1 (fun m m0 m1 => by
      by_cases y : m = n
      · rw [y]; exact cmS_nd (OK_nOk ok hn) (OK_kOk ok hn) (by omega)
      · exact Ot_cm ok hn m 0 m0 m1 ⟨y, by omega⟩) (Ot_cm ok hn) q.1.2) j
  · exact h
theorem sfV_ct {y : Int} (h : sfV S) : sfV (ctS S a b y) := by
  unfold ctS; split
  · rename_i q
    obtain ⟨qa, qb, qn⟩ := q
    exact sfV_c h (fun j j0 j1 => by unfold ct2; rw [u1_ne (by omega), u1_ne (by omega)])
  · exact h
theorem sfV_sd (h : sfV S) : sfV (seedS S x) := by
  unfold seedS; split
  · exact sfV_c h (fun j j0 j1 => u1_ne (by omega))
  · exact h
theorem lay_0 (ok : OK R S) (hn : 0 ≤ n ∧ n ≤ 6) (hl : LwOK L) (q : isL S n) (he : (0 ≤ k ∧ k ≤ 2) ∧ (0 ≤ a ∧ a ≤ 127) ∧ (0 ≤ b ∧ b ≤ 127) ∧ (k = 0 → a ≤ 7)) : Ot n S (layS L S n k a b) := by
  obtain ⟨h2, h3⟩ := lay_ok ok hn q he
  exact Ot_tr (Ot_ly ok hn) (Ot_lb h2 hn hl h3)
theorem hdN_up (h : hdN S) (hn : 0 ≤ n ∧ n ≤ 6) (o : Ot n S S') (u : nd S' n 0 = 1) : hdN S' := fun m m0 m1 hm => by
  by_cases y : m = n
  · subst y; exact absurd u hm
  · rw [o m 0 m0 m1 ⟨y, by omega⟩] at hm
    rw [o m 3 m0 m1 ⟨y, by omega⟩, o m 11 m0 m1 ⟨y, by omega⟩]
    exact h m m0 m1 hm
end Su
