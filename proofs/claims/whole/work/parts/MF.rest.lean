/-! safety: the rest of what a row can be asked -/
section Su
variable {gl gl' : Int → Int → Int → Int} {gn ge ld gn' ge' ld' : Int → Int} {ak vo ct cn ak' vo' ct' cn' : Int → Int → Int} {K K' : Int → Int → Int → Prop} {z n : Int} {l l' : Int → Int → Int} {fl : Int → Int → Int → Int} {R x x' u t i m p q e c v r w y k b c' b' to a f prev : Int} {S S' S'' T M F : qN} {L : qL}
theorem RX_ma (ok : OK R S) (hn : 0 ≤ n ∧ n ≤ 6) (hM : MOK R M) (h3 : nd S n 3 = 2) (hi : 0 ≤ i ∧ i ≤ 999) (hb : nd S n (38 + M 0) ≤ lastS S n ∧ i ≤ lastS S n) (hl : LwOK L) (h : RX S n) : RX (maS L S M n i) n := by
  have m0 := hM.1.1
  have ok1 := OK_ma1 ok hn hM hi
  have t1 := (OK_n ok hn).2.2.2.2.2.2 (by omega)
  have e3 : nd (ma1 S M n i) n 3 = 2 := by rw [ma1_3 hM (by omega)]; exact h3
  have x1 : NX (ma1 S M n i) n := fun k k0 k6 => by
    rw [ma1_3 hM (i := i) (e := 4) (by omega), ma1_3 hM (i := i) (e := 8) (by omega)]
    unfold lastS at hb
    by_cases q : k = M 0
    · subst q
      unfold ma1
      rw [nd_u1s]
      omega
    · unfold ma1
      rw [nd_u1 (by omega), nd_u1 (by omega)]
      exact h.2 h3 k k0 k6
  have ok2 : OK R (u1 S (244 * n + (38 + M 0)) (max (nd S n (38 + M 0)) i)) := OK_cell ok hn (by omega) (by
    have := (OK_n ok hn).2.2.2.1.2.2.1 (38 + M 0) (by omega) (by omega)
    unfold cOKv; omega)
  have r1 : RX (ma1 S M n i) n := ⟨RI_cell ok2 hn (by omega) (RI_cell ok hn (by omega) h.1), fun _ => x1⟩
  have okh := OK_ho ok1 hn hl (by rw [ma1_3 hM (by omega)]; exact t1)
  have rh := RX_ho ok1 hn hl e3 r1
  unfold maS; split
  · exact RX_po okh hn hl rh
  · exact rh
theorem RX_iol (ok : OK R S) (hn : 0 ≤ n ∧ n ≤ 6) (h0 : 0 ≤ M 0 ∧ M 0 ≤ 6) (h : RX S n) : RX (iolS S M n) n := ⟨RI_iol ok hn h0 h.1, fun q => NX_iol h0 (h.2 (by rw [iol_e h0 (by omega)] at q; exact q))⟩
theorem RX_hx (ok : OK R S) (hn : 0 ≤ n ∧ n ≤ 6) (hM : MOK R M) (h1 : M 1 = n) (hk : M 2 = 3) (hl : LwOK L) (j : sfI S M) (h : RX S n) : RX (hxS L S M n) n := by
  have hm := hM.1
  unfold MOKa at hm
  have m0 : 0 ≤ M 0 ∧ M 0 ≤ 6 := hm.1
  unfold hxS; split
  · rename_i q
    have oki := OK_iol ok hn hM
    have ri := RX_iol ok hn m0 h
    have e3 : nd (iolS S M n) n 3 = 2 := by rw [iol_e m0 (by omega)]; exact q.1
    have b3 := hM.2.2.2.2.1 hk
    have y := sfI_ldr hn q.1 j (M 0) m0.1 m0.2
    have mb := sfI_mb hm.2.1 j (by rw [h1]; exact q.1) (by rw [h1]; exact q.2)
    rw [h1] at mb
    have el : lastS (iolS S M n) n = lastS S n := by unfold lastS; rw [iol_e m0 (by omega), iol_e m0 (by omega)]
    by_cases c : M 6 = 1
    · rw [if_pos c]
      exact RX_ar (OK_ma (i := M 7) oki hn hM (by omega) e3 (by omega) hl) hn (RX_ma oki hn hM e3 (by omega) ⟨by rw [el, iol_e m0 (by omega)]; exact y, by rw [el]; exact mb.1 ⟨hk, c⟩⟩ hl ri)
    · rw [if_neg c]
      have okh := OK_hn1 oki hn hM
      have rh : RX (hn1 (iolS S M n) M n) n := ⟨RI_cell oki hn (by omega) ri.1, fun _ k k0 k6 => by
        have x := ri.2 e3
        unfold hn1
        rw [nd_u1 (show (244 * n + 4 : Int) ≠ 244 * n + (31 + M 0) by omega), nd_u1 (show (244 * n + 8 : Int) ≠ 244 * n + (31 + M 0) by omega)]
        by_cases q2 : k = M 0
        · subst q2
          rw [nd_u1s, iol_e m0 (e := 38 + M 0) (by omega)]
          have := x (M 0) m0.1 m0.2
          unfold lastS at y el
          rw [iol_e m0 (e := 4) (by omega), iol_e m0 (e := 8) (by omega)] at this ⊢
          omega
        · rw [nd_u1 (by omega)]
          exact x k k0 k6⟩
      exact RX_ar (OK_sd okh hn m0 (by omega) hl) hn (RX_po okh hn hl rh)
  · exact h
theorem RX_hz (ok : OK R S) (hn : 0 ≤ n ∧ n ≤ 6) (hM : MOK R M) (h1 : M 1 = n) (hk : M 2 = 5) (hl : LwOK L) (j : sfI S M) (h : RX S n) : RX (hzS L S M n) n := by
  have hm := hM.1
  unfold MOKa at hm
  have m0 : 0 ≤ M 0 ∧ M 0 ≤ 6 := hm.1
  unfold hzS; split
  · rename_i q
    have oki := OK_iol ok hn hM
    have ri := RX_iol ok hn m0 h
    have e3 : nd (iolS S M n) n 3 = 2 := by rw [iol_e m0 (by omega)]; exact q.1
    have b3 := hM.2.2.2.2.2.2 hk
    have y := sfI_ldr hn q.1 j (M 0) m0.1 m0.2
    have mb := sfI_mb hm.2.1 j (by rw [h1]; exact q.1) (by rw [h1]; exact q.2)
    rw [h1] at mb
    have el : lastS (iolS S M n) n = lastS S n := by unfold lastS; rw [iol_e m0 (by omega), iol_e m0 (by omega)]
    exact RX_ar (OK_ma (i := M 6) oki hn hM (by omega) e3 (by omega) hl) hn (RX_ma oki hn hM e3 (by omega) ⟨by rw [el, iol_e m0 (by omega)]; exact y, by rw [el]; exact mb.2 hk⟩ hl ri)
  · exact h
theorem RX_hd (ok : OK R S) (hM : MOK R M) (hl : LwOK L) (j : sfI S M) (h : RX S (M 1)) : RX (hdS L S M) (M 1) := by
  have hm := hM.1
  unfold MOKa at hm
  have hn : 0 ≤ M 1 ∧ M 1 ≤ 6 := hm.2.1
  unfold hdS; split
  · have g := (OK_g ok).2.2.1
    unfold loS
    exact RX_c ok h (u1_ne (by omega)) (fun j j0 j1 => u1_ne (by omega)) (fun m m0 m1 => nd_u1 (by omega)) hn (fun k k0 k6 => nd_u1 (by omega)) (by rw [nd_u1 (by omega), nd_u1 (by omega)]; omega)
  · have ok1 := OK_hd1 ok hM
    have j1 := sfI_hd1 ok hM j
    have r1 : RX (hd1 S M) (M 1) := ⟨RI_hd1 ok hM h.1, NX_hd1 hM h.2⟩
    unfold hd2
    split
    · exact RX_av ok1 hn hM hl r1
    · split
      · exact RX_hv ok1 hn hM hl r1
      · split
        · rename_i c; exact RX_he ok1 hn hM c hl r1
        · split
          · rename_i c; exact RX_hx ok1 hn hM rfl c hl j1 r1
          · split
            · rename_i c; exact RX_sn ok1 hn hM c hl r1
            · exact RX_hz ok1 hn hM rfl (by omega) hl j1 r1
/-- it asks all -/
theorem RX_ask (ok : OK R S) (hn : 0 ≤ n ∧ n ≤ 6) (hl : LwOK L) (hR : R + 1 ≤ 90000) (h : RX S n) : RX (askS L S n) n := by
  have ok0 := OK_ask0 ok hn hR
  have ok1 : OK R (u1 S (244 * n + 14) 0) := OK_cell ok hn (by omega) (by unfold cOKv; omega)
  unfold askS
  exact RX_sa ok0 hn hl (RX_u1 ok1 hn (by omega) (by omega) (RX_u1 ok hn (by omega) (by omega) h))
theorem sfI_ask (ok : OK R S) (hn : 0 ≤ n ∧ n ≤ 6) (hl : LwOK L) (hR : R + 1 ≤ 90000) (h3 : nd S n 3 = 2) (hx : NX S n) (h : sfI S M) : sfI (askS L S n) M := by
  have ok0 := OK_ask0 ok hn hR
  have ok1 : OK R (u1 S (244 * n + 14) 0) := OK_cell ok hn (by omega) (by unfold cOKv; omega)
  unfold askS
  refine sfI_sa ok0 hn hl (by rw [nd_u1 (by omega), nd_u1 (by omega)]; exact h3) (NX_c hx (fun k k0 k6 => by rw [nd_u1 (by omega), nd_u1 (by omega)]) (by rw [nd_u1 (by omega), nd_u1 (by omega), nd_u1 (by omega), nd_u1 (by omega)]; omega)) ?_
  exact sfI_u1 ok1 hn (by omega) (by unfold sfR; omega) (sfI_u1 ok hn (by omega) (by unfold sfR; omega) h)
theorem ng_ok (ok : OK R S) (hn : 0 ≤ n ∧ n ≤ 6) (ht : 1 ≤ nd S n 10 ∧ nd S n 14 ≤ 2) : OK R (u1 S (244 * n + 14) (nd S n 14 + 1)) ∧ OK R (u1 S (244 * n + 10) (nd S n 10 - 1)) := by
  have c := (OK_n ok hn).2.2.1
  have c10 := c.1
  have c14 := c.2.2.2.2
  exact ⟨OK_cell ok hn (by omega) (by unfold cOKv; omega), OK_cell ok hn (by omega) (by unfold cOKv; omega)⟩
theorem sfI_ng (ok : OK R S) (hn : 0 ≤ n ∧ n ≤ 6) (hl : LwOK L) (hR : R + 1 ≤ 90000) (ht : 1 ≤ nd S n 10 ∧ nd S n 14 ≤ 2) (hx : nd S n 3 = 2 → NX S n) (h : sfI S M) : sfI (ngS L S n) M := by
  obtain ⟨hu, hv⟩ := ng_ok ok hn ht
  have g1 : sfI (u1 S (244 * n + 14) (nd S n 14 + 1)) M := sfI_u1 ok hn (by omega) (by unfold sfR; omega) h
  have g2 : sfI (u1 S (244 * n + 10) (nd S n 10 - 1)) M := sfI_u1 ok hn (by omega) (by unfold sfR; omega) h
  unfold ngS; split
  · rename_i h3
    split
    · exact g1
    · exact sfI_ask hu hn hl hR (by rw [nd_u1 (by omega)]; exact h3) (NX_c (hx h3) (fun k k0 k6 => nd_u1 (by omega)) (by rw [nd_u1 (by omega), nd_u1 (by omega)]; omega)) g1
  · split
    · exact sfI_st hv hn hl g2
    · exact g2
theorem RX_ng (ok : OK R S) (hn : 0 ≤ n ∧ n ≤ 6) (hl : LwOK L) (hR : R + 1 ≤ 90000) (ht : 1 ≤ nd S n 10 ∧ nd S n 14 ≤ 2) (h : RX S n) : RX (ngS L S n) n := by
  obtain ⟨hu, hv⟩ := ng_ok ok hn ht
  have g1 : RX (u1 S (244 * n + 14) (nd S n 14 + 1)) n := RX_u1 ok hn (by omega) (by omega) h
  have g2 : RX (u1 S (244 * n + 10) (nd S n 10 - 1)) n := RX_u1 ok hn (by omega) (by omega) h
  unfold ngS; split
  · split
    · exact g1
    · exact RX_ask hu hn hl hR g1
  · rename_i h3
    split
    · exact RX_st hv hn hl (by rw [nd_u1 (by omega)]; exact h3) g2
    · exact g2
/-- laid by a call -/
theorem sfI_lay (ok : OK R S) (hn : 0 ≤ n ∧ n ≤ 6) (hl : LwOK L) (q : isL S n) (he : (0 ≤ k ∧ k ≤ 2) ∧ (0 ≤ a ∧ a ≤ 127) ∧ (0 ≤ b ∧ b ≤ 127) ∧ (k = 0 → a ≤ 7)) (hc : k = 1 → (set7 a ∧ set7 b) ∧ heldCfg S n ∧ sfS (oldS S n) (newS S n) a b) (hx : NX S n) (h : sfI S M) : sfI (layS L S n k a b) M := by
  obtain ⟨h2, h3⟩ := lay_ok ok hn q he
  exact sfI_lb h2 hn hl (by rw [ly_nd ok hn (by omega)]; exact q.2) (NX_ly ok hn hx) (sfI_ly ok hn q.2 hc h)
theorem RX_lay (ok : OK R S) (hn : 0 ≤ n ∧ n ≤ 6) (hl : LwOK L) (q : isL S n) (he : (0 ≤ k ∧ k ≤ 2) ∧ (0 ≤ a ∧ a ≤ 127) ∧ (0 ≤ b ∧ b ≤ 127) ∧ (k = 0 → a ≤ 7)) (h : RX S n) : RX (layS L S n k a b) n := by
  obtain ⟨h2, h3⟩ := lay_ok ok hn q he
  exact RX_lb h2 hn hl (by rw [ly_nd ok hn (by omega)]; exact q.2) (RX_ly ok hn h)
/-- it compacts by a call -/
theorem RX_cm (ok : OK R S) (hn : 0 ≤ n ∧ n ≤ 6) (h : RX S n) : RX (cmS S n) n := by
  have hn' := OK_nOk ok hn
  have hk := OK_kOk ok hn
  obtain ⟨k1, k2⟩ := OK_kOk ok hn
  refine RX_c ok h (cmS_ne hn' hk (by omega)) (fun j j0 j1 => cmS_ne hn' hk (by omega)) (fun m m0 m1 => ?_) hn (fun k k0 k6 => cmS_nd hn' hk (by omega)) (by rw [cmS_4, cmS_8]; omega)
  by_cases q : m = n
  · rw [q]; exact cmS_nd hn' hk (by omega)
  · exact cmS_ne hn' hk (by omega)
theorem Ot_cm (ok : OK R S) (hn : 0 ≤ n ∧ n ≤ 6) : Ot n S (cmS S n) := fun m e m0 m1 he => cmS_ne (OK_nOk ok hn) (OK_kOk ok hn) (by omega)
/-- it comes up -/
theorem upU_e (hn : 0 ≤ n ∧ n ≤ 6) (he : 0 ≤ e ∧ e < 244) (h : e < 15 ∨ 23 ≤ e) : nd (upK (up1 S n) n 8) n e = if e = 0 then 1 else if e = 9 then nd S n 4 else if 12 ≤ e ∧ e ≤ 14 then 0 else nd S n e := by
  rw [upK_nd h]
  by_cases c : e = 0 ∨ e = 9 ∨ e = 12 ∨ e = 13 ∨ e = 14
  · unfold up1
    rcases c with rfl | rfl | rfl | rfl | rfl
    · rw [if_pos rfl, nd_u1 (by omega), nd_u1 (by omega), nd_u1 (by omega), nd_u1 (by omega), nd_u1s]
    · rw [if_neg (by omega), if_pos rfl, nd_u1 (by omega), nd_u1 (by omega), nd_u1 (by omega), nd_u1s]
    · rw [if_neg (by omega), if_neg (by omega), if_pos (by omega), nd_u1 (by omega), nd_u1 (by omega), nd_u1s]
    · rw [if_neg (by omega), if_neg (by omega), if_pos (by omega), nd_u1 (by omega), nd_u1s]
    · rw [if_neg (by omega), if_neg (by omega), if_pos (by omega), nd_u1s]
  · rw [if_neg (by omega), if_neg (by omega), if_neg (by omega), up1_nd hn he hn (by omega)]
theorem upU_off (hn : 0 ≤ n ∧ n ≤ 6) {j : Int} (hj : j < 244 * n ∨ 244 * n + 244 ≤ j) : upK (up1 S n) n 8 j = S j := by
  rw [upK_off (by omega) hj]
  unfold up1
  rw [u1_ne (by omega), u1_ne (by omega), u1_ne (by omega), u1_ne (by omega), u1_ne (by omega)]
theorem sfI_up (ok : OK R S) (hn : 0 ≤ n ∧ n ≤ 6) (h3 : nd S n 3 = 0) (h : sfI S M) : sfI (upK (up1 S n) n 8) M := by
  obtain ⟨gl, gn, ge, ld, ak, vo, ct, cn, K, z, fl, G⟩ := h
  have o : sfO n S (upK (up1 S n) n 8) := sfO_st (fun m e m0 m1 he => upU_off hn (by omega)) (OK_g ok) (fun j hj => upU_off hn (by omega))
  have e : ∀ e, 0 ≤ e → e < 244 → (e < 15 ∨ 23 ≤ e) → e ≠ 0 → e ≠ 9 → ¬ (12 ≤ e ∧ e ≤ 14) → nd (upK (up1 S n) n 8) n e = nd S n e := fun e e0 e1 e2 e3 e4 e5 => by rw [upU_e hn ⟨e0, e1⟩ e2, if_neg e3, if_neg e4, if_neg e5]
  refine ⟨gl, gn, ge, ld, ak, vo, ct, cn, K, z, fl, sfG_0 ok hn o G (fun N => ⟨?_, sfK_cg (OK_nOk ok hn).2.2.2.1 (fun f hf => e f (by omega) (by omega) (by omega) (by omega) (by omega) (by omega)) N.2⟩)⟩
  have el : lastS (upK (up1 S n) n 8) n = lastS S n := by unfold lastS; rw [e 4 (by omega) (by omega) (by omega) (by omega) (by omega) (by omega), e 8 (by omega) (by omega) (by omega) (by omega) (by omega) (by omega)]
  have b := sfN6_b G.1 ok hn (G.2.1 n hn.1 hn.2) (Int.le_refl _) (OK_kOk ok hn).1
  rw [el, e 1 (by omega) (by omega) (by omega) (by omega) (by omega) (by omega), e 2 (by omega) (by omega) (by omega) (by omega) (by omega) (by omega), e 3 (by omega) (by omega) (by omega) (by omega) (by omega) (by omega), h3, upU_e (e := 9) hn (by omega) (by omega), if_neg (by omega), if_pos rfl]
  exact ⟨N.1.1, fun h => by omega, fun h => by omega, b⟩
theorem RX_up (ok : OK R S) (hn : 0 ≤ n ∧ n ≤ 6) (h : RX S n) : RX (upK (up1 S n) n 8) n := by
  have e : ∀ e, 0 ≤ e → e < 244 → (e < 15 ∨ 23 ≤ e) → e ≠ 0 → e ≠ 9 → ¬ (12 ≤ e ∧ e ≤ 14) → nd (upK (up1 S n) n 8) n e = nd S n e := fun e e0 e1 e2 e3 e4 e5 => by rw [upU_e hn ⟨e0, e1⟩ e2, if_neg e3, if_neg e4, if_neg e5]
  refine RX_c ok h (upU_off hn (by omega)) (fun j j0 j1 => upU_off hn (by omega)) (fun m m0 m1 => ?_) hn (fun k k0 k6 => e _ (by omega) (by omega) (by omega) (by omega) (by omega) (by omega)) (by rw [e 4 (by omega) (by omega) (by omega) (by omega) (by omega) (by omega), e 8 (by omega) (by omega) (by omega) (by omega) (by omega) (by omega)]; omega)
  by_cases q : m = n
  · rw [q]; exact e 3 (by omega) (by omega) (by omega) (by omega) (by omega) (by omega)
  · exact upU_off hn (by omega)
/-- founded -/
theorem sfJ_fd0 (hw : set7 w) : sfJ (fdF (fd0 S) w 7) := by
  have e := fun n e n0 n6 e0 e1 => fd_nd (S := S) (w := w) (n := n) (e := e) ⟨n0, n6⟩ ⟨e0, e1⟩
  have h33 : fdF (fd0 S) w 7 11133 = 0 := fd_hi (by omega) (by omega)
  refine ⟨fun _ _ => sfE w, fun _ => 0, fun _ => 0, fun _ => -1, fun _ _ => 0, fun _ _ => -1, fun _ _ => 0, fun _ _ => 0, fun _ _ _ => False, w, fun _ _ => sfE w, ⟨fun t h => absurd rfl h, fun s j h => absurd rfl h, fun t i m h => h.elim, fun u h => absurd rfl h, fun u v h => absurd rfl h, fun t i m u h => h.elim, fun t v => ⟨Int.le_refl _, fun h => by dsimp only at h; omega⟩, hw⟩, fun n n0 n6 => ?_, ⟨fun m m0 m1 => by rw [h33] at m1; omega, fun t t0 t1 => Or.inl (fd_hi (by omega) (by omega))⟩, sfM_9⟩
  have f : ∀ k, 0 ≤ k → k < 244 → k ≠ 0 → k ≠ 2 → k ≠ 11 → k ≠ 6 → nd (fdF (fd0 S) w 7) n k = 0 := fun k k0 k1 k2 k3 k4 k5 => by rw [e n k n0 n6 k0 k1, if_neg k2, if_neg k3, if_neg k4, if_neg k5]
  have el : lastS (fdF (fd0 S) w 7) n = 0 := by unfold lastS; rw [f 4 (by omega) (by omega) (by omega) (by omega) (by omega) (by omega), f 8 (by omega) (by omega) (by omega) (by omega) (by omega) (by omega)]; omega
  unfold sfNS sfK
  rw [el, f 1 (by omega) (by omega) (by omega) (by omega) (by omega) (by omega), f 3 (by omega) (by omega) (by omega) (by omega) (by omega) (by omega), f 9 (by omega) (by omega) (by omega) (by omega) (by omega) (by omega), f 12 (by omega) (by omega) (by omega) (by omega) (by omega) (by omega), f 4 (by omega) (by omega) (by omega) (by omega) (by omega) (by omega), f 5 (by omega) (by omega) (by omega) (by omega) (by omega) (by omega), f 7 (by omega) (by omega) (by omega) (by omega) (by omega) (by omega), e n 2 n0 n6 (by omega) (by omega), if_neg (by omega), if_pos rfl, e n 6 n0 n6 (by omega) (by omega), if_neg (by omega), if_neg (by omega), if_neg (by omega), if_pos rfl]
  refine ⟨⟨⟨⟨⟨rfl, Int.le_refl _⟩, fun i i1 i2 => by omega⟩, fun s i i1 i2 => by dsimp only at i2; omega, rfl, fun _ _ => rfl, fun s k h => by dsimp only at h; omega, fun s h => by dsimp only at h; omega⟩, fun h => by omega, fun h => by omega, Or.inl rfl⟩, fun i q i1 i2 => by omega, rfl, 0, ⟨⟨Int.le_refl _, Int.le_refl _, rfl⟩, fun j j1 j2 => by omega⟩, rfl, rfl⟩
theorem tf_all (hl : LwOK L) : ∀ (j : Nat) (n : Int) (S : qN), n + j = 7 → 0 ≤ n → OK R S → sfJ S → RI S → (∀ m, 0 ≤ m → m ≤ 6 → nd S m 3 = 0 ∧ nd S m 0 = 1) → sfJ (tfF L j n S) ∧ RI (tfF L j n S) ∧ (∀ m, 0 ≤ m → m ≤ 6 → nd (tfF L j n S) m 3 = 0 ∧ nd (tfF L j n S) m 0 = 1)
  | 0, _, _, _, _, _, h, h2, h3 => ⟨h, h2, h3⟩
  | j + 1, n, S, hj, n0, ok, h, h2, h3 => by
    rw [tfF]
    exact tf_all hl j (n + 1) _ (by omega) (by omega) (OK_tm ok ⟨n0, by omega⟩ hl) (sfI_tm ok ⟨n0, by omega⟩ h) (RI_tm ok ⟨n0, by omega⟩ h2) (fun m m0 m1 => by rw [tm_nd ⟨n0, by omega⟩ ⟨m0, m1⟩ (by omega) (by omega), tm_nd ⟨n0, by omega⟩ ⟨m0, m1⟩ (by omega) (by omega)]; exact h3 m m0 m1)
end Su
