/-! safety: mail is handed over -/
section Su
variable {gl gl' : Int → Int → Int → Int} {gn ge ld gn' ge' ld' : Int → Int} {ak vo ct cn ak' vo' ct' cn' : Int → Int → Int} {K K' : Int → Int → Int → Prop} {z n : Int} {l l' : Int → Int → Int} {fl : Int → Int → Int → Int} {R x x' u t i m p q e c v r w y k b c' b' to a f prev : Int} {S S' S'' T M F : qN} {L : qL}
theorem iol_e (h0 : 0 ≤ M 0 ∧ M 0 ≤ 6) (he : e < 45) : nd (iolS S M n) n e = nd S n e := by
  unfold iolS; split
  · exact nd_u1 (by omega)
  · rfl
theorem NX_iol (h0 : 0 ≤ M 0 ∧ M 0 ≤ 6) (hx : NX S n) : NX (iolS S M n) n := NX_c hx (fun k k0 k6 => iol_e h0 (by omega)) (by rw [iol_e h0 (by omega), iol_e h0 (by omega)]; omega)
theorem RI_iol (ok : OK R S) (hn : 0 ≤ n ∧ n ≤ 6) (h0 : 0 ≤ M 0 ∧ M 0 ≤ 6) (hr : RI S) : RI (iolS S M n) := by
  unfold iolS; split
  · exact RI_cell ok hn (by omega) hr
  · exact hr
theorem sfI_hx (ok : OK R S) (hn : 0 ≤ n ∧ n ≤ 6) (hM : MOK R M) (h1 : M 1 = n) (hk : M 2 = 3) (hx : nd S n 3 = 2 → NX S n) (hr : RI S) (hl : LwOK L) (h : sfI S M) : sfI (hxS L S M n) M := by
  have hm := hM.1
  unfold MOKa at hm
  have m0 : 0 ≤ M 0 ∧ M 0 ≤ 6 := hm.1
  unfold hxS; split
  · rename_i q
    have oki := OK_iol ok hn hM
    have gi := sfI_iol (n := n) (M := M) ok hn m0 h
    have xi := NX_iol m0 (hx q.1)
    have ri := RI_iol ok hn m0 hr
    have e3 : nd (iolS S M n) n 3 = 2 := by rw [iol_e m0 (by omega)]; exact q.1
    have e1 : nd (iolS S M n) n 1 = M 3 := by rw [iol_e m0 (by omega)]; exact q.2.symm
    have b3 := hM.2.2.2.2.1 hk
    by_cases c : M 6 = 1
    · rw [if_pos c]
      have oka := OK_ma (i := M 7) oki hn hM (by omega) e3 (by omega) hl
      refine sfI_ar oka hn (sfI_ma oki hn hM (by omega) e3 (by omega) xi ri hl ?_)
      obtain ⟨gl, gn, ge, ld, ak, vo, ct, cn, K, z, fl, G⟩ := gi
      refine ⟨gl, gn, ge, ld, ak, vo, ct, cn, K, z, fl, G, ?_⟩
      rw [e1]
      exact G.2.2.2.2.2.2.2.1 hk c
    · rw [if_neg c]
      have okh := OK_hn1 oki hn hM
      have gh : sfI (hn1 (iolS S M n) M n) M := sfI_u1 oki hn (by omega) (by unfold sfR; omega) gi
      have f3 : nd (hn1 (iolS S M n) M n) n 3 = 2 := by unfold hn1; rw [nd_u1 (by omega)]; exact e3
      have y := sfI_ldr hn f3 gh (M 0) m0.1 m0.2
      have x := xi (M 0) m0.1 m0.2
      refine sfI_ar (OK_sd okh hn m0 (by omega) hl) hn (sfI_sd okh hn f3 m0 ?_ gh)
      unfold hn1 lastS at *
      rw [nd_u1 (by omega), nd_u1 (by omega), nd_u1 (by omega)] at y
      rw [nd_u1s, nd_u1 (by omega), nd_u1 (by omega)]
      omega
  · exact h
theorem sfI_hz (ok : OK R S) (hn : 0 ≤ n ∧ n ≤ 6) (hM : MOK R M) (h1 : M 1 = n) (hk : M 2 = 5) (hx : nd S n 3 = 2 → NX S n) (hr : RI S) (hl : LwOK L) (h : sfI S M) : sfI (hzS L S M n) M := by
  have hm := hM.1
  unfold MOKa at hm
  have m0 : 0 ≤ M 0 ∧ M 0 ≤ 6 := hm.1
  unfold hzS; split
  · rename_i q
    have oki := OK_iol ok hn hM
    have gi := sfI_iol (n := n) (M := M) ok hn m0 h
    have e3 : nd (iolS S M n) n 3 = 2 := by rw [iol_e m0 (by omega)]; exact q.1
    have e1 : nd (iolS S M n) n 1 = M 3 := by rw [iol_e m0 (by omega)]; exact q.2.symm
    have b3 := hM.2.2.2.2.2.2 hk
    refine sfI_ar (OK_ma (i := M 6) oki hn hM (by omega) e3 (by omega) hl) hn (sfI_ma oki hn hM (by omega) e3 (by omega) (NX_iol m0 (hx q.1)) (RI_iol ok hn m0 hr) hl ?_)
    obtain ⟨gl, gn, ge, ld, ak, vo, ct, cn, K, z, fl, G⟩ := gi
    refine ⟨gl, gn, ge, ld, ak, vo, ct, cn, K, z, fl, G, ?_⟩
    rw [e1]
    exact G.2.2.2.2.2.2.2.2.2 hk
  · exact h
/-- a term above its own -/
theorem hd1_e (hn : 0 ≤ n ∧ n ≤ 6) (h1 : M 1 = n) (q : nd S n 1 < M 3) (e0 : 0 ≤ e) (e1 : e < 244) : nd (hd1 S M) n e = if e = 3 then 0 else if e = 11 then -1 else if e = 2 then -1 else if e = 1 then M 3 else nd S n e := by
  unfold hd1
  rw [h1, if_pos q]
  by_cases c3 : e = 3
  · rw [if_pos c3, c3]; unfold foS; rw [nd_u1 (by omega), nd_u1s]
  · rw [if_neg c3]
    by_cases c11 : e = 11
    · rw [if_pos c11, c11]; unfold foS; rw [nd_u1s]
    · rw [if_neg c11, fo_nd hn hn ⟨e0, e1⟩ (Or.inr ⟨c3, c11⟩)]
      by_cases c2 : e = 2
      · rw [if_pos c2, c2, nd_u1s]
      · rw [if_neg c2, nd_u1 (by omega)]
        by_cases c1 : e = 1
        · rw [if_pos c1, c1, nd_u1s]
        · rw [if_neg c1, nd_u1 (by omega)]
theorem sfI_hd1 (ok : OK R S) (hM : MOK R M) (h : sfI S M) : sfI (hd1 S M) M := by
  have hm := hM.1
  unfold MOKa at hm
  by_cases q : nd S (M 1) 1 < M 3
  · have hn : 0 ≤ M 1 ∧ M 1 ≤ 6 := hm.2.1
    have ee := fun e e0 e1 => hd1_e (e := e) hn rfl q e0 e1
    obtain ⟨gl, gn, ge, ld, ak, vo, ct, cn, K, z, fl, G⟩ := h
    have o : sfO (M 1) S (hd1 S M) := by
      unfold hd1
      rw [if_pos q]
      have g := (OK_g ok).2.2.2.2.1
      refine sfO_st (Ot_tr (Ot_tr (Ot_u1 hn (by omega)) (Ot_u1 hn (by omega))) (Ot_fo hn)) (OK_g ok) (fun j hj => ?_)
      have a1 : ∀ j, 1708 ≤ j → u1 (u1 S (244 * M 1 + 1) (M 3)) (244 * M 1 + 2) (-1) j = S j := fun j hj => by rw [u1_ne (by omega), u1_ne (by omega)]
      unfold foS
      rw [u1_ne (by omega), u1_ne (by omega)]
      split
      · rw [a1 11135 (by omega)]
        rcases hj with hj | hj | hj
        · rw [lrF_lt (by omega)]; exact a1 j (by omega)
        · rw [lrF_ge (by omega)]; exact a1 j (by omega)
        · rw [lrF_lt (by omega)]; exact a1 j (by omega)
      · exact a1 j (by omega)
    refine ⟨gl, gn, ge, ld, ak, vo, ct, cn, K, z, fl, sfG_0 ok hn o G (fun N => ⟨?_, sfK_cg (OK_nOk ok hn).2.2.2.1 (fun e he => by rw [ee e (by omega) (by omega), if_neg (by omega), if_neg (by omega), if_neg (by omega), if_neg (by omega)]) N.2⟩)⟩
    have f : ∀ e, 4 ≤ e → e < 11 → nd (hd1 S M) (M 1) e = nd S (M 1) e := fun e e0 e1 => by rw [ee e (by omega) (by omega), if_neg (by omega), if_neg (by omega), if_neg (by omega), if_neg (by omega)]
    have el : lastS (hd1 S M) (M 1) = lastS S (M 1) := by unfold lastS; rw [f 4 (by omega) (by omega), f 8 (by omega) (by omega)]
    rw [el, ee 1 (by omega) (by omega), if_neg (by omega), if_neg (by omega), if_neg (by omega), if_pos rfl, ee 2 (by omega) (by omega), if_neg (by omega), if_neg (by omega), if_pos rfl, ee 3 (by omega) (by omega), if_pos rfl, f 9 (by omega) (by omega)]
    exact sf_raise N.1 q
  · unfold hd1
    rw [if_neg q]
    exact h
theorem hd1_t (hM : MOK R M) : M 3 ≤ nd (hd1 S M) (M 1) 1 := by
  have hm := hM.1
  unfold MOKa at hm
  by_cases q : nd S (M 1) 1 < M 3
  · rw [hd1_e hm.2.1 rfl q (by omega) (by omega), if_neg (by omega), if_neg (by omega), if_neg (by omega), if_pos rfl]
    exact Int.le_refl _
  · unfold hd1; rw [if_neg q]; omega
theorem RI_hd1 (ok : OK R S) (hM : MOK R M) (hr : RI S) : RI (hd1 S M) := by
  have hm := hM.1
  unfold MOKa at hm
  have hn : 0 ≤ M 1 ∧ M 1 ≤ 6 := hm.2.1
  unfold hd1; split
  · rename_i q
    have ok1 : OK R (u1 S (244 * M 1 + 1) (M 3)) := OK_cell ok hn (by omega) (by
      have := (OK_n ok hn).1.2.1
      unfold cOKv; omega)
    exact RI_fo (OK_hd0 ok hM q) hn (RI_cell ok1 hn (by omega) (RI_cell ok hn (by omega) hr))
  · exact hr
theorem NX_hd1 (hM : MOK R M) (hx : nd S (M 1) 3 = 2 → NX S (M 1)) : nd (hd1 S M) (M 1) 3 = 2 → NX (hd1 S M) (M 1) := fun h3 => by
  have hm := hM.1
  unfold MOKa at hm
  by_cases q : nd S (M 1) 1 < M 3
  · rw [hd1_e hm.2.1 rfl q (by omega) (by omega), if_pos rfl] at h3
    omega
  · unfold hd1 at h3 ⊢
    rw [if_neg q] at h3 ⊢
    exact hx h3
theorem sfI_hd (ok : OK R S) (hM : MOK R M) (hx : nd S (M 1) 3 = 2 → NX S (M 1)) (hr : RI S) (hl : LwOK L) (h : sfI S M) : sfI (hdS L S M) M := by
  have hm := hM.1
  unfold MOKa at hm
  have hn : 0 ≤ M 1 ∧ M 1 ≤ 6 := hm.2.1
  unfold hdS; split
  · have g := (OK_g ok).2.2.1
    unfold loS
    exact sfI_cg ok (fun m e m0 m1 he => u1_ne (by unfold sfR at he; omega)) (u1_ne (by omega)) (fun j hj => u1_ne (by omega)) h
  · have ok1 := OK_hd1 ok hM
    have g1 := sfI_hd1 ok hM h
    have t1 := hd1_t (S := S) hM
    have x1 := NX_hd1 hM hx
    have r1 := RI_hd1 ok hM hr
    unfold hd2
    split
    · rename_i c; exact sfI_av ok1 hn hM rfl c hl g1
    · split
      · rename_i c; exact sfI_hv ok1 hn hM rfl c hl g1
      · split
        · rename_i c; exact sfI_he ok1 hn hM rfl c t1 hl g1
        · split
          · rename_i c; exact sfI_hx ok1 hn hM rfl c x1 r1 hl g1
          · split
            · rename_i c; exact sfI_sn ok1 hn hM rfl c t1 hl g1
            · exact sfI_hz ok1 hn hM rfl (by omega) x1 r1 hl g1
theorem sfI_rm (ok : OK R S) (ha : 0 ≤ a ∧ a < S 11133) (h : sfI S F) : sfI (rmM S a) (nrm (ml S a)) := by
  obtain ⟨gl, gn, ge, ld, ak, vo, ct, cn, K, z, fl, H, N, ⟨A, q⟩, B⟩ := h
  have g := OK_g ok
  have g3 := g.2.2.1
  have e3 : rmM S a 11133 = S 11133 - 1 := by unfold rmM; exact u1_same
  refine ⟨gl, gn, ge, ld, ak, vo, ct, cn, K, z, fl, H, fun n n0 n6 => sfNS_cg (OK_nOk ok ⟨n0, n6⟩).2.2.2.1 (fun e he => rm_off g ha (by unfold sfR at he; omega) (by unfold sfR at he; omega)) (N n n0 n6), ⟨fun m m0 m1 => ?_, sfQ_c (fun j j1 j2 => rm_off g ha (by omega) (by omega)) q⟩, sfM_cg (fun k k0 k1 _ => nrm_k ⟨k0, k1⟩) (A a ha.1 ha.2)⟩
  rw [e3] at m1
  refine sfM_cg (fun k k0 k1 _ => rm_ml g ha ⟨m0, m1⟩ ⟨k0, k1⟩) (A _ ?_ ?_)
  · split <;> omega
  · split <;> omega
/-- no mail in hand -/
def sfJ (S : qN) : Prop := sfI S (fun _ => 9)
theorem sfM_9 : sfM gl gn ld ak vo ct cn K (fun _ => 9) := by
  unfold sfM
  dsimp only
  exact ⟨⟨by omega, by omega⟩, fun h => by omega, fun h => by omega, fun h => by omega, fun h => by omega, fun h => by omega, fun h => by omega⟩
theorem sfJ_I (h : sfI S M) : sfJ S := by
  obtain ⟨gl, gn, ge, ld, ak, vo, ct, cn, K, z, fl, H, N, A, B⟩ := h
  exact ⟨gl, gn, ge, ld, ak, vo, ct, cn, K, z, fl, H, N, A, sfM_9⟩
theorem sfJ_mb (h : sfJ S) (ok : OK R S) (hm : 0 ≤ m ∧ m < S 11133) : MB S (ml S m) := by
  obtain ⟨gl, gn, ge, ld, ak, vo, ct, cn, K, z, fl, H, N, A, B⟩ := h
  have := (OK_m ok hm.1 hm.2).1.2.1
  exact sfI_mb this ⟨gl, gn, ge, ld, ak, vo, ct, cn, K, z, fl, H, N, A, A.1 m hm.1 hm.2⟩
end Su
