/-! safety: a snapshot is taken; answers are heard; mail is handed over -/
section Su
variable {gl gl' : Int → Int → Int → Int} {gn ge ld gn' ge' ld' : Int → Int} {ak vo ct cn ak' vo' ct' cn' : Int → Int → Int} {K K' : Int → Int → Int → Prop} {z n : Int} {l l' : Int → Int → Int} {fl : Int → Int → Int → Int} {R x x' u t i m p q e c v r w y k b c' b' to a f prev : Int} {S S' S'' T M F : qN} {L : qL}
/-- a snapshot is installed -/
theorem sfP_in (ok : OK R T) (hn : 0 ≤ n ∧ n ≤ 6) (hk4 : M 2 = 4) (h0 : 0 ≤ M 0) (h3 : nd T n 3 = 0) (ht : nd T n 1 = M 3) (hc : nd T n 9 < M 6) (G : sfG gl gn ge ld ak vo ct cn K z fl T M) : sfP (inS T M n) M n (M 6) := by
  obtain ⟨m1, ⟨m2, m3, m4, p, m5, m6, m7⟩, m8⟩ := G.2.2.2.2.2.2.2.2.1 hk4
  have N := G.2.1 n hn.1 hn.2
  have hld : ld (M 3) ≠ -1 := by omega
  have kk := OK_kOk ok hn
  obtain ⟨k1, k2⟩ := OK_kOk ok hn
  have b1 := (OK_nOk ok hn).2
  have NN := N.1
  rw [ht] at NN
  have g := G.1.1 _ hld
  have hi : nd T n 4 ≤ M 6 := by omega
  have e8 : nd (inS T M n) n 8 = max 0 (nd (in1 T n (M 6) (M 7)) n 8 - (M 6 - nd T n 4)) := inS_8
  have o : sfO n T (inS T M n) := sfO_st (fun m e m0 m1 he => inS_off ok hn hi (by omega)) (OK_g ok) (fun j hj => inS_off ok hn hi (by omega))
  have h9 : nd (inS T M n) n 9 = nd T n 9 ∨ (nd (inS T M n) n 9 ≤ M 6 ∧ 0 ≤ nd (inS T M n) n 9 ∧ sfMc K (M 3) (nd (inS T M n) n 9)) := by
    rw [inS_9]
    exact Or.inr ⟨Int.le_refl _, m2, m8⟩
  have he : ∀ (l' : Int → Int → Int), (∀ i, M 6 < i → i ≤ lastS (inS T M n) n → l' i = fl n i) → (∀ j, 0 ≤ j → j ≤ M 6 → l' j = gl (M 3) j) → sfK (inS T M n) n l' := fun l' y1 y2 => by
    unfold sfK
    rw [inS_4, inS_5, inS_6, inS_7]
    have := m5.1
    refine ⟨fun i q i1 i2 q0 q3 => ?_, by rw [y2 _ m2 (Int.le_refl _)]; exact m4, p, sfC_cg m5 y2, by rw [y2 p (by omega) (by omega)]; exact m6, by rw [y2 p (by omega) (by omega)]; exact m7⟩
    have i3 := i2
    unfold lastS at i3
    rw [inS_4] at i3
    obtain ⟨w1, w2, w3⟩ := inS_en (q := q) ok hn hi (k := i - M 6 - 1) ⟨by omega, by omega⟩ ⟨q0, by omega⟩
    rw [y1 i i1 i2]
    have l1 : inS T M n (lpS (inS T M n) n i + q) = nd (inS T M n) n (52 + 4 * (i - M 6 - 1) + q) := by
      unfold lpS
      rw [inS_4]
      unfold nd
      congr 1
      omega
    rw [l1, w1, show M 6 + 1 + (i - M 6 - 1) = i by omega]
    exact N.2.1 i q (by omega) (by unfold lastS; omega) q0 q3
  by_cases c : hasE T n (M 6) ∧ tAS T n (M 6) = M 7
  · have e1 : in1 T n (M 6) (M 7) = T := by unfold in1; rw [if_pos c]
    rw [e1] at e8
    have c1 : M 6 ≤ lastS T n := by unfold lastS; exact c.1.2
    have el : lastS (inS T M n) n = lastS T n := by unfold lastS at *; rw [inS_4, e8]; omega
    have ag : ∀ j, 0 ≤ j → j ≤ M 6 → fl n j = gl (M 3) j := by
      have c2 := c.2
      rw [sfK_t N.2 hi c1, m4] at c2
      exact fun j j0 j1 => sfL_eq NN.1.1 g.2.1 (by omega) c1 m3 c2 j j0 j1
    exact sfP_take ok hn ht hld G o (inS_o (by omega) (by omega) (by omega)) (inS_o (by omega) (by omega) (by omega)) (by rw [inS_o (by omega) (by omega) (by omega)]; exact h3) h9 el ⟨m2, c1, m3⟩ ag (fun i i1 i2 => Or.inl ⟨i2, rfl⟩) (fun i i1 i2 => Or.inl ⟨i2, fun _ _ _ => rfl⟩) (he _ (fun _ _ _ => rfl) ag)
  · have e1 : in1 T n (M 6) (M 7) = u1 T (244 * n + 8) 0 := by unfold in1; rw [if_neg c]
    rw [e1, nd_u1s] at e8
    have el : lastS (inS T M n) n = M 6 := by unfold lastS at *; rw [inS_4, e8]; omega
    refine sfP_take (l' := gl (M 3)) ok hn ht hld G o (inS_o (by omega) (by omega) (by omega)) (inS_o (by omega) (by omega) (by omega)) (by rw [inS_o (by omega) (by omega) (by omega)]; exact h3) h9 el ⟨m2, Int.le_refl _, m3⟩ (fun _ _ _ => rfl) (fun i i1 i2 => ?_) (fun i i1 i2 => Or.inr ⟨by omega, fun _ _ _ => rfl⟩) (he _ (fun i i1 i2 => by omega) (fun _ _ _ => rfl))
    by_cases y : i ≤ M 6
    · by_cases y2 : fl n i 0 = gl (M 3) i 0
      · exact Or.inl ⟨y, (sfL_eq NN.1.1 g.2.1 i1 i2 (by omega) y2 i (by omega) (Int.le_refl _)).symm⟩
      · exact Or.inr ⟨i, i1, Int.le_refl _, by omega, y2⟩
    · refine Or.inr ⟨M 6, by omega, by omega, m3, fun y2 => c ⟨⟨by omega, by unfold lastS at i2; omega⟩, ?_⟩⟩
      rw [sfK_t N.2 hi (by omega), y2, m4]
theorem sfI_sn (ok : OK R S) (hn : 0 ≤ n ∧ n ≤ 6) (hM : MOK R M) (h1 : M 1 = n) (hk : M 2 = 4) (ht : M 3 ≤ nd S n 1) (hl : LwOK L) (h : sfI S M) : sfI (snS L S M n) M := by
  have hm := hM.1
  unfold MOKa at hm
  have okT := OK_heT (L := L) ok hn hM hl
  unfold snS; split
  · exact sfI_an ok (by omega) (by omega) (Or.inr (Or.inr ⟨rfl, rfl⟩)) h
  · have gT : sfI (heT L S M n) M := sfI_tm (OK_fo ok hn (by omega)) hn (sfI_fo ok hn h)
    have t3 : nd (heT L S M n) n 3 = 0 := by unfold heT; rw [tm_nd hn hn (by omega) (by omega)]; unfold foS; rw [nd_u1 (by omega), nd_u1s]
    have t1 : nd (heT L S M n) n 1 = M 3 := by unfold heT; rw [tm_nd hn hn (by omega) (by omega), fo_nd hn hn (by omega) (by omega)]; omega
    obtain ⟨gl, gn, ge, ld, ak, vo, ct, cn, K, z, fl, G⟩ := gT
    obtain ⟨m1, m2⟩ := G.2.2.2.2.2.2.2.2.1 hk
    have N := G.2.1 n hn.1 hn.2
    have hld : ld (M 3) ≠ -1 := by omega
    have kk := OK_kOk okT hn
    have b1 := (OK_nOk okT hn).2
    have NN := N.1
    rw [t1] at NN
    split
    · obtain ⟨ag1, ag2⟩ := sf_agree G.1 NN.1.1 NN.2.2.2 hld (by have := kk.1; omega)
      obtain ⟨h3', h1', hx', gl, gn, ge, ld, ak, vo, ct, cn, K, z, fl, G, A, B⟩ := sfP_more okT hn t3 t1 hld G ⟨by have := kk.1; omega, by unfold lastS; exact kk.2, ag1⟩ ag2
      exact ⟨gl, gn, ge, ld, ak, vo, ct, cn, K, z, fl, sfG_an okT (by omega) (by omega) (Or.inr (Or.inr ⟨rfl, by rw [h1, h1']; exact B⟩)) G⟩
    · rename_i c
      obtain ⟨h3', h1', hx', gl, gn, ge, ld, ak, vo, ct, cn, K, z, fl, G, A, B⟩ := sfP_in okT hn hk (by omega) t3 t1 (by omega) G
      exact ⟨gl, gn, ge, ld, ak, vo, ct, cn, K, z, fl, sfG_an (OK_in okT hn hM hk (by have := kk.1; omega)) (by omega) (by omega) (Or.inr (Or.inr ⟨rfl, by rw [h1, h1']; exact B⟩)) G⟩
theorem ar1_33 (h0 : 0 ≤ m ∧ m < 16) : ar1 S n m 11133 = S 11133 := by
  unfold ar1
  split
  · split
    · rw [u1_ne (by omega), u1_ne (by omega), u1_ne (by omega)]
    · rw [u1_ne (by omega), u1_ne (by omega)]
  · rfl
theorem arF_33 : ∀ (j : Nat) (m : Int) (S : qN), 0 ≤ m → m + j ≤ 16 → arF n j m S 11133 = S 11133
  | 0, _, _, _, _ => rfl
  | j + 1, m, S, h0, hj => by rw [arF, arF_33 j (m + 1) _ (by omega) (by omega), ar1_33 ⟨h0, by omega⟩]
theorem sfI_ar (ok : OK R S) (hn : 0 ≤ n ∧ n ≤ 6) (h : sfI S M) : sfI (arS S n) M := by
  have e := (OK_ar ok hn).2
  have g5 := (OK_g ok).2.2.2.2.1
  have g := (OK_g ok).2.2.1
  refine sfI_cg ok (fun m e' m0 m1 he => e _ (by unfold sfR at he; omega)) ?_ (fun j hj => e _ (by omega)) h
  unfold arS; split
  · exact arF_33 _ 0 S (by omega) (by omega)
  · rfl
/-- a leader's MATCH is in its log -/
theorem sfI_ldr (hn : 0 ≤ n ∧ n ≤ 6) (h3 : nd S n 3 = 2) (h : sfI S M) : ∀ k, 0 ≤ k → k ≤ 6 → nd S n (38 + k) ≤ lastS S n := by
  obtain ⟨gl, gn, ge, ld, ak, vo, ct, cn, K, z, fl, G⟩ := h
  obtain ⟨c1, c2, c3, c4, c5⟩ := (G.2.1 n hn.1 hn.2).1.2.2.1 h3
  intro k k0 k6
  have a := c5 k k0 k6
  have b := G.1.2.2.2.2.2.2.1 (nd S n 1) k
  have b3 := (G.2.1 n hn.1 hn.2).1.1.1.1.2
  simp only at a
  by_cases q : 1 ≤ ak (nd S n 1) k
  · have := (b.2 q).2; omega
  · omega
theorem sfI_mb (hM : 0 ≤ M 1 ∧ M 1 ≤ 6) (h : sfI S M) : MB S M := by
  obtain ⟨gl, gn, ge, ld, ak, vo, ct, cn, K, z, fl, G⟩ := h
  intro h3 ht
  obtain ⟨c1, c2, c3, c4, c5⟩ := (G.2.1 (M 1) hM.1 hM.2).1.2.2.1 h3
  have b3 := (G.2.1 (M 1) hM.1 hM.2).1.1.1.1.2
  have b := G.1.2.2.2.2.2.2.1 (M 3) (M 0)
  have k3 := G.2.2.2.2.2.2.2.1
  have k5 := G.2.2.2.2.2.2.2.2.2
  rw [← ht] at c2
  unfold lastS at c2 b3
  refine ⟨fun y => ?_, fun y => ?_⟩
  · have := k3 y.1 y.2
    by_cases q : 1 ≤ ak (M 3) (M 0)
    · have := (b.2 q).2; omega
    · omega
  · have := k5 y
    by_cases q : 1 ≤ ak (M 3) (M 0)
    · have := (b.2 q).2; omega
    · omega
theorem sfI_iol (ok : OK R S) (hn : 0 ≤ n ∧ n ≤ 6) (h0 : 0 ≤ M 0 ∧ M 0 ≤ 6) (h : sfI S F) : sfI (iolS S M n) F := by
  unfold iolS; split
  · exact sfI_u1 ok hn (by omega) (by unfold sfR; omega) h
  · exact h
/-- a yes -/
theorem sfI_ma (ok : OK R S) (hn : 0 ≤ n ∧ n ≤ 6) (hM : MOK R M) (hne : M 0 ≠ n) (h3 : nd S n 3 = 2) (hi : 0 ≤ i ∧ i ≤ 999) (hx : NX S n) (hr : RI S) (hl : LwOK L)
    (h : ∃ gl gn ge ld ak vo ct cn K z fl, sfG gl gn ge ld ak vo ct cn K z fl S M ∧ i ≤ ak (nd S n 1) (M 0)) : sfI (maS L S M n i) M := by
  have m0 := hM.1.1
  have ok1 := OK_ma1 ok hn hM hi
  have t1 := (OK_n ok hn).2.2.2.2.2.2 (by omega)
  have e3 : nd (ma1 S M n i) n 3 = 2 := by rw [ma1_3 hM (by omega)]; exact h3
  have e1 : nd (ma1 S M n i) n 1 = nd S n 1 := ma1_3 hM (by omega)
  have g1 : sfI (ma1 S M n i) M := by
    obtain ⟨gl, gn, ge, ld, ak, vo, ct, cn, K, z, fl, G, hi⟩ := h
    obtain ⟨c1, c2, c3, c4, c5⟩ := (G.2.1 n hn.1 hn.2).1.2.2.1 h3
    have := c5 (M 0) m0.1 m0.2
    have q := sfG_mt ok hn m0 (v := max (nd S n (38 + M 0)) i) (by simp only at this; omega) G
    have ok2 : OK R (u1 S (244 * n + (38 + M 0)) (max (nd S n (38 + M 0)) i)) := OK_cell ok hn (by omega) (by
      have := (OK_n ok hn).2.2.2.1.2.2.1 (38 + M 0) (by omega) (by omega)
      unfold cOKv; omega)
    exact ⟨gl, gn, ge, ld, ak, vo, ct, cn, K, z, fl, sfG_u1 ok2 hn (by omega) (by unfold sfR; omega) q⟩
  have lr := sfI_ldr hn e3 g1
  have x1 : NX (ma1 S M n i) n := fun k k0 k6 => by
    rw [ma1_3 hM (i := i) (e := 4) (by omega), ma1_3 hM (i := i) (e := 8) (by omega)]
    have y := lr (M 0) m0.1 m0.2
    unfold lastS at y
    rw [ma1_3 hM (i := i) (e := 4) (by omega), ma1_3 hM (i := i) (e := 8) (by omega)] at y
    by_cases q : k = M 0
    · subst q
      unfold ma1 at y ⊢
      rw [nd_u1 (by omega), nd_u1s] at y
      rw [nd_u1s]
      omega
    · unfold ma1
      rw [nd_u1 (by omega), nd_u1 (by omega)]
      exact hx k k0 k6
  have r1 : RI (ma1 S M n i) := by
    have ok2 : OK R (u1 S (244 * n + (38 + M 0)) (max (nd S n (38 + M 0)) i)) := OK_cell ok hn (by omega) (by
      have := (OK_n ok hn).2.2.2.1.2.2.1 (38 + M 0) (by omega) (by omega)
      unfold cOKv; omega)
    unfold ma1
    exact RI_cell ok2 hn (by omega) (RI_cell ok hn (by omega) hr)
  have okh := OK_ho ok1 hn hl (by rw [e1]; exact t1)
  have gh := sfI_ho ok1 hn hl e3 x1 g1
  have xh := (ho_inv ok1 hn hl (by rw [e1]; exact t1) r1 x1).2
  unfold maS; split
  · rename_i q
    exact sfI_sd okh hn q.1 m0 (by have := xh (M 0) m0.1 m0.2; unfold lastS; omega) gh
  · exact gh
end Su
