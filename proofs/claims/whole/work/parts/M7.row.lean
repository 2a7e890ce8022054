/-! safety: the row stands for a sound run -/
def sfR (e : Int) : Prop := (1 ≤ e ∧ e ≤ 9) ∨ e = 12 ∨ (38 ≤ e ∧ e ≤ 44) ∨ (52 ≤ e ∧ e < 244)
/-- the cells of a node's log, and its snapshot, are those of the whole log l -/
def sfK (S : qN) (n : Int) (l : Int → Int → Int) : Prop :=
  (∀ i q, nd S n 4 < i → i ≤ lastS S n → 0 ≤ q → q ≤ 3 → S (lpS S n i + q) = l i q) ∧ nd S n 5 = l (nd S n 4) 0 ∧ ∃ p, sfC l (nd S n 4) p ∧ nd S n 6 = l p 2 ∧ nd S n 7 = l p 3
def sfNS (gl : Int → Int → Int → Int) (gn ge ld : Int → Int) (ak vo ct cn : Int → Int → Int) (K : Int → Int → Int → Prop) (z : Int) (S : qN) (n : Int) (l : Int → Int → Int) : Prop :=
  sfN gl gn ge ld ak vo ct cn K z n l (lastS S n) (nd S n 1) (nd S n 2) (nd S n 3) (nd S n 9) (nd S n 12) (fun k => nd S n (38 + k)) ∧ sfK S n l
/-- the account of who led a term is the leader's -/
def sfQ (ld : Int → Int) (S : qN) : Prop := ∀ t, 0 ≤ t → t ≤ 999 → S (10028 + t) = 0 ∨ S (10028 + t) = ld t + 1
def sfG (gl : Int → Int → Int → Int) (gn ge ld : Int → Int) (ak vo ct cn : Int → Int → Int) (K : Int → Int → Int → Prop) (z : Int) (fl : Int → Int → Int → Int) (S M : qN) : Prop :=
  sfH gl gn ge ld ak vo ct cn K z ∧ (∀ n, 0 ≤ n → n ≤ 6 → sfNS gl gn ge ld ak vo ct cn K z S n (fl n)) ∧ ((∀ m, 0 ≤ m → m < S 11133 → sfM gl gn ld ak vo ct cn K (ml S m)) ∧ sfQ ld S) ∧ sfM gl gn ld ak vo ct cn K M
def sfI (S M : qN) : Prop := ∃ gl gn ge ld ak vo ct cn K z fl, sfG gl gn ge ld ak vo ct cn K z fl S M
/-- but node n nobody has changed, nor any mail -/
def sfO (n : Int) (S S' : qN) : Prop := Ot n S S' ∧ S' 11133 = S 11133 ∧ ∀ j, (1708 ≤ j ∧ j < 1708 + 27 * S 11133) ∨ (10028 ≤ j ∧ j < 11028) → S' j = S j
section Sv
variable {gl gl' : Int → Int → Int → Int} {gn ge ld gn' ge' ld' : Int → Int} {ak vo ct cn ak' vo' ct' cn' : Int → Int → Int} {K K' : Int → Int → Int → Prop} {z n : Int} {l l' : Int → Int → Int} {fl : Int → Int → Int → Int} {R x x' u t i m p q e c v r w y k b c' b' : Int} {S S' S'' M F : qN} {L : qL}
theorem sfO_rf : sfO n S S := ⟨Ot_rf, rfl, fun _ _ => rfl⟩
theorem sfQ_c (h : ∀ j, 10028 ≤ j → j < 11028 → S' j = S j) (q : sfQ ld S) : sfQ ld S' := fun t t0 t1 => by rw [h _ (by omega) (by omega)]; exact q t t0 t1
theorem sfQ_x (X : sfXa n gl gn ge ld gl' gn' ge' ld') (q : sfQ ld S) : sfQ ld' S := fun t t0 t1 => by
  by_cases c : ld t = -1
  · left
    have h := q t t0 t1
    omega
  · rw [(X.1 t c).1]; exact q t t0 t1
theorem sfO_tr (h : sfO n S S') (h' : sfO n S' S'') : sfO n S S'' := ⟨Ot_tr h.1 h'.1, h'.2.1.trans h.2.1, fun j hj => (h'.2.2 j (by rw [h.2.1]; exact hj)).trans (h.2.2 j hj)⟩
theorem sfO_st (o : Ot n S S') (g : GOK S) (h : ∀ j, (1708 ≤ j ∧ j < 6028) ∨ j = 11133 ∨ (10028 ≤ j ∧ j < 11028) → S' j = S j) : sfO n S S' := ⟨o, h _ (Or.inr (Or.inl rfl)), fun j hj => h j (by have := g.2.2.1; omega)⟩
theorem sfO_u1 (hn : 0 ≤ n ∧ n ≤ 6) (g : GOK S) {e v : Int} (he : 0 ≤ e ∧ e < 244) : sfO n S (u1 S (244 * n + e) v) := sfO_st (Ot_u1 hn he) g (fun j hj => u1_ne (by omega))
theorem sfM_cg {g g' : Int → Int} (h : ∀ k, 0 ≤ k → k < 27 → k ≠ 4 → g' k = g k) (hM : sfM gl gn ld ak vo ct cn K g) : sfM gl gn ld ak vo ct cn K g' := by
  unfold sfM sfM2 sfM4 at *
  rw [h 0 (by omega) (by omega) (by omega), h 1 (by omega) (by omega) (by omega), h 2 (by omega) (by omega) (by omega), h 3 (by omega) (by omega) (by omega), h 5 (by omega) (by omega) (by omega), h 6 (by omega) (by omega) (by omega), h 7 (by omega) (by omega) (by omega), h 8 (by omega) (by omega) (by omega), h 9 (by omega) (by omega) (by omega)]
  obtain ⟨h0, k0, k1, k2, k3⟩ := hM
  refine ⟨h0, k0, k1, fun e => ?_, k3⟩
  obtain ⟨a, ⟨b1, b2, b3, b4, b5⟩, d⟩ := k2 e
  exact ⟨a, ⟨b1, b2, b3, b4, fun k q q1 q2 q3 q4 => by rw [h _ (by omega) (by omega) (by omega)]; exact b5 k q q1 q2 q3 q4⟩, d⟩
theorem sfK_cg (hb : nd S n 8 ≤ 48) (h : ∀ e, (4 ≤ e ∧ e ≤ 8) ∨ (52 ≤ e ∧ e < 244) → nd S' n e = nd S n e) (N : sfK S n l) : sfK S' n l := by
  obtain ⟨a, b, p, c, d, e⟩ := N
  have h4 := h 4 (by omega)
  have h8 := h 8 (by omega)
  unfold sfK lastS at *
  rw [h4, h8, h 5 (by omega), h 6 (by omega), h 7 (by omega)]
  refine ⟨fun i q i1 i2 q0 q3 => ?_, b, p, c, d, e⟩
  rw [← a i q i1 i2 q0 q3]
  have e1 : lpS S' n i + q = 244 * n + (52 + 4 * (i - nd S n 4 - 1) + q) := by unfold lpS; rw [h4]; omega
  have e2 : lpS S n i + q = 244 * n + (52 + 4 * (i - nd S n 4 - 1) + q) := by unfold lpS; omega
  rw [e1, e2]
  exact h _ (by omega)
theorem sfNS_cg (hb : nd S n 8 ≤ 48) (h : ∀ e, sfR e → nd S' n e = nd S n e) (N : sfNS gl gn ge ld ak vo ct cn K z S n l) : sfNS gl gn ge ld ak vo ct cn K z S' n l := by
  refine ⟨?_, sfK_cg hb (fun e he => h e (by unfold sfR; omega)) N.2⟩
  have e : lastS S' n = lastS S n := by unfold lastS; rw [h 4 (by unfold sfR; omega), h 8 (by unfold sfR; omega)]
  rw [e, h 1 (by unfold sfR; omega), h 2 (by unfold sfR; omega), h 3 (by unfold sfR; omega), h 9 (by unfold sfR; omega), h 12 (by unfold sfR; omega)]
  obtain ⟨a, b, c, d⟩ := N.1
  refine ⟨a, b, fun r => ?_, d⟩
  obtain ⟨c1, c2, c3, c4, c5⟩ := c r
  exact ⟨c1, c2, c3, c4, fun k k0 k6 => by have := c5 k k0 k6; simp only at this ⊢; rw [h _ (by unfold sfR; omega)]; exact this⟩
theorem sfG_nq (ok : OK R S) (hn : 0 ≤ n ∧ n ≤ 6) (o1 : Ot n S S') (o2 : S' 11133 = S 11133) (o3 : ∀ j, 1708 ≤ j → j < 1708 + 27 * S 11133 → S' j = S j) (X : sfXa n gl gn ge ld gl' gn' ge' ld') (Y : sfXb n ak vo ct cn ak' vo' ct' cn') (Z : ∀ t i m, K t i m → K' t i m) (H' : sfH gl' gn' ge' ld' ak' vo' ct' cn' K' z)
    (N' : sfNS gl' gn' ge' ld' ak' vo' ct' cn' K' z S' n l') (q' : sfQ ld' S') (G : sfG gl gn ge ld ak vo ct cn K z fl S M) : sfG gl' gn' ge' ld' ak' vo' ct' cn' K' z (fun k => if k = n then l' else fl k) S' M := by
  obtain ⟨H, N, ⟨A, -⟩, B⟩ := G
  have g := OK_g ok
  refine ⟨H', fun k k0 k6 => ?_, ⟨fun m m0 m1 => ?_, q'⟩, sfM_x X Y Z B⟩
  · by_cases q : k = n
    · subst q
      simp only [if_true]
      exact N'
    · simp only [if_neg q]
      refine sfNS_cg (OK_nOk ok ⟨k0, k6⟩).2.2.2.1 (fun e he => o1 k e k0 k6 ⟨q, by unfold sfR at he; omega⟩) ?_
      exact ⟨sfN_x X Y Z H q (by omega) (N k k0 k6).1, (N k k0 k6).2⟩
  · rw [o2] at m1
    exact sfM_x X Y Z (sfM_cg (fun k k0 k1 _ => o3 _ (by omega) (by omega)) (A m m0 m1))
theorem sfG_n (ok : OK R S) (hn : 0 ≤ n ∧ n ≤ 6) (o : sfO n S S') (X : sfXa n gl gn ge ld gl' gn' ge' ld') (Y : sfXb n ak vo ct cn ak' vo' ct' cn') (Z : ∀ t i m, K t i m → K' t i m) (H' : sfH gl' gn' ge' ld' ak' vo' ct' cn' K' z)
    (N' : sfNS gl' gn' ge' ld' ak' vo' ct' cn' K' z S' n l') (G : sfG gl gn ge ld ak vo ct cn K z fl S M) : sfG gl' gn' ge' ld' ak' vo' ct' cn' K' z (fun k => if k = n then l' else fl k) S' M :=
  sfG_nq ok hn o.1 o.2.1 (fun j j1 j2 => o.2.2 j (Or.inl ⟨j1, j2⟩)) X Y Z H' N' (sfQ_c (fun j j1 j2 => o.2.2 j (Or.inr ⟨j1, j2⟩)) (sfQ_x X G.2.2.1.2)) G
/-- only cells change that say nothing of safety -/
theorem sfG_cg (ok : OK R S) (h : ∀ m e, 0 ≤ m → m ≤ 6 → sfR e → nd S' m e = nd S m e) (h3 : S' 11133 = S 11133) (hm : ∀ j, (1708 ≤ j ∧ j < 1708 + 27 * S 11133) ∨ (10028 ≤ j ∧ j < 11028) → S' j = S j) (G : sfG gl gn ge ld ak vo ct cn K z fl S M) : sfG gl gn ge ld ak vo ct cn K z fl S' M := by
  obtain ⟨H, N, ⟨A, q⟩, B⟩ := G
  refine ⟨H, fun k k0 k6 => sfNS_cg (OK_nOk ok ⟨k0, k6⟩).2.2.2.1 (fun e he => h k e k0 k6 he) (N k k0 k6), ⟨fun m m0 m1 => ?_, sfQ_c (fun j j1 j2 => hm j (Or.inr ⟨j1, j2⟩)) q⟩, B⟩
  rw [h3] at m1
  exact sfM_cg (fun k k0 k1 _ => hm _ (by omega)) (A m m0 m1)
/-- as sfG_n, no ghost changes -/
theorem sfG_0 (ok : OK R S) (hn : 0 ≤ n ∧ n ≤ 6) (o : sfO n S S') (G : sfG gl gn ge ld ak vo ct cn K z fl S M) (N' : sfNS gl gn ge ld ak vo ct cn K z S n (fl n) → sfNS gl gn ge ld ak vo ct cn K z S' n (fl n)) : sfG gl gn ge ld ak vo ct cn K z fl S' M := by
  have q := sfG_n ok hn o sfXa_rf sfXb_rf (fun _ _ _ h => h) G.1 (N' (G.2.1 n hn.1 hn.2)) G
  have e : (fun k => if k = n then fl n else fl k) = fl := by
    funext k
    by_cases q : k = n
    · rw [q, if_pos rfl]
    · rw [if_neg q]
  rwa [e] at q
theorem sfG_lo (ok : OK R S) (h : ∀ j, j < 1708 + 27 * S 11133 ∨ j = 11133 ∨ (10028 ≤ j ∧ j < 11028) → S' j = S j) (G : sfG gl gn ge ld ak vo ct cn K z fl S M) : sfG gl gn ge ld ak vo ct cn K z fl S' M := by
  have g := OK_g ok
  have := g.2.2.1
  exact sfG_cg ok (fun m e m0 m1 he => h _ (by unfold sfR at he; omega)) (h _ (Or.inr (Or.inl rfl))) (fun j hj => h _ (by omega)) G
theorem sfG_po (ok : OK R S) (G : sfG gl gn ge ld ak vo ct cn K z fl S M) (hF : sfM gl gn ld ak vo ct cn K F) : sfG gl gn ge ld ak vo ct cn K z fl (poS L S F) M := by
  have g := OK_g ok
  have := g.2.2.1
  have e0 : ∀ j, j ≠ 11132 → rnS S j = S j := fun j hj => u1_ne hj
  by_cases hp : (L (fcS S (F 0) (F 1) (F 2))).2.2.2 ∨ rndS S % 10 < (L (fcS S (F 0) (F 1) (F 2))).2.1 ∨ S 11133 = 160
  · rw [poS_y hp]
    refine sfG_lo ok (fun j hj => ?_) G
    rw [u1_ne (by omega), e0 _ (by omega)]
  · have h160 : S 11133 ≠ 160 := fun z => hp (Or.inr (Or.inr z))
    obtain ⟨H, N, ⟨A, q⟩, B⟩ := G
    refine ⟨H, fun k k0 k6 => sfNS_cg (OK_nOk ok ⟨k0, k6⟩).2.2.2.1 (fun e he => poS_nd g ⟨k0, k6⟩ (by unfold sfR at he; omega)) (N k k0 k6), ⟨fun m m0 m1 => ?_, sfQ_c (fun j j1 j2 => ?_) q⟩, B⟩
    rotate_left
    · rw [poS_n hp, u1_ne (by omega)]
      unfold cpN
      rw [if_neg (by omega), e0 _ (by omega)]
    rw [poS_n hp] at m1 ⊢
    rw [u1_same] at m1
    by_cases q : m = S 11133
    · subst q
      refine sfM_cg (fun k k0 k1 k4 => ?_) hF
      unfold ml
      rw [u1_ne (by omega)]; unfold cpN; rw [if_pos (by omega), show (0 : Int) + (1708 + 27 * S 11133 + k - (1708 + 27 * S 11133)) = k by omega, u1_ne k4]
    · refine sfM_cg (fun k k0 k1 k4 => ?_) (A m m0 (by omega))
      unfold ml
      rw [u1_ne (by omega)]; unfold cpN; rw [if_neg (by omega), e0 _ (by omega)]
theorem sfG_tm (ok : OK R S) (hn : 0 ≤ n ∧ n ≤ 6) (G : sfG gl gn ge ld ak vo ct cn K z fl S M) : sfG gl gn ge ld ak vo ct cn K z fl (tmS L S n) M := by
  have g := (OK_g ok).2.2.1
  exact sfG_cg ok (fun m e m0 m1 he => tm_nd hn ⟨m0, m1⟩ (by unfold sfR at he; omega) (by unfold sfR at he; omega)) (by unfold tmS rnS; rw [u1_ne (by omega), u1_ne (by omega)]) (fun j hj => by unfold tmS rnS; rw [u1_ne (by omega), u1_ne (by omega)]) G
/-- a cell of a node that says nothing of safety -/
theorem sfG_u1 (ok : OK R S) (hn : 0 ≤ n ∧ n ≤ 6) (he : 0 ≤ e ∧ e < 52) (hr : ¬ sfR e) (G : sfG gl gn ge ld ak vo ct cn K z fl S M) : sfG gl gn ge ld ak vo ct cn K z fl (u1 S (244 * n + e) v) M := by
  have g := (OK_g ok).2.2.1
  refine sfG_cg ok (fun m f m0 m1 hf => nd_u1 ?_) (u1_ne (by omega)) (fun j hj => u1_ne (by omega)) G
  by_cases q : f = e
  · exact absurd (q ▸ hf) hr
  · unfold sfR at hf; omega
theorem sfN_0 {mt mt' : Int → Int} (h : sfN gl gn ge ld ak vo ct cn K z n l x t v r c b mt) : sfN gl gn ge ld ak vo ct cn K z n l x t v 0 c b' mt' := ⟨h.1, fun q => by omega, fun q => by omega, h.2.2.2⟩
theorem sfG_fo (ok : OK R S) (hn : 0 ≤ n ∧ n ≤ 6) (G : sfG gl gn ge ld ak vo ct cn K z fl S M) : sfG gl gn ge ld ak vo ct cn K z fl (foS S n w) M := by
  have g := OK_g ok
  have f : ∀ e, 0 ≤ e → e < 244 → e ≠ 3 → e ≠ 11 → nd (foS S n w) n e = nd S n e := fun e e0 e1 e3 e4 => fo_nd hn hn ⟨e0, e1⟩ (Or.inr ⟨e3, e4⟩)
  have f3 : nd (foS S n w) n 3 = 0 := by unfold foS; rw [nd_u1 (by omega), nd_u1s]
  have o : sfO n S (foS S n w) := sfO_st (Ot_fo hn) g (fun j hj => by
    unfold foS
    rw [u1_ne (by omega), u1_ne (by omega)]
    split
    · have := g.2.2.2.2.1
      exact hj.elim (fun h => lrF_lt (by omega)) (fun h => h.elim (fun h => lrF_ge (by omega)) (fun h => lrF_lt (by omega)))
    · rfl)
  refine sfG_0 ok hn o G (fun N => ⟨?_, sfK_cg (OK_nOk ok hn).2.2.2.1 (fun e he => f e (by omega) (by omega) (by omega) (by omega)) N.2⟩)
  have e : lastS (foS S n w) n = lastS S n := by unfold lastS; rw [f 4 (by omega) (by omega) (by omega) (by omega), f 8 (by omega) (by omega) (by omega) (by omega)]
  rw [e, f 1 (by omega) (by omega) (by omega) (by omega), f 2 (by omega) (by omega) (by omega) (by omega), f3, f 9 (by omega) (by omega) (by omega) (by omega), f 12 (by omega) (by omega) (by omega) (by omega)]
  exact sfN_0 N.1
end Sv
