/-! safety: it leads, stands, votes, counts a vote -/
section Su
variable {gl gl' : Int → Int → Int → Int} {gn ge ld gn' ge' ld' : Int → Int} {ak vo ct cn ak' vo' ct' cn' : Int → Int → Int} {K K' : Int → Int → Int → Prop} {z n : Int} {l l' : Int → Int → Int} {fl : Int → Int → Int → Int} {R x x' u t i m p q e c v r w y k b c' b' to a f : Int} {S S' S'' M F : qN} {L : qL}
theorem cr_lo (ok : OK R S) (hn : 0 ≤ n ∧ n ≤ 6) {j : Int} (hj : j < 6028 ∨ j = 11133) : crS S n j = S j := by
  have b := (OK_n ok hn).1.2.1
  unfold crS
  split
  · exact u1_ne (by omega)
  · split
    · rfl
    · exact u1_ne (by omega)
/-- nobody but itself has led this term -/
theorem CW_I (ok : OK R S) (hn : 0 ≤ n ∧ n ≤ 6) (h3 : nd S n 3 = 1) (h : sfI S M) : CWr S n := by
  intro hm
  obtain ⟨gl, gn, ge, ld, ak, vo, ct, cn, K, z, fl, G⟩ := h
  have N := G.2.1 n hn.1 hn.2
  have NN := N.1
  rw [h3] at NN
  have t9 := (OK_n ok hn).1.2.1
  have hb7 : set7 (nd S n 12) := (OK_n ok hn).2.2.1.2.2.1
  obtain ⟨p, p1, p2, p3, p4⟩ := sfK_last (OK_nOk ok hn) (OK_kOk ok hn) N.2
  rw [mostS_mq, p2, p3] at hm
  rcases G.2.2.1.2 (nd S n 1) (by omega) (by omega) with q | q
  · exact Or.inl q
  · by_cases c : ld (nd S n 1) = -1
    · left; omega
    · right
      obtain ⟨N1, N4, N5, N6⟩ := NN
      obtain ⟨h1, h2, h3', h4, h5, h6, h7, h8⟩ := G.1
      obtain ⟨⟨c1, c2, c3, c4⟩, c5, c6⟩ := N4 rfl
      have hV : ∀ v, 0 ≤ v → v ≤ 6 → hsZ (nd S n 12) v → vo (nd S n 1) v = n ∧ sfVP gl ge ld ak (nd S n 1) (nd S n 1 + 1) v (fl n (lastS S n) 0) (lastS S n) := fun v v0 v6 v1 => by
        have e := c6 v v0 v6 v1
        refine ⟨e, ?_⟩
        have q := (h5 (nd S n 1) v (by omega)).2
        rw [e, c3, c4] at q
        exact q.resolve_left c2
      rw [q, sf_one h1 h2 h3' h4 h6 h8 c5 p1 hb7 hm hV c]
theorem sfI_ld5 (ok : OK R S) (hn : 0 ≤ n ∧ n ≤ 6) (h3 : nd S n 3 = 1) (hm : mostS S n (nd S n 12)) (h : sfI S M) : sfI (ld5 (crS S n) n) M := by
  obtain ⟨gl, gn, ge, ld, ak, vo, ct, cn, K, z, fl, G⟩ := h
  have g3 := (OK_g ok).2.2.1
  have N := G.2.1 n hn.1 hn.2
  have NN := N.1
  rw [h3] at NN
  have t1 := (OK_n ok hn).2.2.2.2.2.2 (by omega)
  have t9 := (OK_n ok hn).1.2.1
  obtain ⟨p, p1, p2, p3, p4⟩ := sfK_last (OK_nOk ok hn) (OK_kOk ok hn) N.2
  rw [mostS_mq, p2, p3] at hm
  have c : ∀ e, 0 ≤ e → e < 244 → nd (crS S n) n e = nd S n e := fun e e0 e1 => cr_nd ok hn hn ⟨e0, e1⟩
  have e : ∀ e, 0 ≤ e → e < 244 → (e < 31 ∨ 52 ≤ e) → e ≠ 3 → e ≠ 11 → e ≠ 13 → e ≠ 14 → nd (ld5 (crS S n) n) n e = nd S n e := fun e e0 e1 e2 e3 e4 e5 e6 => by
    rw [ld5_e ⟨e0, e1⟩, if_neg e3, if_neg e4, if_neg e6, if_neg e5, if_neg (by omega), if_neg (by omega)]
    exact c e e0 e1
  obtain ⟨X, Y, H', N'⟩ := sf_lead (b2 := nd S n 12) (mt' := fun k => nd (ld5 (crS S n) n) n (38 + k)) G.1 NN hn.1 t1 p1 (by have := (OK_n ok hn).2.2.1.2.2.1; exact this) hm (fun k k0 k6 => by rw [ld5_e (by omega), if_neg (by omega), if_neg (by omega), if_neg (by omega), if_neg (by omega), if_neg (by omega), if_pos (by omega)])
  have o1 : Ot n S (ld5 (crS S n) n) := Ot_tr (fun m e m0 m1 he => cr_nd ok hn ⟨m0, m1⟩ he.2) (Ot_ld5 hn)
  have o : ∀ j, 1708 ≤ j → ld5 (crS S n) n j = crS S n j := fun j hj => ld5_off (by omega)
  have el : lastS (ld5 (crS S n) n) n = lastS S n := by unfold lastS; rw [e 4 (by omega) (by omega) (by omega) (by omega) (by omega) (by omega) (by omega), e 8 (by omega) (by omega) (by omega) (by omega) (by omega) (by omega) (by omega)]
  have q' : sfQ (sf1 ld (nd S n 1) n) (ld5 (crS S n) n) := by
    intro t t0 t2
    rw [o _ (by omega)]
    by_cases q : t = nd S n 1 ∧ S (10028 + nd S n 1) = 0
    · right
      rw [q.1]
      unfold crS
      rw [if_pos q.2, u1_same, sf1_e]
    · have k : crS S n (10028 + t) = S (10028 + t) := by
        unfold crS
        split
        · rename_i q0; exact u1_ne (fun h => q ⟨by omega, q0⟩)
        · split
          · rfl
          · exact u1_ne (by omega)
      rw [k]
      exact sfQ_x X G.2.2.1.2 t t0 t2
  refine ⟨_, _, _, _, _, _, _, _, _, _, _, sfG_nq ok hn o1 ((o _ (by omega)).trans (cr_lo ok hn (by omega))) (fun j j1 j2 => (o j j1).trans (cr_lo ok hn (by omega))) X Y (fun _ _ _ h => h) H' ⟨?_, sfK_cg (OK_nOk ok hn).2.2.2.1 (fun f hf => e f (by omega) (by omega) (by omega) (by omega) (by omega) (by omega) (by omega)) N.2⟩ q' G⟩
  rw [el, e 1 (by omega) (by omega) (by omega) (by omega) (by omega) (by omega) (by omega), e 2 (by omega) (by omega) (by omega) (by omega) (by omega) (by omega) (by omega), ld5_e (e := 3) (by omega), if_pos rfl, e 9 (by omega) (by omega) (by omega) (by omega) (by omega) (by omega) (by omega), e 12 (by omega) (by omega) (by omega) (by omega) (by omega) (by omega) (by omega)]
  exact N'
theorem sfI_ld (ok : OK R S) (hn : 0 ≤ n ∧ n ≤ 6) (hl : LwOK L) (h3 : nd S n 3 = 1) (hm : mostS S n (nd S n 12)) (h : sfI S M) : sfI (ldS L S n) M := by
  have t1 := (OK_n ok hn).2.2.2.2.2.2 (by omega)
  have okc := OK_cr ok hn
  have c : ∀ e, 0 ≤ e → e < 244 → nd (crS S n) n e = nd S n e := fun e e0 e1 => cr_nd ok hn hn ⟨e0, e1⟩
  have ok5 := OK_ld5 okc hn (by rw [c 1 (by omega) (by omega)]; exact t1)
  have g5 : sfI (ld5 (crS S n) n) M := sfI_ld5 ok hn h3 hm h
  obtain ⟨ok6, e6⟩ := OK_ld6 ok hn t1
  have y3 : nd (ld5 (crS S n) n) n 3 = 2 := by rw [ld5_e (by omega), if_pos rfl]
  have y1 : nd (ld5 (crS S n) n) n 1 = nd S n 1 := by
    rw [ld5_e (by omega), if_neg (by omega), if_neg (by omega), if_neg (by omega), if_neg (by omega), if_neg (by omega), if_neg (by omega)]
    exact c 1 (by omega) (by omega)
  have g6 : sfI (lyS (ld5 (crS S n) n) n (nd S n 1) 2 0 0) M := by
    rw [← y1]
    exact sfI_ly ok5 hn y3 (fun e => by omega) g5
  unfold ldS
  exact sfI_lb ok6 hn hl (by rw [ly_nd ok5 hn (by omega)]; exact y3) (NX_ly ok5 hn (NX_ld5 hn)) g6
/-- a candidate asks for votes -/
theorem sfG_cv (ok : OK R S) (hn : 0 ≤ n ∧ n ≤ 6) (h3 : nd S n 3 = 1) (ht : 0 ≤ to ∧ to ≤ 6) (G : sfG gl gn ge ld ak vo ct cn K z fl S M) : sfG gl gn ge ld ak vo ct cn K z fl (poS L S (cvM S n to)) M := by
  have N := G.2.1 n hn.1 hn.2
  obtain ⟨⟨a1, a2, a3, a4⟩, a5, a6⟩ := N.1.2.1 h3
  have b1 := (OK_nOk ok hn).2
  refine sfG_po ok G ?_
  unfold sfM sfM2 sfM4 cvM mB
  simp (disch := omega) only [u1_ne, u1_same]
  exact ⟨⟨hn.1, ht.1⟩, fun _ => ⟨a1, a4.symm, by rw [sfK_t N.2 (by unfold lastS; omega) (Int.le_refl _)]; exact a3.symm⟩, fun h => by omega, fun h => by omega, fun h => by omega, fun h => by omega, fun h => by omega⟩
theorem sfI_cvF (hn : 0 ≤ n ∧ n ≤ 6) (hl : LwOK L) : ∀ (j : Nat) (to : Int) (S : qN), 0 ≤ to → to + j ≤ 7 → OK R S → nd S n 3 = 1 → sfI S M → sfI (cvF L n j to S) M
  | 0, _, _, _, _, _, _, h => h
  | j + 1, to, S, t0, tj, ok, h3, h => by
    rw [cvF]; split
    · rename_i q
      have := cvM_ok ok hn (to := to) (by omega) q.1
      obtain ⟨gl, gn, ge, ld, ak, vo, ct, cn, K, z, fl, G⟩ := h
      exact sfI_cvF hn hl j (to + 1) _ (by omega) (by omega) (OK_po ok this.1 this.2 hl) (by rw [poS_nd (OK_g ok) hn (by omega)]; exact h3) ⟨_, _, _, _, _, _, _, _, _, _, _, sfG_cv ok hn h3 ⟨t0, by omega⟩ G⟩
    · exact sfI_cvF hn hl j (to + 1) _ (by omega) (by omega) ok h3 h
theorem cd_e {e : Int} (he : e ≠ 1 ∧ e ≠ 2 ∧ e ≠ 3 ∧ e ≠ 11 ∧ e ≠ 12) : nd (cdS S n v) n e = nd S n e := by
  unfold cdS
  rw [nd_u1 (by omega), nd_u1 (by omega), nd_u1 (by omega), nd_u1 (by omega), nd_u1 (by omega)]
theorem sfI_cd (ok : OK R S) (hn : 0 ≤ n ∧ n ≤ 6) (h : sfI S M) : sfI (cdS S n (shZ 1 n)) M := by
  obtain ⟨gl, gn, ge, ld, ak, vo, ct, cn, K, z, fl, G⟩ := h
  have N := G.2.1 n hn.1 hn.2
  obtain ⟨Y, H', N'⟩ := sf_stand (r' := 1) (b' := shZ 1 n) (mt' := fun k => nd (cdS S n (shZ 1 n)) n (38 + k)) G.1 N.1 hn.1 (by omega) (fun k k0 k6 hk => ((hs1I hn ⟨k0, k6⟩).mp hk).symm)
  have g := (OK_g ok).2.2.1
  have o : sfO n S (cdS S n (shZ 1 n)) := sfO_st (Ot_cd hn) (OK_g ok) (fun j hj => by unfold cdS; rw [u1_ne (by omega), u1_ne (by omega), u1_ne (by omega), u1_ne (by omega), u1_ne (by omega)])
  refine ⟨_, _, _, _, _, _, _, _, _, _, _, sfG_n ok hn o sfXa_rf Y (fun _ _ _ h => h) H' ⟨?_, sfK_cg (OK_nOk ok hn).2.2.2.1 (fun f hf => cd_e (by omega)) N.2⟩ G⟩
  have el : lastS (cdS S n (shZ 1 n)) n = lastS S n := by unfold lastS; rw [cd_e (by omega), cd_e (by omega)]
  have e1 : nd (cdS S n (shZ 1 n)) n 1 = nd S n 1 + 1 := by unfold cdS; rw [nd_u1 (by omega), nd_u1 (by omega), nd_u1 (by omega), nd_u1 (by omega), nd_u1s]
  have e2 : nd (cdS S n (shZ 1 n)) n 2 = n := by unfold cdS; rw [nd_u1 (by omega), nd_u1 (by omega), nd_u1s]
  have e3 : nd (cdS S n (shZ 1 n)) n 3 = 1 := by unfold cdS; rw [nd_u1 (by omega), nd_u1 (by omega), nd_u1 (by omega), nd_u1s]
  have e12 : nd (cdS S n (shZ 1 n)) n 12 = shZ 1 n := by unfold cdS; rw [nd_u1 (by omega), nd_u1s]
  rw [el, e1, e2, e3, e12, cd_e (e := 9) (by omega)]
  exact N'
theorem sfI_st (ok : OK R S) (hn : 0 ≤ n ∧ n ≤ 6) (hl : LwOK L) (h : sfI S M) : sfI (stS L S n) M := by
  unfold stS; split
  · exact sfI_tm ok hn h
  · rename_i q
    have okd := OK_cd ok hn (fun e => q (Or.inr e))
    have okt := OK_tm (L := L) okd hn hl
    have gt := sfI_tm (L := L) okd hn (sfI_cd ok hn h)
    have e3 : nd (tmS L (cdS S n (shZ 1 n)) n) n 3 = 1 := by
      rw [tm_nd hn hn (by omega) (by omega)]
      unfold cdS; rw [nd_u1 (by omega), nd_u1 (by omega), nd_u1 (by omega), nd_u1s]
    split
    · rename_i q2
      exact sfI_ld okt hn hl e3 q2 gt
    · exact sfI_cvF hn hl 7 0 _ (by omega) (by omega) okt e3 gt
/-- an answer that says no, or nothing -/
theorem sfI_an (ok : OK R S) (h0 : 0 ≤ M 0) (h1 : 0 ≤ M 1) (hk : (k = 1 ∧ c ≠ 1) ∨ (k = 3 ∧ c ≠ 1) ∨ (k = 5 ∧ c = 0)) (h : sfI S F) : sfI (anS L S M k c b w) F := by
  obtain ⟨gl, gn, ge, ld, ak, vo, ct, cn, K, z, fl, G⟩ := h
  refine ⟨gl, gn, ge, ld, ak, vo, ct, cn, K, z, fl, sfG_an ok h0 h1 ?_ G⟩
  rcases hk with ⟨a, e⟩ | ⟨a, e⟩ | ⟨a, e⟩
  · exact Or.inl ⟨a, fun h => absurd h e⟩
  · exact Or.inr (Or.inl ⟨a, fun h => absurd h e⟩)
  · exact Or.inr (Or.inr ⟨a, by rw [e]; exact (G.1.2.2.2.2.2.2.1 _ _).1⟩)
/-- it votes -/
theorem sfI_av (ok : OK R S) (hn : 0 ≤ n ∧ n ≤ 6) (hM : MOK R M) (h1 : M 1 = n) (hk : M 2 = 0) (hl : LwOK L) (h : sfI S M) : sfI (avS L S M n) M := by
  have hm := hM.1
  unfold MOKa at hm
  unfold avS; split
  · rename_i q
    obtain ⟨q1, q2, q3⟩ := q
    obtain ⟨gl, gn, ge, ld, ak, vo, ct, cn, K, z, fl, G⟩ := h
    have N := G.2.1 n hn.1 hn.2
    obtain ⟨m1, m2, m3⟩ := G.2.2.2.2.1 hk
    have b1 := (OK_nOk ok hn).2
    unfold nlS at q3
    rw [sfK_t N.2 (by unfold lastS; omega) (Int.le_refl _), m2, m3] at q3
    rw [q1] at m1 q3
    obtain ⟨Y, H', N'⟩ := sf_vote (a := M 0) G.1 N.1 hn.1 q2 (by omega) (by omega) m1 q3
    have okv := OK_vt ok hn hM
    have o : sfO n S (u1 S (244 * n + 2) (M 0)) := sfO_u1 hn (OK_g ok) (by omega)
    have G' := sfG_n ok hn o sfXa_rf Y (fun _ _ _ h => h) H' (S' := u1 S (244 * n + 2) (M 0)) ⟨by
      have el : lastS (u1 S (244 * n + 2) (M 0)) n = lastS S n := by unfold lastS; rw [nd_u1 (by omega), nd_u1 (by omega)]
      rw [el, nd_u1 (by omega), nd_u1s, nd_u1 (by omega), nd_u1 (by omega), nd_u1 (by omega)]
      obtain ⟨a, b, c, d⟩ := N'
      refine ⟨a, b, fun r => ?_, d⟩
      obtain ⟨c1, c2, c3, c4, c5⟩ := c r
      exact ⟨c1, c2, c3, c4, fun k k0 k6 => by have := c5 k k0 k6; simp only at this ⊢; rw [nd_u1 (by omega)]; exact this⟩, sfK_cg (OK_nOk ok hn).2.2.2.1 (fun f hf => nd_u1 (by omega)) N.2⟩ G
    refine ⟨_, _, _, _, _, _, _, _, _, _, _, sfG_an (OK_tm okv hn hl) (by omega) (by omega) (Or.inl ⟨rfl, fun _ => ?_⟩) (sfG_tm okv hn G')⟩
    rw [h1, tm_nd hn hn (by omega) (by omega), nd_u1 (by omega)]
    exact sf2_e
  · exact sfI_an ok (by omega) (by omega) (Or.inl ⟨rfl, by omega⟩) h
/-- it counts a vote -/
theorem sfI_hv1 (ok : OK R S) (hn : 0 ≤ n ∧ n ≤ 6) (hM : MOK R M) (h1 : M 1 = n) (hk : M 2 = 1) (q1 : nd S n 3 = 1) (q2 : M 3 = nd S n 1) (q3 : M 6 = 1) (h : sfI S M) : sfI (hv1 S M n) M := by
  have hm := hM.1
  unfold MOKa at hm
  have b7 : set7 (nd S n 12) := (OK_n ok hn).2.2.1.2.2.1
  obtain ⟨gl, gn, ge, ld, ak, vo, ct, cn, K, z, fl, G⟩ := h
  have m1 := G.2.2.2.2.2.1 hk q3
  rw [q2, h1] at m1
  refine ⟨gl, gn, ge, ld, ak, vo, ct, cn, K, z, fl, sfG_0 ok hn (sfO_u1 hn (OK_g ok) (by omega)) G (fun N => ⟨?_, sfK_cg (OK_nOk ok hn).2.2.2.1 (fun f hf => nd_u1 (by omega)) N.2⟩)⟩
  have el : lastS (hv1 S M n) n = lastS S n := by unfold lastS hv1; rw [nd_u1 (by omega), nd_u1 (by omega)]
  unfold hv1 at el ⊢
  rw [el, nd_u1 (by omega), nd_u1 (by omega), nd_u1 (by omega), nd_u1 (by omega), nd_u1s]
  obtain ⟨a, b, c, d⟩ := N.1
  refine ⟨a, fun r => ?_, fun r => by omega, d⟩
  obtain ⟨b1, b2, b3⟩ := b r
  refine ⟨b1, b2, fun k k0 k6 hb => ?_⟩
  rcases (hs_or b7 (sh1_7 (by omega)) ⟨k0, k6⟩).mp hb with h | h
  · exact b3 k k0 k6 h
  · rw [← (hs1I (by omega) ⟨k0, k6⟩).mp h]
    exact m1
theorem sfI_hv (ok : OK R S) (hn : 0 ≤ n ∧ n ≤ 6) (hM : MOK R M) (h1 : M 1 = n) (hk : M 2 = 1) (hl : LwOK L) (h : sfI S M) : sfI (hvS L S M n) M := by
  unfold hvS; split
  · rename_i q
    obtain ⟨q1, q2, q3⟩ := q
    have okh := OK_hv1 ok hn hM
    have g1 := sfI_hv1 ok hn hM h1 hk q1 q2 q3 h
    split
    · rename_i q4
      exact sfI_ld okh hn hl (by unfold hv1; rw [nd_u1 (by omega)]; exact q1) q4 g1
    · exact g1
  · exact h
end Su
