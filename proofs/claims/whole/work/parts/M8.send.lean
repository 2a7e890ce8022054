/-! safety: what a row's log says, and what a leader sends is sound -/
section Su
variable {gl gl' : Int → Int → Int → Int} {gn ge ld gn' ge' ld' : Int → Int} {ak vo ct cn ak' vo' ct' cn' : Int → Int → Int} {K K' : Int → Int → Int → Prop} {z n : Int} {l l' : Int → Int → Int} {fl : Int → Int → Int → Int} {R x x' u t i m p q e c v r w y k b c' b' to : Int} {S S' S'' M F : qN} {L : qL}
theorem sfK_e (N : sfK S n l) (h1 : nd S n 4 < i) (h2 : i ≤ lastS S n) : l i 0 = S (lpS S n i) ∧ l i 1 = S (lpS S n i + 1) ∧ l i 2 = S (lpS S n i + 2) ∧ l i 3 = S (lpS S n i + 3) := by
  refine ⟨?_, ?_, ?_, ?_⟩
  · have := N.1 i 0 h1 h2 (by omega) (by omega)
    rw [Int.add_zero] at this
    exact this.symm
  · exact (N.1 i 1 h1 h2 (by omega) (by omega)).symm
  · exact (N.1 i 2 h1 h2 (by omega) (by omega)).symm
  · exact (N.1 i 3 h1 h2 (by omega) (by omega)).symm
theorem sfK_t (N : sfK S n l) (h1 : nd S n 4 ≤ i) (h2 : i ≤ lastS S n) : tAS S n i = l i 0 := by
  unfold tAS
  by_cases q : i = nd S n 4
  · rw [if_pos q, q]; exact N.2.1
  · rw [if_neg q]; exact (sfK_e N (by omega) h2).1.symm
theorem sfK_cfg (hn : nOk S n) (N : sfK S n l) (h1 : nd S n 4 ≤ u) (h2 : u ≤ lastS S n) : ∃ p, sfC l u p ∧ ((cfgAt S n u = -1 ∧ p ≤ nd S n 4 ∧ nd S n 6 = l p 2 ∧ nd S n 7 = l p 3) ∨ (cfgAt S n u = p ∧ nd S n 4 < p ∧ S (lpS S n p + 2) = l p 2 ∧ S (lpS S n p + 3) = l p 3)) := by
  obtain ⟨-, n3, n4, n5, n6⟩ := hn
  have a1 : cfgAt S n u = cfgS S n (u - nd S n 4).toNat := by unfold cfgAt; congr 1; omega
  have lp : ∀ j, lpS S n (nd S n 4 + 1 + j) = 244 * n + 52 + 4 * j := fun j => by unfold lpS; omega
  have ke : ∀ j, 0 ≤ j → j < u - nd S n 4 → l (nd S n 4 + 1 + j) 1 = S (244 * n + 52 + 4 * j + 1) := fun j j0 j1 => by rw [(sfK_e N (by omega) (by omega)).2.1, lp]
  rw [a1]
  rcases cfgS_sp (S := S) (n := n) (u - nd S n 4).toNat with ⟨c1, c2⟩ | ⟨j, j0, j1, j2, j3, j4⟩
  · obtain ⟨p, p1, p2, p3⟩ := N.2.2
    refine ⟨p, ⟨⟨p1.1.1, by have := p1.1.2.1; omega, p1.1.2.2⟩, fun j j1 j2 => ?_⟩, Or.inl ⟨c1, p1.1.2.1, p2, p3⟩⟩
    by_cases q : j ≤ nd S n 4
    · exact p1.2 j j1 q
    · have := c2 (j - nd S n 4 - 1) (by omega) (by omega)
      rw [← ke _ (by omega) (by omega), show nd S n 4 + 1 + (j - nd S n 4 - 1) = j by omega] at this
      exact this
  · refine ⟨nd S n 4 + 1 + j, ⟨⟨by omega, by omega, by rw [ke j j0 (by omega)]; exact j3⟩, fun i i1 i2 => ?_⟩, Or.inr ⟨by rw [j2]; omega, by omega, ?_, ?_⟩⟩
    · have := j4 (i - nd S n 4 - 1) (by omega) (by omega)
      rw [← ke _ (by omega) (by omega), show nd S n 4 + 1 + (i - nd S n 4 - 1) = i by omega] at this
      exact this
    · exact (sfK_e N (by omega) (by omega)).2.2.1.symm
    · exact (sfK_e N (by omega) (by omega)).2.2.2.symm
/-- the CONFIG of a node -/
theorem sfK_last (hn : nOk S n) (hk : kOk S n) (N : sfK S n l) : ∃ p, sfC l (lastS S n) p ∧ oldS S n = l p 2 ∧ newS S n = l p 3 ∧ (heldCfg S n ↔ p ≤ nd S n 9) := by
  obtain ⟨k1, k2⟩ := hk
  have hn' := hn
  obtain ⟨-, n3, n4, n5, n6⟩ := hn
  obtain ⟨p, p1, p2⟩ := sfK_cfg hn' N (u := lastS S n) (by unfold lastS; omega) (Int.le_refl _)
  have e : cfgAt S n 999 = cfgAt S n (lastS S n) := by unfold cfgAt; congr 2; unfold lastS; omega
  refine ⟨p, p1, ?_⟩
  unfold oldS newS heldCfg
  rw [e]
  rcases p2 with ⟨a, b, c, d⟩ | ⟨a, b, c, d⟩
  · rw [if_pos a, if_pos a, a]
    exact ⟨c, d, by constructor <;> intro <;> omega⟩
  · rw [if_neg (by omega), if_neg (by omega), a]
    exact ⟨c, d, Iff.rfl⟩
theorem sfMc_6 (h : sfN6 gl K l x t c) : sfMc K t c := h.elim Or.inl (fun ⟨s, i, m, a, b, _, d, _⟩ => Or.inr ⟨s, i, m, a, b, d⟩)
theorem sfN6_b (H : sfH gl gn ge ld ak vo ct cn K z) (ok : OK R S) (hn : 0 ≤ n ∧ n ≤ 6) (N : sfNS gl gn ge ld ak vo ct cn K z S n l) (hb : nd S n 4 ≤ c) (hc : c ≤ nd S n 9) : sfN6 gl K l (lastS S n) (nd S n 1) c :=
  sfN6_le H N.1.1.1 N.1.2.2.2 (by have := (OK_nOk ok hn).2.1; omega) hc
/-- what a leader sends -/
theorem sfM_sn (H : sfH gl gn ge ld ak vo ct cn K z) (ok : OK R S) (hn : 0 ≤ n ∧ n ≤ 6) (N : sfNS gl gn ge ld ak vo ct cn K z S n l) (h3 : nd S n 3 = 2) (ht : 0 ≤ to ∧ to ≤ 6) (hx : nd S n (31 + to) ≤ lastS S n + 1) : sfM gl gn ld ak vo ct cn K (snF S n to) := by
  obtain ⟨c1, c2, c3, c4, c5⟩ := N.1.2.2.1 h3
  have hn' := OK_nOk ok hn
  have hk := OK_kOk ok hn
  obtain ⟨k1, k2⟩ := hk
  have b8 := hn'.2
  have hN := N.1.2.2.2
  have hb6 := sfN6_b H ok hn N (Int.le_refl _) k1
  have t1 := (OK_n ok hn).2.2.2.2.2.1 h3 (31 + to) (by omega) (by omega)
  unfold snF
  split
  · rename_i hb
    have f : ∀ e, e < 11 ∨ 19 ≤ e → tsB S (u1 (mB S n to 4) 10 (nd S n 13)) n e = tsA S (u1 (mB S n to 4) 10 (nd S n 13)) n e := fun e he => by unfold tsB cpN; rw [if_neg (by omega)]
    unfold sfM sfM2 sfM4
    simp only [f 0 (by omega), f 1 (by omega), f 2 (by omega), f 3 (by omega), f 6 (by omega), f 7 (by omega), f 8 (by omega), f 9 (by omega)]
    unfold tsA mB
    simp (disch := omega) only [u1_ne, u1_same]
    refine ⟨⟨hn.1, ht.1⟩, fun h => by omega, fun h => by omega, fun h => by omega, fun h => by omega, fun _ => ⟨c1, ⟨by omega, by unfold lastS at c2; omega, ?_, ?_⟩, sfMc_6 hb6⟩, fun h => by omega⟩
    · rw [c3 _ (by omega) (by unfold lastS; omega)]; exact N.2.2.1
    · obtain ⟨p, p1, p2, p3⟩ := N.2.2.2
      have := p1.1
      exact ⟨p, sfC_cg p1 (fun j j0 j1 => c3 j j0 (by unfold lastS; omega)), by rw [c3 p (by omega) (by unfold lastS; omega)]; exact p2, by rw [c3 p (by omega) (by unfold lastS; omega)]; exact p3⟩
  · rename_i hb
    have tn : 0 ≤ teN S n (nd S n (31 + to)) ∧ teN S n (nd S n (31 + to)) ≤ 4 ∧ teN S n (nd S n (31 + to)) ≤ lastS S n - nd S n (31 + to) + 1 := by unfold teN lastS at *; omega
    have f : ∀ e, e < 11 → teB S (u1 (mB S n to 2) 10 (nd S n 13)) n (nd S n (31 + to)) e = teA S (u1 (mB S n to 2) 10 (nd S n 13)) n (nd S n (31 + to)) e := fun e he => by unfold teB cpN; rw [if_neg (by omega)]
    unfold sfM sfM2 sfM4
    simp only [f 0 (by omega), f 1 (by omega), f 2 (by omega), f 3 (by omega), f 5 (by omega), f 6 (by omega), f 7 (by omega), f 8 (by omega), f 9 (by omega)]
    unfold teA mB
    simp (disch := omega) only [u1_ne, u1_same]
    refine ⟨⟨hn.1, ht.1⟩, fun h => by omega, fun h => by omega, fun _ => ⟨c1, ⟨by omega, by omega, by omega, ?_, fun k q k0 k1 q0 q1 => ?_⟩, sfMc_6 hN⟩, fun h => by omega, fun h => by omega, fun h => by omega⟩
    · rw [sfK_t N.2 (by omega) (by omega), c3 _ (by omega) (by omega)]
    · rw [show nd S n (31 + to) - 1 + 1 + k = nd S n (31 + to) + k by omega, c3 _ (by omega) (by omega), ← N.2.1 _ q (by omega) (by omega) q0 q1]
      unfold teB cpN
      rw [if_pos (by omega)]
      congr 1
      unfold lpS
      omega
theorem sfG_sd (ok : OK R S) (hn : 0 ≤ n ∧ n ≤ 6) (h3 : nd S n 3 = 2) (ht : 0 ≤ to ∧ to ≤ 6) (hx : nd S n (31 + to) ≤ lastS S n + 1) (G : sfG gl gn ge ld ak vo ct cn K z fl S M) : sfG gl gn ge ld ak vo ct cn K z fl (sdS L S n to) M :=
  sfG_po ok G (sfM_sn G.1 ok hn (G.2.1 n hn.1 hn.2) h3 ht hx)
theorem sfG_saF (hn : 0 ≤ n ∧ n ≤ 6) (hl : LwOK L) : ∀ (j : Nat) (to : Int) (S : qN), 0 ≤ to → to + j ≤ 7 → OK R S → nd S n 3 = 2 → NX S n → sfG gl gn ge ld ak vo ct cn K z fl S M → sfG gl gn ge ld ak vo ct cn K z fl (saF L n j to S) M
  | 0, _, _, _, _, _, _, _, G => G
  | j + 1, to, S, t0, tj, ok, h3, hx, G => by
    have hp := fun e he => poS_nd (L := L) (F := snF S n to) (OK_g ok) hn (e := e) he
    rw [saF]
    split
    · rename_i q
      refine sfG_saF hn hl j (to + 1) _ (by omega) (by omega) (OK_sd ok hn ⟨t0, by omega⟩ q.1 hl) ?_ (fun k k0 k6 => ?_) (sfG_sd ok hn h3 ⟨t0, by omega⟩ (hx to t0 (by omega)) G)
      · rw [show nd (sdS L S n to) n 3 = nd S n 3 from hp 3 (by omega)]; exact h3
      · rw [show nd (sdS L S n to) n (31 + k) = nd S n (31 + k) from hp _ (by omega), show nd (sdS L S n to) n 4 = nd S n 4 from hp _ (by omega), show nd (sdS L S n to) n 8 = nd S n 8 from hp _ (by omega)]
        exact hx k k0 k6
    · exact sfG_saF hn hl j (to + 1) _ (by omega) (by omega) ok h3 hx G
theorem sfG_sa (ok : OK R S) (hn : 0 ≤ n ∧ n ≤ 6) (hl : LwOK L) (h3 : nd S n 3 = 2) (hx : NX S n) (G : sfG gl gn ge ld ak vo ct cn K z fl S M) : sfG gl gn ge ld ak vo ct cn K z fl (saS L S n) M := sfG_saF hn hl 7 0 S (by omega) (by omega) ok h3 hx G
/-- an answer -/
theorem sfG_an (ok : OK R S) (h0 : 0 ≤ M 0) (h1 : 0 ≤ M 1) (hk : (k = 1 ∧ (c = 1 → vo (nd S (M 1) 1) (M 1) = M 0)) ∨ (k = 3 ∧ (c = 1 → b ≤ ak (nd S (M 1) 1) (M 1))) ∨ (k = 5 ∧ c ≤ ak (nd S (M 1) 1) (M 1))) (G : sfG gl gn ge ld ak vo ct cn K z fl S F) : sfG gl gn ge ld ak vo ct cn K z fl (anS L S M k c b w) F := by
  refine sfG_po ok G ?_
  unfold sfM sfM2 sfM4 mB
  simp (disch := omega) only [u1_ne, u1_same]
  refine ⟨⟨h1, h0⟩, fun h => by omega, fun h h' => ?_, fun h => by omega, fun h h' => ?_, fun h => by omega, fun h => ?_⟩
  · rcases hk with ⟨_, a⟩ | ⟨_, a⟩ | ⟨_, a⟩
    · exact a h'
    · omega
    · omega
  · rcases hk with ⟨_, a⟩ | ⟨_, a⟩ | ⟨_, a⟩
    · omega
    · exact a h'
    · omega
  · rcases hk with ⟨_, a⟩ | ⟨_, a⟩ | ⟨_, a⟩
    · omega
    · omega
    · exact a
end Su
