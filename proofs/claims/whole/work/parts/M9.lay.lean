/-! safety: a leader lays, holds, sends; all that HOLDS does -/
theorem or_N : ∀ a : Nat, a < 128 → ∀ b : Nat, b < 128 → (Int32.ofInt (a : Int) ||| Int32.ofInt (b : Int)).toInt = ((a ||| b : Nat) : Int) := by
  decide +kernel
theorem hs_or {a b k : Int} (ha : set7 a) (hb : set7 b) (hk : 0 ≤ k ∧ k ≤ 6) : hsZ (orZ a b) k ↔ hsZ a k ∨ hsZ b k := by
  obtain ⟨a0, a1⟩ := ha
  obtain ⟨b0, b1⟩ := hb
  have e1 : a = ((a.toNat : Nat) : Int) := by omega
  have e2 : b = ((b.toNat : Nat) : Int) := by omega
  have e3 : k = ((k.toNat : Nat) : Int) := by omega
  have hk7 : k.toNat < 7 := by omega
  have ha7 : a.toNat < 128 := by omega
  have hb7 : b.toNat < 128 := by omega
  have hl : a.toNat ||| b.toNat < 128 := Nat.or_lt_two_pow (n := 7) ha7 hb7
  have ez : orZ a b = ((a.toNat ||| b.toNat : Nat) : Int) := by
    unfold orZ
    rw [e1, e2]
    exact or_N _ ha7 _ hb7
  have q := hs_N k.toNat hk7 (a.toNat ||| b.toNat) hl
  have qa := hs_N k.toNat hk7 a.toNat ha7
  have qb := hs_N k.toNat hk7 b.toNat hb7
  rw [← e3, ← ez] at q
  rw [← e3, ← e1] at qa
  rw [← e3, ← e2] at qb
  have t := Nat.testBit_or a.toNat b.toNat k.toNat
  rw [Nat.testBit_eq_decide_div_mod_eq, Nat.testBit_eq_decide_div_mod_eq, Nat.testBit_eq_decide_div_mod_eq] at t
  have t' : (a.toNat ||| b.toNat) / 2 ^ k.toNat % 2 = 1 ↔ (a.toNat / 2 ^ k.toNat % 2 = 1 ∨ b.toNat / 2 ^ k.toNat % 2 = 1) := by
    have t2 : decide ((a.toNat ||| b.toNat) / 2 ^ k.toNat % 2 = 1) = true ↔ (decide (a.toNat / 2 ^ k.toNat % 2 = 1) || decide (b.toNat / 2 ^ k.toNat % 2 = 1)) = true := by rw [t]
    simpa using t2
  exact q.trans (t'.trans ⟨fun z => z.elim (fun z => Or.inl (qa.mpr z)) (fun z => Or.inr (qb.mpr z)), fun z => z.elim (fun z => Or.inl (qa.mp z)) (fun z => Or.inr (qb.mp z))⟩)
section Su
variable {gl gl' : Int → Int → Int → Int} {gn ge ld gn' ge' ld' : Int → Int} {ak vo ct cn ak' vo' ct' cn' : Int → Int → Int} {K K' : Int → Int → Int → Prop} {z n : Int} {l l' : Int → Int → Int} {fl : Int → Int → Int → Int} {R x x' u t i m p q e c v r w y k b c' b' to a f : Int} {S S' S'' M F : qN} {L : qL}
theorem sh1_7 (hk : 0 ≤ k ∧ k ≤ 6) : set7 (shZ 1 k) := by
  have h : ∀ k : Nat, k < 7 → 0 ≤ shZ 1 (k : Int) ∧ shZ 1 (k : Int) ≤ 127 := by unfold shZ; decide +kernel
  have := h k.toNat (by omega)
  rw [Int.toNat_of_nonneg hk.1] at this
  exact this
/-- those who have at least w -/
theorem who_b (hn : 0 ≤ n ∧ n ≤ 6) : ∀ (j : Nat) (k b : Int), 0 ≤ k → k + j = 7 → set7 b → (∀ m, 0 ≤ m → m ≤ 6 → hsZ b m → w ≤ nd S n (f + m) ∨ m = n) → ∀ m, 0 ≤ m → m ≤ 6 → hsZ (whoF S n f w j k b) m → w ≤ nd S n (f + m) ∨ m = n
  | 0, k, b, k0, hk, b7, hb => hb
  | j + 1, k, b, k0, hk, b7, hb => by
    rw [whoF]
    split
    · exact who_b hn j (k + 1) b (by omega) (by omega) b7 hb
    · rename_i q
      refine who_b hn j (k + 1) _ (by omega) (by omega) (or_rng b7 (sh1_7 ⟨k0, by omega⟩)) (fun m m0 m6 hm => ?_)
      rcases (hs_or b7 (sh1_7 ⟨k0, by omega⟩) ⟨m0, m6⟩).mp hm with h | h
      · exact hb m m0 m6 h
      · have := (hs1I ⟨k0, by omega⟩ ⟨m0, m6⟩).mp h
        subst this
        exact Or.inl (by omega)
theorem who_s (hn : 0 ≤ n ∧ n ≤ 6) : set7 (whoS S n f w) ∧ ∀ m, 0 ≤ m → m ≤ 6 → hsZ (whoS S n f w) m → w ≤ nd S n (f + m) ∨ m = n :=
  ⟨whoF_7 7 0 _ (by omega) (by omega) (sh1_7 hn), who_b hn 7 0 _ (by omega) (by omega) (sh1_7 hn) (fun m m0 m6 hm => Or.inr ((hs1I hn ⟨m0, m6⟩).mp hm).symm)⟩
/-- it compacts -/
theorem sfK_cm (ok : OK R S) (hn : 0 ≤ n ∧ n ≤ 6) (N : sfK S n l) : sfK (cmS S n) n l := by
  have hn' := OK_nOk ok hn
  have hk := OK_kOk ok hn
  obtain ⟨k1, k2⟩ := OK_kOk ok hn
  have b := hn'.2
  have e4 : nd (cmS S n) n 4 = nd S n 9 := cmS_4
  have e8 : nd (cmS S n) n 8 = max 0 (nd S n 8 - (nd S n 9 - nd S n 4)) := cmS_8
  obtain ⟨p, p1, p2⟩ := sfK_cfg hn' N k1 (by unfold lastS; exact k2)
  refine ⟨fun i q i1 i2 q0 q3 => ?_, ?_, p, ?_⟩
  · rw [e4] at i1
    have i3 : i ≤ nd S n 4 + nd S n 8 := by unfold lastS at i2; rw [e4, e8] at i2; omega
    rw [cmS_e hn' hk i1 i3 ⟨q0, by omega⟩]
    exact N.1 i q (by omega) i3 q0 q3
  · rw [cmS_5, e4, sfK_t N k1 (by unfold lastS; exact k2)]
  · rw [e4, cmS_67 (Or.inl rfl), cmS_67 (Or.inr rfl)]
    refine ⟨p1, ?_⟩
    rcases p2 with ⟨a, b, c, d⟩ | ⟨a, b, c, d⟩
    · rw [if_pos a, if_pos a]; exact ⟨c, d⟩
    · rw [if_neg (by omega), if_neg (by omega), a]; exact ⟨c, d⟩
theorem sfG_cm (ok : OK R S) (hn : 0 ≤ n ∧ n ≤ 6) (G : sfG gl gn ge ld ak vo ct cn K z fl S M) : sfG gl gn ge ld ak vo ct cn K z fl (cmS S n) M := by
  have hn' := OK_nOk ok hn
  have hk := OK_kOk ok hn
  obtain ⟨k1, k2⟩ := OK_kOk ok hn
  have o : sfO n S (cmS S n) := sfO_st (fun m e m0 m1 he => cmS_ne hn' hk (by omega)) (OK_g ok) (fun j hj => cmS_ne hn' hk (by omega))
  have e : ∀ e, (e < 4 ∨ 9 ≤ e ∧ e < 23 ∨ 31 ≤ e ∧ e < 52) → nd (cmS S n) n e = nd S n e := fun e he => cmS_nd hn' hk (by omega)
  refine sfG_0 ok hn o G (fun N => ⟨?_, sfK_cm ok hn N.2⟩)
  have el : lastS (cmS S n) n = lastS S n := by unfold lastS; rw [cmS_4, cmS_8]; omega
  rw [el, e 1 (by omega), e 2 (by omega), e 3 (by omega), e 9 (by omega), e 12 (by omega)]
  obtain ⟨a, b, c, d⟩ := N.1
  refine ⟨a, b, fun r => ?_, d⟩
  obtain ⟨c1, c2, c3, c4, c5⟩ := c r
  exact ⟨c1, c2, c3, c4, fun k k0 k6 => by have := c5 k k0 k6; simp only at this ⊢; rw [e _ (by omega)]; exact this⟩
theorem sfG_rm (ok : OK R S) (hn : 0 ≤ n ∧ n ≤ 6) (G : sfG gl gn ge ld ak vo ct cn K z fl S M) : sfG gl gn ge ld ak vo ct cn K z fl (rmS S n) M := by
  unfold rmS
  split
  · exact sfG_cm ok hn G
  · exact G
/-- it lays -/
def sfF (t k a b : Int) : Int → Int := fun q => if q = 0 then t else if q = 1 then k else if q = 2 then a else b
theorem sfK_ly1 (hb : nd S n 8 < 48 ∧ 0 ≤ nd S n 8) (h4 : 0 ≤ nd S n 4) (N : sfK S n l) : sfK (ly1 S n t k a b) n (sfl1 l (lastS S n) (sfF t k a b)) ∧ lastS (ly1 S n t k a b) n = lastS S n + 1 := by
  have e : ∀ e, 0 ≤ e → e < 52 → e ≠ 8 → nd (ly1 S n t k a b) n e = nd S n e := fun e e0 e1 e2 => ly1_nd (by omega) (by omega) e2
  have e8 : nd (ly1 S n t k a b) n 8 = nd S n 8 + 1 := ly1_8 (by omega)
  have el : lastS (ly1 S n t k a b) n = lastS S n + 1 := by unfold lastS; rw [e 4 (by omega) (by omega) (by omega), e8]; omega
  refine ⟨⟨fun i q i1 i2 q0 q3 => ?_, ?_, ?_⟩, el⟩
  · rw [e 4 (by omega) (by omega) (by omega)] at i1
    rw [ly1_lp (by omega)]
    by_cases y : i = lastS S n + 1
    · rw [y, sfl1_e]
      have e3 : lpS S n (lastS S n + 1) = 244 * n + 52 + 4 * nd S n 8 := by unfold lpS lastS; omega
      rw [e3]
      obtain ⟨z0, z1, z2, z3⟩ := ly1_new (S := S) (n := n) (t := t) (k := k) (a := a) (b := b) _ rfl
      have qq : q = 0 ∨ q = 1 ∨ q = 2 ∨ q = 3 := by omega
      rcases qq with rfl | rfl | rfl | rfl
      · rw [Int.add_zero]; exact z0
      · exact z1
      · exact z2
      · exact z3
    · have i3 : i ≤ lastS S n := by omega
      rw [sfl1_n y, ← N.1 i q i1 i3 q0 q3]
      unfold lpS lastS at *
      exact ly1_old (by omega) (by omega)
  · rw [e 5 (by omega) (by omega) (by omega), e 4 (by omega) (by omega) (by omega), sfl1_n (by unfold lastS; omega)]
    exact N.2.1
  · obtain ⟨p, p1, p2, p3⟩ := N.2.2
    have := p1.1
    rw [e 4 (by omega) (by omega) (by omega), e 6 (by omega) (by omega) (by omega), e 7 (by omega) (by omega) (by omega)]
    exact ⟨p, sfC_cg p1 (fun j j0 j1 => sfl1_n (by unfold lastS; omega)), by rw [sfl1_n (by unfold lastS; omega)]; exact p2, by rw [sfl1_n (by unfold lastS; omega)]; exact p3⟩
theorem sfI_ly (ok : OK R S) (hn : 0 ≤ n ∧ n ≤ 6) (h3 : nd S n 3 = 2) (hc : k = 1 → (set7 a ∧ set7 b) ∧ heldCfg S n ∧ sfS (oldS S n) (newS S n) a b) (h : sfI S M) : sfI (lyS S n (nd S n 1) k a b) M := by
  obtain ⟨gl, gn, ge, ld, ak, vo, ct, cn, K, z, fl, G⟩ := h
  have G1 := sfG_rm ok hn G
  have ok1 := OK_rm ok hn
  have N := G.2.1 n hn.1 hn.2
  have N1 := G1.2.1 n hn.1 hn.2
  unfold lyS
  split
  · rename_i hr
    have hb := hasRoom_lt ok hn hr
    have b1 := (OK_nOk ok1 hn).2
    have k1 := OK_kOk ok1 hn
    have k0 := OK_kOk ok hn
    have r1 : nd (rmS S n) n 1 = nd S n 1 := rm_nd ok hn (by omega)
    have r3 : nd (rmS S n) n 3 = 2 := by rw [rm_nd ok hn (by omega)]; exact h3
    have r9 : nd (rmS S n) n 9 = nd S n 9 := rm_nd ok hn (by omega)
    obtain ⟨k2, el⟩ := sfK_ly1 (t := nd S n 1) (k := k) (a := a) (b := b) ⟨hb.1, b1.2.1⟩ b1.1 N1.2
    obtain ⟨p, p1, p2, p3, p4⟩ := sfK_last (OK_nOk ok hn) k0 N.2
    have la : lastS (rmS S n) n = lastS S n := rm_last ok hn
    have NN := N1.1
    rw [r3] at NN
    obtain ⟨X, Y, H', N'⟩ := sf_lay (f := sfF (nd S n 1) k a b) G.1 NN hn.1 r1.symm (fun e => by
      obtain ⟨h7, hh, hs⟩ := hc e
      refine ⟨h7, p, by rw [la]; exact p1, by rw [r9]; exact p4.mp hh, ?_⟩
      rw [← p2, ← p3]
      exact hs)
    have e : ∀ e, 0 ≤ e → e < 52 → e ≠ 8 → nd (ly1 (rmS S n) n (nd S n 1) k a b) n e = nd (rmS S n) n e := fun e e0 e1 e2 => ly1_nd (by omega) (by omega) e2
    have o : sfO n (rmS S n) (ly1 (rmS S n) n (nd S n 1) k a b) := sfO_st (fun m e m0 m1 he => ly1_ne (by omega) (by omega)) (OK_g ok1) (fun j hj => ly1_ne (by omega) (by omega))
    refine ⟨_, _, _, _, _, _, _, _, _, _, _, sfG_n ok1 hn o X Y (fun _ _ _ h => h) H' ⟨?_, k2⟩ G1⟩
    rw [el, e 1 (by omega) (by omega) (by omega), e 2 (by omega) (by omega) (by omega), e 3 (by omega) (by omega) (by omega), e 9 (by omega) (by omega) (by omega), e 12 (by omega) (by omega) (by omega), r3]
    obtain ⟨a1, a2, a3, a4⟩ := N'
    refine ⟨a1, a2, fun r => ?_, a4⟩
    obtain ⟨c1, c2, c3, c4, c5⟩ := a3 r
    exact ⟨c1, c2, c3, c4, fun k k0 k6 => by have := c5 k k0 k6; simp only at this ⊢; rw [e _ (by omega) (by omega) (by omega)]; exact this⟩
  · exact ⟨_, _, _, _, _, _, _, _, _, _, _, G1⟩
/-- MATCH of a node, by its leader -/
theorem sfG_mt (ok : OK R S) (hn : 0 ≤ n ∧ n ≤ 6) (hk : 0 ≤ k ∧ k ≤ 6) (hv : v ≤ ak (nd S n 1) k) (G : sfG gl gn ge ld ak vo ct cn K z fl S M) : sfG gl gn ge ld ak vo ct cn K z fl (u1 S (244 * n + (38 + k)) v) M := by
  refine sfG_0 ok hn (sfO_u1 hn (OK_g ok) (by omega)) G (fun N => ⟨?_, sfK_cg (OK_nOk ok hn).2.2.2.1 (fun e he => nd_u1 (by omega)) N.2⟩)
  have el : lastS (u1 S (244 * n + (38 + k)) v) n = lastS S n := by unfold lastS; rw [nd_u1 (by omega), nd_u1 (by omega)]
  rw [el, nd_u1 (by omega), nd_u1 (by omega), nd_u1 (by omega), nd_u1 (by omega), nd_u1 (by omega)]
  obtain ⟨a, b, c, d⟩ := N.1
  refine ⟨a, b, fun r => ?_, d⟩
  obtain ⟨c1, c2, c3, c4, c5⟩ := c r
  refine ⟨c1, c2, c3, c4, fun k' k0 k6 => ?_⟩
  have := c5 k' k0 k6
  simp only at this ⊢
  by_cases q : k' = k
  · rw [q, nd_u1s]; exact hv
  · rw [nd_u1 (by omega)]; exact this
/-- COMMIT grows -/
theorem sfNS_gro (ok : OK R S) (hn : 0 ≤ n ∧ n ≤ 6) (N : sfN gl gn ge ld ak vo ct cn K z n l (lastS S n) (nd S n 1) (nd S n 2) (nd S n 3) (max (nd S n 9) w) (nd S n 12) (fun k => nd S n (38 + k))) (Nk : sfK S n l) : sfNS gl gn ge ld ak vo ct cn K z (groS S n w) n l := by
  have e : ∀ e, (0 ≤ e ∧ e < 15 ∨ 23 ≤ e ∧ e < 244) → e ≠ 9 → nd (groS S n w) n e = nd S n e := fun e he h9 => gro_nd ok hn he h9
  refine ⟨?_, sfK_cg (OK_nOk ok hn).2.2.2.1 (fun f hf => e f (by omega) (by omega)) Nk⟩
  have el : lastS (groS S n w) n = lastS S n := by unfold lastS; rw [e 4 (by omega) (by omega), e 8 (by omega) (by omega)]
  rw [el, e 1 (by omega) (by omega), e 2 (by omega) (by omega), e 3 (by omega) (by omega), gro_9 ok hn, e 12 (by omega) (by omega)]
  obtain ⟨a, b, c, d⟩ := N
  refine ⟨a, b, fun r => ?_, d⟩
  obtain ⟨c1, c2, c3, c4, c5⟩ := c r
  exact ⟨c1, c2, c3, c4, fun k k0 k6 => by have := c5 k k0 k6; simp only at this ⊢; rw [e _ (by omega) (by omega)]; exact this⟩
theorem sfO_gro (ok : OK R S) (hn : 0 ≤ n ∧ n ≤ 6) : sfO n S (groS S n w) := sfO_st (Ot_gro ok hn) (OK_g ok) (fun j hj => gro_off ok hn (by omega) (by omega) (by omega))
theorem mhF_s : ∀ (j : Nat) (i : Int), mhF S n j i = nd S n 9 ∨ (mhF S n j i ≤ i ∧ i - j < mhF S n j i ∧ tAS S n (mhF S n j i) = nd S n 1 ∧ mostS S n (whoS S n 38 (mhF S n j i)))
  | 0, i => Or.inl rfl
  | j + 1, i => by
    rw [mhF]
    split
    · rename_i q; exact Or.inr ⟨Int.le_refl _, by omega, q⟩
    · rcases mhF_s j (i - 1) with h | ⟨h1, h2, h3⟩
      · exact Or.inl h
      · exact Or.inr ⟨by omega, by omega, h3⟩
theorem sfI_gm (ok : OK R S) (hn : 0 ≤ n ∧ n ≤ 6) (h3 : nd S n 3 = 2) (h : sfI S M) : sfI (groS S n (mhS S n)) M := by
  obtain ⟨gl, gn, ge, ld, ak, vo, ct, cn, K, z, fl, G⟩ := h
  have N := G.2.1 n hn.1 hn.2
  obtain ⟨k1, k2⟩ := OK_kOk ok hn
  have b1 := (OK_nOk ok hn).2
  have o := sfO_gro ok hn (w := mhS S n)
  rcases mhF_s (S := S) (n := n) (lastS S n - nd S n 9).toNat (lastS S n) with e | ⟨e1, e2, e3, e4⟩
  · have e' : mhS S n = nd S n 9 := e
    refine ⟨_, _, _, _, _, _, _, _, _, _, _, sfG_0 ok hn o G (fun N => sfNS_gro ok hn ?_ N.2)⟩
    rw [e', Int.max_self]
    exact N.1
  · have ei : mhS S n = mhF S n (lastS S n - nd S n 9).toNat (lastS S n) := rfl
    rw [← ei] at e1 e2 e3 e4
    obtain ⟨p, p1, p2, p3, p4⟩ := sfK_last (OK_nOk ok hn) (OK_kOk ok hn) N.2
    rw [mostS_mq, p2, p3] at e4
    have hw := who_s (S := S) (f := 38) (w := mhS S n) hn
    have NN := N.1
    rw [h3] at NN
    have e5 : nd S n 9 < mhS S n := by unfold lastS at *; omega
    obtain ⟨H', N'⟩ := sf_hold G.1 NN (i := mhS S n) ⟨by omega, e1, by rw [← sfK_t N.2 (by omega) e1]; exact e3⟩ p1 hw.1 e4 hw.2
    refine ⟨_, _, _, _, _, _, _, _, _, _, _, sfG_n ok hn o (sfXa_rf (n := n)) sfXb_rf (fun _ _ _ h => Or.inl h) H' (sfNS_gro ok hn ?_ N.2) G⟩
    rw [Int.max_eq_right (by omega), h3]
    exact N'
theorem sfI_tm (ok : OK R S) (hn : 0 ≤ n ∧ n ≤ 6) : sfI S M → sfI (tmS L S n) M := fun ⟨gl, gn, ge, ld, ak, vo, ct, cn, K, z, fl, G⟩ => ⟨gl, gn, ge, ld, ak, vo, ct, cn, K, z, fl, sfG_tm ok hn G⟩
theorem sfI_fo (ok : OK R S) (hn : 0 ≤ n ∧ n ≤ 6) : sfI S M → sfI (foS S n w) M := fun ⟨gl, gn, ge, ld, ak, vo, ct, cn, K, z, fl, G⟩ => ⟨gl, gn, ge, ld, ak, vo, ct, cn, K, z, fl, sfG_fo ok hn G⟩
theorem sfI_u1 (ok : OK R S) (hn : 0 ≤ n ∧ n ≤ 6) (he : 0 ≤ e ∧ e < 52) (hr : ¬ sfR e) : sfI S M → sfI (u1 S (244 * n + e) v) M := fun ⟨gl, gn, ge, ld, ak, vo, ct, cn, K, z, fl, G⟩ => ⟨gl, gn, ge, ld, ak, vo, ct, cn, K, z, fl, sfG_u1 ok hn he hr G⟩
theorem sfI_cg (ok : OK R S) (h : ∀ m e, 0 ≤ m → m ≤ 6 → sfR e → nd S' m e = nd S m e) (h3 : S' 11133 = S 11133) (hm : ∀ j, (1708 ≤ j ∧ j < 1708 + 27 * S 11133) ∨ (10028 ≤ j ∧ j < 11028) → S' j = S j) : sfI S M → sfI S' M := fun ⟨gl, gn, ge, ld, ak, vo, ct, cn, K, z, fl, G⟩ => ⟨gl, gn, ge, ld, ak, vo, ct, cn, K, z, fl, sfG_cg ok h h3 hm G⟩
theorem sfI_sa (ok : OK R S) (hn : 0 ≤ n ∧ n ≤ 6) (hl : LwOK L) (h3 : nd S n 3 = 2) (hx : NX S n) : sfI S M → sfI (saS L S n) M := fun ⟨gl, gn, ge, ld, ak, vo, ct, cn, K, z, fl, G⟩ => ⟨gl, gn, ge, ld, ak, vo, ct, cn, K, z, fl, sfG_sa ok hn hl h3 hx G⟩
theorem sfI_sd (ok : OK R S) (hn : 0 ≤ n ∧ n ≤ 6) (h3 : nd S n 3 = 2) (ht : 0 ≤ to ∧ to ≤ 6) (hx : nd S n (31 + to) ≤ lastS S n + 1) : sfI S M → sfI (sdS L S n to) M := fun ⟨gl, gn, ge, ld, ak, vo, ct, cn, K, z, fl, G⟩ => ⟨gl, gn, ge, ld, ak, vo, ct, cn, K, z, fl, sfG_sd ok hn h3 ht hx G⟩
theorem sfI_fin (ok : OK R S) (hn : 0 ≤ n ∧ n ≤ 6) (h : sfI S M) : sfI (finH L S n) M := by
  unfold finH; split
  · exact h
  · exact sfI_tm (OK_fo ok hn (by omega)) hn (sfI_fo ok hn h)
theorem sfI_hoB (ok : OK R S) (hn : 0 ≤ n ∧ n ≤ 6) (hl : LwOK L) (h3 : nd S n 3 = 2) (hx : NX S n) (h : sfI S M) : sfI (hoB L S n) M := by
  have b := (OK_n ok hn).2.1.1
  unfold hoB
  refine sfI_sa (OK_cell ok hn (by omega) (by unfold cOKv lastS; omega)) hn hl (by rw [nd_u1 (by omega)]; exact h3) (NX_m hn (by omega) hx) ?_
  obtain ⟨gl, gn, ge, ld, ak, vo, ct, cn, K, z, fl, G⟩ := h
  obtain ⟨c1, c2, c3, c4, c5⟩ := (G.2.1 n hn.1 hn.2).1.2.2.1 h3
  exact ⟨_, _, _, _, _, _, _, _, _, _, _, sfG_mt ok hn hn c4 G⟩
/-- HOLDS -/
theorem sfI_ho (ok : OK R S) (hn : 0 ≤ n ∧ n ≤ 6) (hl : LwOK L) (h3 : nd S n 3 = 2) (hx : NX S n) (h : sfI S M) : sfI (hoS L S n) M := by
  have ht : 1 ≤ nd S n 1 := (OK_n ok hn).2.2.2.2.2.2 (by omega)
  have h1 := OK_gm ok hn
  have h2 := OK_ly h1 hn (eT_cfg ok hn ht)
  have g1 := sfI_gm ok hn h3 h
  have e1 : nd (groS S n (mhS S n)) n 1 = nd S n 1 := gro_nd ok hn (by omega) (by omega)
  have e3 : nd (groS S n (mhS S n)) n 3 = 2 := by rw [gro_nd ok hn (by omega) (by omega)]; exact h3
  have x1 := NX_gro ok hn hx (x := mhS S n)
  unfold hoS; split
  · rename_i q
    have h7 := OK_cOk h1 hn
    have g2 : sfI (lyS (groS S n (mhS S n)) n (nd S n 1) 1 (newS (groS S n (mhS S n)) n) 0) M := by
      rw [← e1]
      exact sfI_ly h1 hn e3 (fun _ => ⟨⟨h7.2, by unfold set7; omega⟩, q.2, Or.inr ⟨q.1, rfl, rfl⟩⟩) g1
    have y3 : nd (lyS (groS S n (mhS S n)) n (nd S n 1) 1 (newS (groS S n (mhS S n)) n) 0) n 3 = 2 := by rw [ly_nd h1 hn (by omega)]; exact e3
    split
    · have g3 := sfI_hoB h2 hn hl y3 (NX_ly h1 hn x1) g2
      exact sfI_fin (OK_gm (OK_hoB h2 hn hl) hn) hn (sfI_gm (OK_hoB h2 hn hl) hn (by rw [hoB_nd h2 hn hl hn (by omega) (by omega)]; exact y3) g3)
    · exact sfI_fin h2 hn g2
  · exact sfI_fin h1 hn g1
theorem sfI_lb (ok : OK R S) (hn : 0 ≤ n ∧ n ≤ 6) (hl : LwOK L) (h3 : nd S n 3 = 2) (hx : NX S n) (h : sfI S M) : sfI (lbS L S n) M :=
  sfI_ho (OK_hoB ok hn hl) hn hl (by rw [hoB_nd ok hn hl hn (by omega) (by omega)]; exact h3) (NX_hoB ok hn hl hx) (sfI_hoB ok hn hl h3 hx h)
end Su
