/-! safety: a follower takes entries, or a snapshot -/
/-- its log is its leader's up to x, and it has said so -/
def sfP (S M : qN) (n x : Int) : Prop :=
  nd S n 3 = 0 ∧ nd S n 1 = M 3 ∧ x ≤ lastS S n ∧ ∃ gl gn ge ld ak vo ct cn K z fl, sfG gl gn ge ld ak vo ct cn K z fl S M ∧ (∀ j, 0 ≤ j → j ≤ x → fl n j = gl (M 3) j) ∧ x ≤ ak (M 3) n
section Su
variable {gl gl' : Int → Int → Int → Int} {gn ge ld gn' ge' ld' : Int → Int} {ak vo ct cn ak' vo' ct' cn' : Int → Int → Int} {K K' : Int → Int → Int → Prop} {z n : Int} {l l' : Int → Int → Int} {fl : Int → Int → Int → Int} {R x x' u t i m p q e c v r w y k b c' b' to a f prev : Int} {S S' S'' M F : qN} {L : qL}
theorem sfC_q {l l' : Int → Int → Int} (h : ∀ i q, 0 ≤ q → q ≤ 3 → l' i q = l i q) (c : sfC l x p) : sfC l' x p := ⟨⟨c.1.1, c.1.2.1, by rw [h _ 1 (by omega) (by omega)]; exact c.1.2.2⟩, fun j j1 j2 => by rw [h _ 1 (by omega) (by omega)]; exact c.2 j j1 j2⟩
theorem sfK_q (h : ∀ i q, 0 ≤ q → q ≤ 3 → l' i q = l i q) (N : sfK S n l) : sfK S n l' := by
  obtain ⟨a, b, p, c, d, e⟩ := N
  exact ⟨fun i q i1 i2 q0 q3 => by rw [h i q q0 q3]; exact a i q i1 i2 q0 q3, by rw [h _ 0 (by omega) (by omega)]; exact b, p, sfC_q h c, by rw [h _ 2 (by omega) (by omega)]; exact d, by rw [h _ 3 (by omega) (by omega)]; exact e⟩
/-- it takes: the log becomes l', the last x' -/
theorem sfP_take (ok : OK R S) (hn : 0 ≤ n ∧ n ≤ 6) (ht : nd S n 1 = M 3) (hld : ld (M 3) ≠ -1) (G : sfG gl gn ge ld ak vo ct cn K z fl S M) (o : sfO n S S') (h1 : nd S' n 1 = nd S n 1) (h2 : nd S' n 2 = nd S n 2) (h3 : nd S' n 3 = 0)
    (h9 : nd S' n 9 = nd S n 9 ∨ (nd S' n 9 ≤ k ∧ 0 ≤ nd S' n 9 ∧ sfMc K (M 3) (nd S' n 9))) (hx : lastS S' n = x') (hk : 0 ≤ k ∧ k ≤ x' ∧ k ≤ gn (M 3)) (ha : ∀ j, 0 ≤ j → j ≤ k → l' j = gl (M 3) j)
    (hb : ∀ i, 1 ≤ i → i ≤ lastS S n → (i ≤ x' ∧ l' i = fl n i) ∨ ∃ j, 1 ≤ j ∧ j ≤ i ∧ j ≤ gn (M 3) ∧ fl n j 0 ≠ gl (M 3) j 0)
    (hc : ∀ i, 1 ≤ i → i ≤ x' → (i ≤ lastS S n ∧ ∀ j, 0 ≤ j → j ≤ i → l' j = fl n j) ∨ (i ≤ gn (M 3) ∧ ∀ j, 0 ≤ j → j ≤ i → l' j = gl (M 3) j))
    (Nk : sfK S' n l') : sfP S' M n k := by
  have N := G.2.1 n hn.1 hn.2
  have NN := N.1
  rw [ht] at NN
  obtain ⟨Y, H', N'⟩ := sf_take (b' := nd S' n 12) (mt' := fun k => nd S' n (38 + k)) G.1 NN hn.1 hld (by have := (OK_kOk ok hn).1; have := (OK_nOk ok hn).2; omega) hk ha hb hc
  refine ⟨h3, h1.trans ht, by omega, _, _, _, _, _, _, _, _, _, _, _, sfG_n ok hn o sfXa_rf Y (fun _ _ _ h => h) H' (l' := l') ⟨?_, Nk⟩ G, fun j j0 j1 => ?_, ?_⟩
  · rw [hx, h1, h2, h3, ht]
    rcases h9 with h9 | ⟨h9, h8, h7⟩
    · rw [h9]; exact N'
    · exact ⟨N'.1, N'.2.1, N'.2.2.1, sf_grow H' hld h7 h8 (by omega) (fun j j0 j1 => ha j j0 (by omega))⟩
  · simp only [if_true]
    exact ha j j0 j1
  · rw [sf2_e]; omega
/-- nothing is taken, but it says more -/
theorem sfP_more (ok : OK R S) (hn : 0 ≤ n ∧ n ≤ 6) (h3 : nd S n 3 = 0) (ht : nd S n 1 = M 3) (hld : ld (M 3) ≠ -1) (G : sfG gl gn ge ld ak vo ct cn K z fl S M) (hk : 0 ≤ k ∧ k ≤ lastS S n ∧ k ≤ gn (M 3)) (ha : ∀ j, 0 ≤ j → j ≤ k → fl n j = gl (M 3) j) : sfP S M n k :=
  sfP_take ok hn ht hld G sfO_rf rfl rfl h3 (Or.inl rfl) rfl hk ha (fun i i1 i2 => Or.inl ⟨i2, rfl⟩) (fun i i1 i2 => Or.inl ⟨i2, fun _ _ _ => rfl⟩) (G.2.1 n hn.1 hn.2).2
theorem sfP_rm (ok : OK R S) (hn : 0 ≤ n ∧ n ≤ 6) (P : sfP S M n x) : sfP (rmS S n) M n x := by
  obtain ⟨h3, h1, hx, gl, gn, ge, ld, ak, vo, ct, cn, K, z, fl, G, A, B⟩ := P
  exact ⟨by rw [rm_nd ok hn (by omega)]; exact h3, by rw [rm_nd ok hn (by omega)]; exact h1, by rw [rm_last ok hn]; exact hx, gl, gn, ge, ld, ak, vo, ct, cn, K, z, fl, sfG_rm ok hn G, A, B⟩
/-- an entry behind the last -/
theorem sfP_ly (ok : OK R S) (hn : 0 ≤ n ∧ n ≤ 6) (hk2 : M 2 = 2) (h0 : 0 ≤ M 0) (hk : 0 ≤ k ∧ k < M 5) (P : sfP S M n (M 6 + k)) (hl : lastS S n = M 6 + k) :
    (hasRoom S n → sfP (lyS S n (M (11 + 4 * k)) (M (11 + 4 * k + 1)) (M (11 + 4 * k + 2)) (M (11 + 4 * k + 3))) M n (M 6 + k + 1)) ∧ (¬ hasRoom S n → sfP (lyS S n (M (11 + 4 * k)) (M (11 + 4 * k + 1)) (M (11 + 4 * k + 2)) (M (11 + 4 * k + 3))) M n (M 6 + k)) := by
  refine ⟨fun hr => ?_, fun hr => ?_⟩
  · have P1 := sfP_rm ok hn P
    have ok1 := OK_rm ok hn
    obtain ⟨h3, h1, hx, gl, gn, ge, ld, ak, vo, ct, cn, K, z, fl, G, A, B⟩ := P1
    obtain ⟨m1, ⟨m2, m3, m4, m5, m6⟩, m7⟩ := G.2.2.2.2.2.2.1 hk2
    have hb := hasRoom_lt ok hn hr
    have b1 := (OK_nOk ok1 hn).2
    have la : lastS (rmS S n) n = M 6 + k := by rw [rm_last ok hn]; exact hl
    have N1 := G.2.1 n hn.1 hn.2
    obtain ⟨k2, el⟩ := sfK_ly1 (t := M (11 + 4 * k)) (k := M (11 + 4 * k + 1)) (a := M (11 + 4 * k + 2)) (b := M (11 + 4 * k + 3)) ⟨hb.1, b1.2.1⟩ b1.1 N1.2
    rw [lyS, if_pos hr]
    have e : ∀ e, 0 ≤ e → e < 52 → e ≠ 8 → nd (ly1 (rmS S n) n (M (11 + 4 * k)) (M (11 + 4 * k + 1)) (M (11 + 4 * k + 2)) (M (11 + 4 * k + 3))) n e = nd (rmS S n) n e := fun e e0 e1 e2 => ly1_nd (by omega) (by omega) e2
    have o : sfO n (rmS S n) (ly1 (rmS S n) n (M (11 + 4 * k)) (M (11 + 4 * k + 1)) (M (11 + 4 * k + 2)) (M (11 + 4 * k + 3))) := sfO_st (fun m e m0 m1 he => ly1_ne (by omega) (by omega)) (OK_g ok1) (fun j hj => ly1_ne (by omega) (by omega))
    have hf : ∀ q, 0 ≤ q → q ≤ 3 → gl (M 3) (M 6 + k + 1) q = sfF (M (11 + 4 * k)) (M (11 + 4 * k + 1)) (M (11 + 4 * k + 2)) (M (11 + 4 * k + 3)) q := fun q q0 q3 => by
      have := m6 k q hk.1 hk.2 q0 q3
      rw [show M 6 + 1 + k = M 6 + k + 1 by omega] at this
      rw [← this]
      have qq : q = 0 ∨ q = 1 ∨ q = 2 ∨ q = 3 := by omega
      rcases qq with rfl | rfl | rfl | rfl
      · rw [Int.add_zero]; rfl
      · rfl
      · rfl
      · rfl
    have ln : ∀ j, 0 ≤ j → j ≤ M 6 + k → sfl1 (fl n) (M 6 + k) (gl (M 3) (M 6 + k + 1)) j = fl n j := fun j j0 j1 => sfl1_n (by omega)
    have lg : ∀ j, 0 ≤ j → j ≤ M 6 + k + 1 → sfl1 (fl n) (M 6 + k) (gl (M 3) (M 6 + k + 1)) j = gl (M 3) j := fun j j0 j1 => by
      by_cases y : j = M 6 + k + 1
      · rw [y, sfl1_e]
      · rw [sfl1_n y]; exact A j j0 (by omega)
    refine sfP_take ok1 hn h1 (by omega) G o (e 1 (by omega) (by omega) (by omega)) (e 2 (by omega) (by omega) (by omega)) (by rw [e 3 (by omega) (by omega) (by omega)]; exact h3) (Or.inl (e 9 (by omega) (by omega) (by omega))) (el.trans (by rw [la])) ⟨by omega, Int.le_refl _, by omega⟩ lg (fun i i1 i2 => Or.inl ⟨by omega, ln i (by omega) (by omega)⟩) (fun i i1 i2 => ?_) ?_
    · by_cases y : i = M 6 + k + 1
      · exact Or.inr ⟨by omega, fun j j0 j1 => lg j j0 (by omega)⟩
      · exact Or.inl ⟨by omega, fun j j0 j1 => ln j j0 (by omega)⟩
    · rw [la] at k2
      refine sfK_q (fun i q q0 q3 => ?_) k2
      by_cases y : i = M 6 + k + 1
      · rw [y, sfl1_e, sfl1_e]; exact hf q q0 q3
      · rw [sfl1_n y, sfl1_n y]
  · rw [lyS, if_neg hr]
    exact sfP_rm ok hn P
/-- an entry that is not as it is: it and those behind it go -/
theorem sfP_tr (ok : OK R S) (hn : 0 ≤ n ∧ n ≤ 6) (hk2 : M 2 = 2) (h0 : 0 ≤ M 0) (hk : 0 ≤ k ∧ k < M 5) (P : sfP S M n (M 6 + k)) (h4 : nd S n 4 < M 6 + k + 1) (h5 : M 6 + k + 1 ≤ lastS S n) (hne : tAS S n (M 6 + k + 1) ≠ M (11 + 4 * k)) : sfP (trS S n (M 6 + k + 1)) M n (M 6 + k) := by
  obtain ⟨h3, h1, hx, gl, gn, ge, ld, ak, vo, ct, cn, K, z, fl, G, A, B⟩ := P
  obtain ⟨m1, ⟨m2, m3, m4, m5, m6⟩, m7⟩ := G.2.2.2.2.2.2.1 hk2
  have N := G.2.1 n hn.1 hn.2
  have hld : ld (M 3) ≠ -1 := by omega
  have e0 := m6 k 0 hk.1 hk.2 (by omega) (by omega)
  rw [Int.add_zero, show M 6 + 1 + k = M 6 + k + 1 by omega] at e0
  rw [sfK_t N.2 (by omega) h5, e0] at hne
  have b1 := (OK_nOk ok hn).2
  have kk := OK_kOk ok hn
  have NN := N.1
  rw [h1] at NN
  obtain ⟨ag1, ag2⟩ := sf_agree G.1 NN.1.1 NN.2.2.2 hld (by have := kk.1; omega)
  have h9 : nd S n 9 < M 6 + k + 1 := by
    refine Classical.byContradiction (fun hh => hne ?_)
    rw [ag2 _ (by omega) (by omega)]
  have e8 : nd (trS S n (M 6 + k + 1)) n 8 = M 6 + k + 1 - nd S n 4 - 1 := tr_8 hn
  have eo : ∀ e, 0 ≤ e → e < 244 → e ≠ 8 → e ≠ 9 → nd (trS S n (M 6 + k + 1)) n e = nd S n e := fun e e0 e1 e8 e9 => tr_nd hn hn ⟨e0, e1⟩ (Or.inr ⟨e8, e9⟩)
  have e9 : nd (trS S n (M 6 + k + 1)) n 9 = nd S n 9 := by rw [tr_9 hn, if_neg (by omega)]
  have el : lastS (trS S n (M 6 + k + 1)) n = M 6 + k := by rw [tr_last hn]; omega
  have o : sfO n S (trS S n (M 6 + k + 1)) := sfO_st (fun m e m0 m1 he => tr_nd hn ⟨m0, m1⟩ he.2 (Or.inl he.1)) (OK_g ok) (fun j hj => tr_ne (by omega) (by omega))
  refine sfP_take ok hn h1 hld G o (eo 1 (by omega) (by omega) (by omega) (by omega)) (eo 2 (by omega) (by omega) (by omega) (by omega)) (by rw [eo 3 (by omega) (by omega) (by omega) (by omega)]; exact h3) (Or.inl e9) el ⟨by omega, Int.le_refl _, by omega⟩ A (fun i i1 i2 => ?_) (fun i i1 i2 => Or.inl ⟨by omega, fun _ _ _ => rfl⟩) ?_
  · by_cases y : i ≤ M 6 + k
    · exact Or.inl ⟨y, rfl⟩
    · exact Or.inr ⟨M 6 + k + 1, by omega, by omega, by omega, hne⟩
  · obtain ⟨a, b, c⟩ := N.2
    unfold sfK
    rw [eo 4 (by omega) (by omega) (by omega) (by omega), eo 5 (by omega) (by omega) (by omega) (by omega), eo 6 (by omega) (by omega) (by omega) (by omega), eo 7 (by omega) (by omega) (by omega) (by omega), el]
    refine ⟨fun i q i1 i2 q0 q3 => ?_, b, c⟩
    rw [← a i q i1 (by omega) q0 q3]
    have l1 : lpS (trS S n (M 6 + k + 1)) n i + q = 244 * n + (52 + 4 * (i - nd S n 4 - 1) + q) := by unfold lpS; rw [eo 4 (by omega) (by omega) (by omega) (by omega)]; omega
    have l2 : lpS S n i + q = 244 * n + (52 + 4 * (i - nd S n 4 - 1) + q) := by unfold lpS; omega
    rw [l1, l2]
    exact eo _ (by omega) (by unfold lastS at h5; omega) (by omega) (by omega)
/-- one entry -/
theorem sfP_la (ok : OK R S) (hn : 0 ≤ n ∧ n ≤ 6) (hk2 : M 2 = 2) (h0 : 0 ≤ M 0) (hk : 0 ≤ k ∧ k < M 5) (P : sfP S M n (M 6 + k)) :
    (laR S M n (M 6 + k + 1) (11 + 4 * k) → sfP (laS S M n (M 6 + k + 1) (11 + 4 * k)) M n (M 6 + k + 1)) ∧ (¬ laR S M n (M 6 + k + 1) (11 + 4 * k) → sfP (laS S M n (M 6 + k + 1) (11 + 4 * k)) M n (M 6 + k)) := by
  have P' := P
  obtain ⟨h3, h1, hx, gl, gn, ge, ld, ak, vo, ct, cn, K, z, fl, G, A, B⟩ := P'
  obtain ⟨m1, ⟨m2, m3, m4, m5, m6⟩, m7⟩ := G.2.2.2.2.2.2.1 hk2
  have N := G.2.1 n hn.1 hn.2
  have hld : ld (M 3) ≠ -1 := by omega
  have kk := OK_kOk ok hn
  have b1 := (OK_nOk ok hn).2
  have e0 := m6 k 0 hk.1 hk.2 (by omega) (by omega)
  rw [Int.add_zero, show M 6 + 1 + k = M 6 + k + 1 by omega] at e0
  have NN := N.1
  rw [h1] at NN
  unfold laR laS
  by_cases c1 : M 6 + k + 1 ≤ nd S n 4
  · simp only [if_pos c1]
    obtain ⟨ag1, ag2⟩ := sf_agree G.1 NN.1.1 NN.2.2.2 hld (by have := kk.1; omega)
    refine ⟨fun _ => sfP_more ok hn h3 h1 hld G ⟨by omega, by unfold lastS; omega, by omega⟩ (fun j j0 j1 => ag2 j j0 (by have := kk.1; omega)), fun h => absurd trivial h⟩
  · simp only [if_neg c1]
    by_cases c2 : M 6 + k + 1 ≤ lastS S n
    · simp only [if_pos c2]
      by_cases c3 : tAS S n (M 6 + k + 1) = M (11 + 4 * k)
      · simp only [if_pos c3]
        refine ⟨fun _ => sfP_more ok hn h3 h1 hld G ⟨by omega, c2, by omega⟩ ?_, fun h => absurd trivial h⟩
        rw [sfK_t N.2 (by omega) c2, e0] at c3
        exact fun j j0 j1 => sfL_eq NN.1.1 (G.1.1 _ hld).2.1 (by omega) c2 (by omega) c3 j j0 j1
      · simp only [if_neg c3]
        have Pt := sfP_tr ok hn hk2 h0 hk P (by omega) c2 c3
        have okt := OK_tr ok hn (i := M 6 + k + 1) (by omega) (by unfold lastS at c2; omega)
        exact sfP_ly okt hn hk2 h0 hk Pt (by rw [tr_last hn]; omega)
    · simp only [if_neg c2]
      exact sfP_ly ok hn hk2 h0 hk P (by omega)
theorem sfP_le (hn : 0 ≤ n ∧ n ≤ 6) (hk2 : M 2 = 2) (h0 : 0 ≤ M 0) (hE : ∀ i, 0 ≤ i → i < M 5 → EOK M (11 + 4 * i)) : ∀ (j : Nat) (k : Int) (S : qN), 0 ≤ k → k + j ≤ M 5 → OK R S → sfP S M n (M 6 + k) → OK R (leF M n (M 6) j k S).1 ∧ sfP (leF M n (M 6) j k S).1 M n (M 6 + (leF M n (M 6) j k S).2)
  | 0, k, S, _, _, ok, P => ⟨ok, P⟩
  | j + 1, k, S, k0, kj, ok, P => by
    have q := sfP_la ok hn hk2 h0 ⟨k0, by omega⟩ P
    have okl := OK_la ok hn (M := M) (i := M 6 + k + 1) (p := 11 + 4 * k) (hE k k0 (by omega))
    rw [leF]
    split
    · rename_i c
      have P1 := q.1 c
      rw [show M 6 + k + 1 = M 6 + (k + 1) by omega] at P1
      have r := sfP_le hn hk2 h0 hE j (k + 1) _ (by omega) (by omega) okl (by rw [show M 6 + k + 1 = M 6 + (k + 1) by omega]; exact P1)
      exact r
    · rename_i c
      exact ⟨okl, q.2 c⟩
/-- entries are heard -/
theorem sfI_he (ok : OK R S) (hn : 0 ≤ n ∧ n ≤ 6) (hM : MOK R M) (h1 : M 1 = n) (hk : M 2 = 2) (ht : M 3 ≤ nd S n 1) (hl : LwOK L) (h : sfI S M) : sfI (heS L S M n) M := by
  have hm := hM.1
  unfold MOKa at hm
  have hE := (hM.2.2.2.1 hk).2.2.2
  have okT := OK_heT (L := L) ok hn hM hl
  unfold heS; split
  · exact sfI_an ok (by omega) (by omega) (Or.inr (Or.inl ⟨rfl, by omega⟩)) h
  · have gT : sfI (heT L S M n) M := sfI_tm (OK_fo ok hn (by omega)) hn (sfI_fo ok hn h)
    split
    · exact sfI_an okT (by omega) (by omega) (Or.inr (Or.inl ⟨rfl, by omega⟩)) gT
    · rename_i c1
      split
      · exact sfI_an okT (by omega) (by omega) (Or.inr (Or.inl ⟨rfl, by omega⟩)) gT
      · rename_i c2
        have t3 : nd (heT L S M n) n 3 = 0 := by unfold heT; rw [tm_nd hn hn (by omega) (by omega)]; unfold foS; rw [nd_u1 (by omega), nd_u1s]
        have t1 : nd (heT L S M n) n 1 = M 3 := by unfold heT; rw [tm_nd hn hn (by omega) (by omega), fo_nd hn hn (by omega) (by omega)]; omega
        obtain ⟨gl, gn, ge, ld, ak, vo, ct, cn, K, z, fl, G⟩ := gT
        obtain ⟨m1, ⟨m2, m3, m4, m5, m6⟩, m7⟩ := G.2.2.2.2.2.2.1 hk
        have N := G.2.1 n hn.1 hn.2
        have hld : ld (M 3) ≠ -1 := by omega
        have kk := OK_kOk okT hn
        have b1 := (OK_nOk okT hn).2
        have NN := N.1
        rw [t1] at NN
        have P0 : sfP (heT L S M n) M n (M 6 + 0) := by
          refine sfP_more okT hn t3 t1 hld G ⟨by omega, by omega, by omega⟩ (fun j j0 j1 => ?_)
          by_cases c : nd (heT L S M n) n 4 ≤ M 6
          · have e : tAS (heT L S M n) n (M 6) = M 7 := Classical.byContradiction (fun hh => c2 ⟨c, hh⟩)
            rw [sfK_t N.2 c (by omega), m5] at e
            by_cases z0 : M 6 = 0
            · rw [show j = 0 by omega, NN.1.1.1.1, (G.1.1 _ hld).2.1.1.1]
            · exact sfL_eq NN.1.1 (G.1.1 _ hld).2.1 (by omega) (by omega) (by omega) e j j0 (by omega)
          · obtain ⟨ag1, ag2⟩ := sf_agree G.1 NN.1.1 NN.2.2.2 hld (by have := kk.1; omega)
            exact ag2 j j0 (by have := kk.1; omega)
        obtain ⟨okE, h3', h1', hx', gl, gn, ge, ld, ak, vo, ct, cn, K, z, fl, G, A, B⟩ := sfP_le hn hk (by omega) hE (M 5).toNat 0 _ (by omega) (by omega) okT P0
        obtain ⟨m1, ⟨m2, m3, m4, m5, m6⟩, m7⟩ := G.2.2.2.2.2.2.1 hk
        have hld : ld (M 3) ≠ -1 := by omega
        have N := G.2.1 n hn.1 hn.2
        have kk := OK_kOk okE hn
        have b1 := (OK_nOk okE hn).2
        unfold heE
        generalize leF M n (M 6) (M 5).toNat 0 (heT L S M n) = E at *
        have w1 : nd (groS E.1 n (min (M 8) (M 6 + E.2))) (M 1) 1 = M 3 := by rw [h1, gro_nd okE hn (by omega) (by omega)]; exact h1'
        refine ⟨gl, gn, ge, ld, ak, vo, ct, cn, K, z, fl, sfG_an (OK_gro okE hn (by unfold lastS at hx'; omega)) (by omega) (by omega) (Or.inr (Or.inl ⟨rfl, fun _ => by rw [w1, h1]; exact B⟩)) (sfG_0 okE hn (sfO_gro okE hn) G (fun N => sfNS_gro okE hn ⟨N.1.1, N.1.2.1, N.1.2.2.1, ?_⟩ N.2))⟩
        by_cases c : min (M 8) (M 6 + E.2) ≤ nd E.1 n 9
        · rw [Int.max_eq_left c]; exact N.1.2.2.2
        · rw [Int.max_eq_right (by omega), h1']
          refine sf_grow G.1 hld ?_ (by have := kk.1; omega) (by omega) (fun j j0 j1 => A j j0 (by omega))
          rcases m7 with d | ⟨s, i, m, d1, d2, d3⟩
          · have := kk.1; omega
          · exact Or.inr ⟨s, i, m, d1, d2, by omega⟩
end Su
