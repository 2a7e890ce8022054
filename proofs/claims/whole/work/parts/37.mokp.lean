/-! bounds are kept: timers, posts, what is sent; sent to all -/
section OKs
variable {R : Int} {S S' F : qN} {n : Int} {L : qL}
theorem OK_out (h : OK R S) (h1 : ∀ j, j < 1708 ∨ (6028 ≤ j ∧ j < 11131) → S' j = S j) (hs : smS S') (hg : GOK S') (hM : MsOK R S') (h5 : S' 11135 = S 11135) : OK R S' := by
  obtain ⟨⟨a1, a2⟩, b, c, d, e, f1, f2, f3⟩ := h
  refine ⟨⟨hs, a2⟩, fun m m1 m2 => NOK_c (fun e e1 e2 => h1 _ (by omega)) (b m m1 m2), hM, fun m m1 m2 => ?_, hg, fun m m1 m2 => ?_, fun m m1 m2 => ?_, fun m m1 m2 => ?_⟩
  · rw [h5] at m2
    have := e.2.2.2.2.1
    exact ROK_c (fun e e1 e2 => h1 _ (by omega)) (d m m1 m2)
  · rw [h1 _ (by omega)]; exact f1 m m1 m2
  · rw [h1 _ (by omega)]
    exact (f2 m m1 m2).imp id (fun q => (EOK_c (fun i i1 i2 => h1 _ (by omega))).mpr q)
  · rw [h1 _ (by omega)]; exact f3 m m1 m2
theorem OK_rn (h : OK R S) : OK R (rnS S) := by
  have g := OK_g h
  have q := rnd_rng (S := S)
  refine OK_out h (fun j hj => u1_ne (by omega)) (smS_rn (OK_sm h)) ?_ (fun m m1 m2 => ?_) (u1_ne (by omega))
  · unfold GOK rnS; rw [u1_ne (by omega), u1_same, u1_ne (by omega), u1_ne (by omega), u1_ne (by omega), u1_ne (by omega)]; exact ⟨g.1, q, g.2.2⟩
  · unfold rnS at m2; rw [u1_ne (by omega)] at m2
    have := g.2.2.1
    exact MOK_c (fun e e1 e2 _ => u1_ne (by omega)) (OK_m h m1 m2)
theorem OK_u1n (h : OK R S) (hn : 0 ≤ n ∧ n ≤ 6) {e v : Int} (he : 0 ≤ e ∧ e < 244) (hv : -100000 ≤ v ∧ v ≤ 100000) (hN : NOK R (u1 (nd S n) e v)) : OK R (u1 S (244 * n + e) v) := by
  refine OK_off h hn (fun j hj => u1_ne (by omega)) ?_ (smS_u1 (OK_sm h) hv.1 hv.2)
  exact NOK_c (fun i i1 i2 => by unfold nd u1; by_cases q : i = e; (· subst q; simp); (· rw [if_neg q, if_neg (by omega)])) hN
theorem NOK_10 {f : qN} (h : NOK R f) {v : Int} (hv : 0 ≤ v ∧ v ≤ 49) : NOK R (u1 f 10 v) := by
  obtain ⟨⟨a1, a2, a3, a4⟩, b, ⟨c1, c2⟩, ⟨d1, d2, d3, d4⟩, e, e2⟩ := h
  unfold NOK NOKa NOKb NOKc NOKd NOKe NOKf
  rw [u1_same]
  simp (disch := omega) only [u1_ne]
  refine ⟨⟨a1, a2, a3, a4⟩, b, ⟨hv, c2⟩, ⟨fun k k1 k2 => ?_, fun k k1 k2 => ?_, fun k k1 k2 => ?_, fun k k1 k2 => ?_⟩, fun k k1 k2 => ?_, fun q k k1 k2 => ?_, e2.2⟩
  · rw [u1_ne (by omega)]; exact d1 k k1 k2
  · rw [u1_ne (by omega)]; exact d2 k k1 k2
  · rw [u1_ne (by omega)]; exact d3 k k1 k2
  · rw [u1_ne (by omega)]; exact d4 k k1 k2
  · exact (EOK_c (fun i i1 i2 => u1_ne (by omega))).mpr (e k k1 k2)
  · rw [u1_ne (by omega)]; exact e2.1 q k k1 k2
theorem OK_tm (h : OK R S) (hn : 0 ≤ n ∧ n ≤ 6) (hl : LwOK L) : OK R (tmS L S n) := by
  have q := (hl (fcS S n n 6)).2.2
  have h2 := OK_rn h
  unfold tmS
  exact OK_u1n h2 hn (by omega) (by omega) (NOK_10 (OK_n h2 hn) (by omega))
theorem OK_po (h : OK R S) (hF : MOK R F) (hs : ∀ k, 0 ≤ k → k < 27 → -100000 ≤ F k ∧ F k ≤ 100000) (hl : LwOK L) : OK R (poS L S F) := by
  have h2 := OK_rn h
  have g := OK_g h2
  have q := hl (fcS S (F 0) (F 1) (F 2))
  have e1 : rnS S 11137 = S 11137 := u1_ne (by omega)
  have e3 : rnS S 11133 = S 11133 := u1_ne (by omega)
  have et : rnS S 11131 = S 11131 := u1_ne (by omega)
  obtain ⟨g1, g2, g3, g4, g5, g6⟩ := g
  rw [e1] at g6
  by_cases hp : (L (fcS S (F 0) (F 1) (F 2))).2.2.2 ∨ rndS S % 10 < (L (fcS S (F 0) (F 1) (F 2))).2.1 ∨ S 11133 = 160
  · rw [poS_y hp]
    refine OK_out h2 (fun j hj => u1_ne (by omega)) (smS_u1 (OK_sm h2) (by omega) (by omega)) ?_ (fun m m1 m2 => ?_) (u1_ne (by omega))
    · unfold GOK; rw [u1_ne (by omega), u1_ne (by omega), u1_ne (by omega), u1_ne (by omega), u1_ne (by omega), u1_same]; exact ⟨g1, g2, g3, g4, g5, by omega⟩
    · rw [u1_ne (by omega)] at m2
      exact MOK_c (fun e e1 e2 _ => u1_ne (by omega)) (OK_m h2 m1 m2)
  · rw [poS_n hp]
    have h160 : S 11133 ≠ 160 := fun z => hp (Or.inr (Or.inr z))
    rw [e3] at g3
    rw [et] at g1
    refine OK_out h2 (fun j hj => ?_) ?_ ?_ (fun m m1 m2 => ?_) ?_
    · rw [u1_ne (by omega)]; unfold cpN; rw [if_neg (by omega)]
    · refine smS_u1 (fun j hj => ?_) (by omega) (by omega)
      unfold cpN; split
      · unfold u1; split
        · omega
        · exact hs _ (by omega) (by omega)
      · exact OK_sm h2 j hj
    · unfold GOK
      rw [u1_same]
      simp (disch := omega) only [u1_ne]
      unfold cpN
      simp (disch := omega) only [if_neg]
      rw [et, e1]
      exact ⟨g1, g2, by omega, g4, g5, by omega⟩
    · rw [u1_same] at m2
      by_cases hm : m = S 11133
      · subst hm
        refine MOK_c (fun e e1 e2 e4 => ?_) hF
        unfold ml
        rw [u1_ne (by omega)]
        unfold cpN
        rw [if_pos (by omega), u1_ne (by omega)]
        congr 1; omega
      · refine MOK_c (fun e e1 e2 e4 => ?_) (OK_m h2 m1 (by rw [e3]; omega))
        unfold ml
        rw [u1_ne (by omega)]
        unfold cpN
        rw [if_neg (by omega)]
    · rw [u1_ne (by omega)]; unfold cpN; rw [if_neg (by omega)]
end OKs
