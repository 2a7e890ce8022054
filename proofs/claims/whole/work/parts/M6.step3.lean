/-! safety: steps of a log: laid, taken, held -/
section Sz
variable {gl gl' : Int → Int → Int → Int} {gn ge ld gn' ge' ld' : Int → Int} {ak vo ct cn ak' vo' ct' cn' : Int → Int → Int} {K K' : Int → Int → Int → Prop} {z n : Int} {l l' : Int → Int → Int} {x x' u t i m p q e c v r w y k b c' b' : Int} {mt mt' g : Int → Int}
/-- how an entry is laid by a leader -/
def sfG1 (gl : Int → Int → Int → Int) (t x : Int) (f : Int → Int) : Int → Int → Int → Int := fun s i => if s = t ∧ i = x + 1 then f else gl s i
def sfl1 (l : Int → Int → Int) (x : Int) (f : Int → Int) : Int → Int → Int := fun i => if i = x + 1 then f else l i
theorem sfG1_e {f : Int → Int} : sfG1 gl t x f t (x + 1) = f := if_pos ⟨rfl, rfl⟩
theorem sfG1_n {f : Int → Int} (h : ¬ (u = t ∧ i = x + 1)) : sfG1 gl t x f u i = gl u i := if_neg h
theorem sfl1_e {f : Int → Int} : sfl1 l x f (x + 1) = f := if_pos rfl
theorem sfl1_n {f : Int → Int} (h : i ≠ x + 1) : sfl1 l x f i = l i := if_neg h
theorem sf_lay {f : Int → Int} (H : sfH gl gn ge ld ak vo ct cn K z) (N : sfN gl gn ge ld ak vo ct cn K z n l x t v 2 c b mt) (hn : 0 ≤ n) (hf : f 0 = t) (hc : f 1 = 1 → (set7 (f 2) ∧ set7 (f 3)) ∧ ∃ p, sfC l x p ∧ p ≤ c ∧ sfS (l p 2) (l p 3) (f 2) (f 3)) :
    sfXa n gl gn ge ld (sfG1 gl t x f) (sf1 gn t (x + 1)) ge ld ∧ sfXb n ak vo ct cn (sf2 ak t n (max (ak t n) (x + 1))) vo ct cn ∧ sfH (sfG1 gl t x f) (sf1 gn t (x + 1)) ge ld (sf2 ak t n (max (ak t n) (x + 1))) vo ct cn K z ∧ sfN (sfG1 gl t x f) (sf1 gn t (x + 1)) ge ld (sf2 ak t n (max (ak t n) (x + 1))) vo ct cn K z n (sfl1 l x f) (x + 1) t v 2 c b mt := by
  obtain ⟨N1, N4, N5, N6⟩ := N
  obtain ⟨h1, h2, h3, h4, h5, h6, h7, h8⟩ := H
  obtain ⟨k1, k2, k3, k4, k5, k6⟩ := N1
  obtain ⟨c1, c2, c3, c4, c5⟩ := N5 rfl
  have x0 := k1.1.2
  have hld : ld t ≠ -1 := by omega
  have g := h1 t hld
  have X : sfXa n gl gn ge ld (sfG1 gl t x f) (sf1 gn t (x + 1)) ge ld := ⟨fun s hs => by
    refine ⟨rfl, rfl, ?_, fun i _ i1 => sfG1_n (fun h => ?_), fun h => sf1_n (fun e => h (by rw [e]; exact c1))⟩
    · by_cases q : s = t
      · rw [q, sf1_e]; omega
      · rw [sf1_n q]; exact Int.le_refl _
    · rw [h.1] at i1; omega, fun s hs => Or.inl hs⟩
  have Y : sfXb n ak vo ct cn (sf2 ak t n (max (ak t n) (x + 1))) vo ct cn := ⟨fun s k => by
    by_cases q : s = t ∧ k = n
    · obtain ⟨rfl, rfl⟩ := q
      rw [sf2_e]
      exact ⟨by omega, fun h => absurd rfl h⟩
    · rw [sf2_n q]; exact ⟨Int.le_refl _, fun _ => rfl⟩, fun _ _ => ⟨fun _ => rfl, fun _ => rfl⟩, fun _ h => Or.inl h, fun _ _ _ => ⟨rfl, rfl⟩⟩
  have A : ∀ u s, vo u n ≠ -1 → s < u → sf2 ak t n (max (ak t n) (x + 1)) s n = ak s n := fun u s hu hs => by
    by_cases q : u ≤ t
    · exact sf2_n (by omega)
    · exact absurd (k4 u (by omega)) hu
  have lx : ∀ i, 0 ≤ i → i ≤ x → sfl1 l x f i = l i := fun i i0 i1 => sfl1_n (by omega)
  have gl1 : ∀ i, 0 ≤ i → i ≤ x + 1 → sfG1 gl t x f t i = sfl1 l x f i := fun i i0 i1 => by
    by_cases q : i = x + 1
    · rw [q, sfG1_e, sfl1_e]
    · rw [sfG1_n (by omega), sfl1_n q, c3 i i0 (by omega)]
  have L1 : sfL (sfG1 gl t x f) (sf1 gn t (x + 1)) ge ld z (sfl1 l x f) (x + 1) t := by
    have o := sfL_x X k1
    refine ⟨⟨by rw [lx 0 (by omega) x0]; exact o.1.1, by omega⟩, fun i i1 i2 => ?_⟩
    by_cases q : i = x + 1
    · subst q
      rw [sfl1_e, hf, sf1_e]
      exact ⟨⟨g.1.1, Int.le_refl _, hld, by omega, Int.le_refl _⟩, fun j j0 j1 => (gl1 j j0 j1).symm⟩
    · have y := o.2 i i1 (by omega)
      rw [lx i (by omega) (by omega)]
      exact ⟨y.1, fun j j0 j1 => by rw [lx j j0 (by omega)]; exact y.2 j j0 j1⟩
  refine ⟨X, Y, ⟨fun s hs => ?_, fun s j hs hj j1 hk => ?_, fun s i m hk => sfH3_x X (fun s v => (Y.1 s v).1) h3 hk, fun u hu => sfH4_x X Y A h1 h4 h7 hu, fun u k hu => sfH5_x X Y A h1 h5 h7 hu, fun s i m u hk hu hs => (sfCn_x X h1 hu (by have := (h3 _ _ _ hk).1.2.1; omega)).mpr (h6 s i m u hk hu hs), fun s k => ?_, h8⟩, ⟨L1, fun s i i1 i2 => ?_, k3, k4, k5, k6⟩, fun h => by omega, fun _ => ⟨c1, sf1_e, gl1, by rw [sf2_e]; omega, fun k k0 k6' => ?_⟩, ?_⟩
  · by_cases q : s = t
    · subst q
      rw [sf1_e]
      refine ⟨⟨g.1.1, g.1.2.1, by omega⟩, ⟨⟨by rw [gl1 0 (by omega) (by omega)]; exact L1.1.1, by omega⟩, fun i i1 i2 => ?_⟩, fun i i1 i2 => ?_⟩
      · rw [gl1 i (by omega) i2]
        have y := L1.2 i i1 i2
        exact ⟨y.1, fun j j0 j1 => by rw [gl1 j j0 (by omega)]; exact y.2 j j0 j1⟩
      · by_cases q : i = x + 1
        · rw [q, sfG1_e]; exact hf
        · rw [sfG1_n (by omega)]; exact g.2.2 i i1 (by omega)
    · exact sfH1_x X h1 hs (sf1_n q)
  · by_cases q : s = t ∧ j = x + 1
    · obtain ⟨rfl, rfl⟩ := q
      unfold sfH2c
      rw [sfG1_e] at hk ⊢
      obtain ⟨f1, p, f2, f3, f4⟩ := hc hk
      have y := f2.1
      refine ⟨f1, p, by rw [show x + 1 - 1 = x by omega]; exact sfC_cg f2 (fun i i0 i1 => by rw [gl1 i i0 (by omega)]; exact lx i i0 i1), by rw [gl1 p (by omega) (by omega), lx p (by omega) (by omega)]; exact f4, ?_⟩
      rcases N6 with d | ⟨s', i, m, d1, d2, d3, d4, d5, d6⟩
      · left; omega
      · have y := (h3 _ _ _ d1).1
        unfold sfH3a at y
        refine Or.inr ⟨s', i, m, d1, d2, by omega, ?_, fun e => ?_⟩
        · by_cases e : s' = s
          · rw [e] at y; omega
          · have := (h6 _ _ _ _ d1 hld (by omega)).1; omega
        · rw [e] at y; omega
    · have j2 : j ≤ gn s := by
        by_cases e : s = t
        · rw [e, sf1_e] at j1
          have : j ≠ x + 1 := fun h => q ⟨e, h⟩
          rw [e]; omega
        · rw [sf1_n e] at j1; exact j1
      exact sfH2_x X (fun _ _ _ h => h) h1 h2 hs hj j2 hk
  · by_cases q : s = t ∧ k = n
    · obtain ⟨rfl, rfl⟩ := q
      rw [sf2_e, sf1_e]
      have y := h7 s k
      refine ⟨by omega, fun h => ⟨hld, ?_⟩⟩
      by_cases e : 1 ≤ ak s k
      · have := (y.2 e).2; omega
      · omega
    · rw [sf2_n q]
      refine ⟨(h7 s k).1, fun h => ?_⟩
      have y := (h7 s k).2 h
      exact ⟨y.1, by have := (X.1 s y.1).2.2.1; omega⟩
  · by_cases q : s = t
    · subst q
      rw [sf2_e] at i2
      refine ⟨Int.le_refl _, fun hs => Or.inl ?_⟩
      have hi : i ≤ x + 1 := by
        by_cases e : i ≤ ak s n
        · have := (h7 s n).2 (by omega); omega
        · omega
      rw [gl1 i (by omega) hi] at hs
      exact ⟨hi, hs⟩
    · rw [sf2_n (fun h => q h.1)] at i2
      obtain ⟨a1, a2⟩ := k2 s i i1 i2
      refine ⟨a1, fun hs => ?_⟩
      rw [sfG1_n (fun h => q h.1)] at hs
      rcases a2 hs with y | ⟨w, w1, w2, w3, w4⟩
      · exact Or.inl ⟨by omega, by rw [lx i (by omega) y.1]; exact y.2⟩
      · exact Or.inr ⟨w, w1, w2, w3, fun k => w4 ((sfCn_x X h1 w3 (by omega)).mp k)⟩
  · have := c5 k k0 k6'
    have := (Y.1 t k).1
    omega
  · rcases N6 with d | ⟨s, i, m, d1, d2, d3, d4, d5, d6⟩
    · exact Or.inl d
    · have y := (h3 _ _ _ d1).1
      unfold sfH3a at y
      exact Or.inr ⟨s, i, m, d1, d2, d3, d4, by omega, by rw [lx c (by omega) d5, (X.1 s y.1).2.2.2.1 c (by omega) (by omega)]; exact d6⟩
/-- what is held is in the log of the leader of now -/
theorem sf_held (H : sfH gl gn ge ld ak vo ct cn K z) (hld : ld t ≠ -1) (hk : K u i m) (hu : u ≤ t) : i ≤ gn t ∧ ∀ j, 0 ≤ j → j ≤ i → gl t j = gl u j := by
  obtain ⟨h1, h2, h3, h4, h5, h6, h7, h8⟩ := H
  have y := (h3 _ _ _ hk).1
  unfold sfH3a at y
  by_cases e : u = t
  · subst e
    exact ⟨by omega, fun _ _ _ => rfl⟩
  · have w := h6 _ _ _ t hk hld (by omega)
    have g := (h1 t hld)
    exact ⟨by have := w.1; omega, fun j j0 j1 => by
      have a := sfL_eq g.2.1 (h1 u y.1).2.1 y.2.1 (by have := w.1; omega) (by omega) (w.2.trans y.2.2.2.2.symm) j j0 j1
      exact a⟩
/-- a log and its leader's agree up to what the node holds -/
theorem sf_agree (H : sfH gl gn ge ld ak vo ct cn K z) (hl : sfL gl gn ge ld z l x t) (h6 : sfN6 gl K l x t c) (hld : ld t ≠ -1) (c0 : 0 ≤ c) : c ≤ gn t ∧ ∀ j, 0 ≤ j → j ≤ c → l j = gl t j := by
  have h1 := H.1
  rcases h6 with rfl | ⟨s, i, m, d1, d2, d3, d4, d5, d6⟩
  · have g := (h1 t hld)
    exact ⟨by omega, fun j j0 j1 => by rw [show j = 0 by omega, hl.1.1, g.2.1.1.1]⟩
  · have y := (H.2.2.1 _ _ _ d1).1
    unfold sfH3a at y
    obtain ⟨e1, e2⟩ := sf_held H hld d1 d2
    refine ⟨by omega, fun j j0 j1 => ?_⟩
    rw [e2 j j0 (by omega)]
    exact sfL_eq hl (h1 s y.1).2.1 d3 d5 (by omega) d6 j j0 j1
/-- it takes what its leader's log has -/
theorem sf_take (H : sfH gl gn ge ld ak vo ct cn K z) (N : sfN gl gn ge ld ak vo ct cn K z n l x t v r c b mt) (hn : 0 ≤ n) (hld : ld t ≠ -1) (c0 : 0 ≤ c) (hk : 0 ≤ k ∧ k ≤ x' ∧ k ≤ gn t)
    (ha : ∀ j, 0 ≤ j → j ≤ k → l' j = gl t j) (hb : ∀ i, 1 ≤ i → i ≤ x → (i ≤ x' ∧ l' i = l i) ∨ ∃ j, 1 ≤ j ∧ j ≤ i ∧ j ≤ gn t ∧ l j 0 ≠ gl t j 0)
    (hc : ∀ i, 1 ≤ i → i ≤ x' → (i ≤ x ∧ ∀ j, 0 ≤ j → j ≤ i → l' j = l j) ∨ (i ≤ gn t ∧ ∀ j, 0 ≤ j → j ≤ i → l' j = gl t j)) :
    sfXb n ak vo ct cn (sf2 ak t n (max (ak t n) k)) vo ct cn ∧ sfH gl gn ge ld (sf2 ak t n (max (ak t n) k)) vo ct cn K z ∧ sfN gl gn ge ld (sf2 ak t n (max (ak t n) k)) vo ct cn K z n l' x' t v 0 c b' mt' := by
  obtain ⟨N1, N4, N5, N6⟩ := N
  have ag := sf_agree H N1.1 N6 hld c0
  obtain ⟨h1, h2, h3, h4, h5, h6, h7, h8⟩ := H
  obtain ⟨k1, k2, k3, k4, k5, k6⟩ := N1
  have g := h1 t hld
  have Y : sfXb n ak vo ct cn (sf2 ak t n (max (ak t n) k)) vo ct cn := ⟨fun s k => by
    by_cases q : s = t ∧ k = n
    · obtain ⟨rfl, rfl⟩ := q
      rw [sf2_e]
      exact ⟨by omega, fun h => absurd rfl h⟩
    · rw [sf2_n q]; exact ⟨Int.le_refl _, fun _ => rfl⟩, fun _ _ => ⟨fun _ => rfl, fun _ => rfl⟩, fun _ h => Or.inl h, fun _ _ _ => ⟨rfl, rfl⟩⟩
  have A : ∀ u s, vo u n ≠ -1 → s < u → sf2 ak t n (max (ak t n) k) s n = ak s n := fun u s hu hs => by
    by_cases q : u ≤ t
    · exact sf2_n (by omega)
    · exact absurd (k4 u (by omega)) hu
  have lg : ∀ j, 1 ≤ j → j ≤ x → j ≤ gn t → l j 0 = gl t j 0 → ∀ i, 1 ≤ i → i ≤ j → l i 0 = gl t i 0 := fun j j1 j2 j3 e i i1 i2 => by
    rw [sfL_eq k1 g.2.1 j1 j2 j3 e i (by omega) i2]
  refine ⟨Y, ⟨h1, h2, fun s i m hk => sfH3_x (sfXa_rf (n := n) (ge := ge)) (fun s v => (Y.1 s v).1) h3 hk, fun u hu => sfH4_x sfXa_rf Y A h1 h4 h7 hu, fun u k hu => sfH5_x sfXa_rf Y A h1 h5 h7 hu, h6, fun s k' => ?_, h8⟩, ⟨⟨⟨by rw [ha 0 (by omega) hk.1]; exact g.2.1.1.1, by omega⟩, fun i i1 i2 => ?_⟩, fun s i i1 i2 => ?_, k3, k4, k5, k6⟩, fun h => by omega, fun h => by omega, ?_⟩
  · by_cases q : s = t ∧ k' = n
    · obtain ⟨rfl, rfl⟩ := q
      rw [sf2_e]
      have y := h7 s k'
      refine ⟨by omega, fun h => ⟨hld, ?_⟩⟩
      by_cases e : 1 ≤ ak s k'
      · have := (y.2 e).2; omega
      · omega
    · rw [sf2_n q]; exact h7 s k'
  · rcases hc i i1 i2 with ⟨y1, y2⟩ | ⟨y1, y2⟩
    · rw [y2 i (by omega) (Int.le_refl _)]
      have o := k1.2 i i1 y1
      exact ⟨o.1, fun j j0 j1 => by rw [y2 j j0 j1]; exact o.2 j j0 j1⟩
    · rw [y2 i (by omega) (Int.le_refl _)]
      have o := g.2.1.2 i i1 y1
      exact ⟨o.1, fun j j0 j1 => by rw [y2 j j0 j1]; exact o.2 j j0 j1⟩
  · by_cases q : s = t
    · subst q
      rw [sf2_e] at i2
      refine ⟨Int.le_refl _, fun hs => Or.inl ?_⟩
      by_cases e : i ≤ k
      · exact ⟨by omega, by rw [ha i (by omega) e]; exact hs⟩
      · have e2 : i ≤ ak s n := by omega
        have o := (h7 s n).2 (by omega)
        rcases (k2 s i i1 e2).2 hs with y | ⟨w, w1, w2, w3⟩
        · rcases hb i i1 y.1 with y2 | ⟨j, j1, j2, j3, j4⟩
          · exact ⟨y2.1, by rw [y2.2]; exact y.2⟩
          · exact absurd (lg i i1 y.1 (by omega) (y.2.trans hs.symm) j j1 j2) j4
        · omega
    · rw [sf2_n (fun h => q h.1)] at i2
      obtain ⟨a1, a2⟩ := k2 s i i1 i2
      refine ⟨a1, fun hs => ?_⟩
      rcases a2 hs with y | y
      · rcases hb i i1 y.1 with y2 | ⟨j, j1, j2, j3, j4⟩
        · exact Or.inl ⟨y2.1, by rw [y2.2]; exact y.2⟩
        · refine Or.inr ⟨t, Int.lt_iff_le_and_ne.mpr ⟨a1, q⟩, Int.le_refl _, hld, fun hcn => j4 (lg i i1 y.1 (by have := hcn.1; omega) (y.2.trans hcn.2.symm) j j1 j2)⟩
      · exact Or.inr y
  · rcases N6 with d | ⟨s, i, m, d1, d2, d3, d4, d5, d6⟩
    · exact Or.inl d
    · rcases hb c d3 d5 with y2 | ⟨j, j1, j2, j3, j4⟩
      · exact Or.inr ⟨s, i, m, d1, d2, d3, d4, y2.1, by rw [y2.2]; exact d6⟩
      · exact absurd (by rw [ag.2 j (by omega) (by omega)]) j4
/-- a follower's COMMIT grows -/
theorem sf_grow (H : sfH gl gn ge ld ak vo ct cn K z) (hld : ld t ≠ -1) (hc : sfMc K t c) (c0 : 0 ≤ c) (hx : c ≤ x) (ha : ∀ j, 0 ≤ j → j ≤ c → l j = gl t j) : sfN6 gl K l x t c := by
  by_cases q : c = 0
  · exact Or.inl q
  · rcases hc with d | ⟨s, i, m, d1, d2, d3⟩
    · exact absurd d q
    · obtain ⟨e1, e2⟩ := sf_held H hld d1 d2
      exact Or.inr ⟨s, i, m, d1, d2, by omega, d3, hx, by rw [ha c c0 (Int.le_refl _), e2 c c0 d3]⟩
theorem sfN6_le (H : sfH gl gn ge ld ak vo ct cn K z) (hl : sfL gl gn ge ld z l x u) (h : sfN6 gl K l x t c) (c0 : 0 ≤ c') (hc : c' ≤ c) : sfN6 gl K l x t c' := by
  by_cases q : c' = 0
  · exact Or.inl q
  · rcases h with d | ⟨s, i, m, d1, d2, d3, d4, d5, d6⟩
    · omega
    · have y := (H.2.2.1 _ _ _ d1).1
      unfold sfH3a at y
      exact Or.inr ⟨s, i, m, d1, d2, by omega, by omega, by omega, by rw [sfL_eq hl (H.1 s y.1).2.1 d3 d5 (by omega) d6 c' (by omega) hc]⟩
/-- a leader holds -/
theorem sf_hold (H : sfH gl gn ge ld ak vo ct cn K z) (N : sfN gl gn ge ld ak vo ct cn K z n l x t v 2 c b mt) (hi : 1 ≤ i ∧ i ≤ x ∧ l i 0 = t) (hp : sfC l x p) {Q : Int} (hQ : set7 Q) (hq : mqZ (l p 2) (l p 3) Q) (hm : ∀ k, 0 ≤ k → k ≤ 6 → hsZ Q k → i ≤ mt k ∨ k = n) :
    sfH gl gn ge ld ak vo ct cn (fun s j m => K s j m ∨ (s = t ∧ j = i ∧ m = x)) z ∧ sfN gl gn ge ld ak vo ct cn (fun s j m => K s j m ∨ (s = t ∧ j = i ∧ m = x)) z n l x t v 2 i b mt := by
  obtain ⟨N1, N4, N5, N6⟩ := N
  obtain ⟨h1, h2, h3, h4, h5, h6, h7, h8⟩ := H
  obtain ⟨c1, c2, c3, c4, c5⟩ := N5 rfl
  have hld : ld t ≠ -1 := by
    have := (N1.1.2 i hi.1 hi.2.1).1.2.2.1
    rw [hi.2.2] at this
    exact this
  have x0 := N1.1.1.2
  have ha : sfH3a gl gn ld t i x := ⟨hld, hi.1, hi.2.1, by omega, by rw [c3 i (by omega) hi.2.1]; exact hi.2.2⟩
  have y := hp.1
  have hb : sfH3b gl ak t i x := ⟨p, Q, sfC_cg hp (fun j j0 j1 => c3 j j0 j1), hQ, by rw [c3 p (by omega) (by omega)]; exact hq, fun k k0 k6 kq => by
    rcases hm k k0 k6 kq with a | rfl
    · have := c5 k k0 k6; omega
    · omega⟩
  have W := sf_new h1 h2 h3 h4 h6 h8 ha hb
  refine ⟨⟨h1, fun s j hs hj j1 hk => ?_, fun s j m hk => ?_, h4, h5, fun s j m u hk hu hs => ?_, h7, h8⟩, N1, N4, N5, Or.inr ⟨t, i, x, Or.inr ⟨rfl, rfl, rfl⟩, Int.le_refl _, hi.1, Int.le_refl _, hi.2.1, by rw [ha.2.2.2.2]; exact hi.2.2⟩⟩
  · exact sfH2_x (sfXa_rf (n := n)) (fun _ _ _ h => Or.inl h) h1 h2 hs hj j1 hk
  · rcases hk with hk | ⟨rfl, rfl, rfl⟩
    · exact h3 _ _ _ hk
    · exact ⟨ha, hb⟩
  · rcases hk with hk | ⟨rfl, rfl, rfl⟩
    · exact h6 _ _ _ _ hk hu hs
    · exact W u hu hs
/-- a term is raised -/
theorem sf_raise (N : sfN gl gn ge ld ak vo ct cn K z n l x t v r c b mt) (h : t < u) : sfN gl gn ge ld ak vo ct cn K z n l x u (-1) 0 c b' mt' := by
  obtain ⟨⟨k1, k2, k3, k4, k5, k6⟩, N4, N5, N6⟩ := N
  refine ⟨⟨⟨k1.1, fun i i1 i2 => ⟨⟨(k1.2 i i1 i2).1.1, by have := (k1.2 i i1 i2).1.2.1; omega, (k1.2 i i1 i2).1.2.2⟩, (k1.2 i i1 i2).2⟩⟩, fun s i i1 i2 => ?_, k4 u h, fun s hs => k4 s (by omega), fun s k hk => by have := k5 s k hk; omega, fun s hs => by have := k6 s hs; omega⟩, fun h => by omega, fun h => by omega, ?_⟩
  · obtain ⟨a1, a2⟩ := k2 s i i1 i2
    exact ⟨by omega, fun hs => (a2 hs).elim Or.inl (fun ⟨w, w1, w2, w3⟩ => Or.inr ⟨w, w1, by omega, w3⟩)⟩
  · rcases N6 with d | ⟨s, i, m, d1, d2, d3⟩
    · exact Or.inl d
    · exact Or.inr ⟨s, i, m, d1, by omega, d3⟩
end Sz
