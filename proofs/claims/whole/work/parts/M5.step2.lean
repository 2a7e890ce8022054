/-! safety: the steps of one node, one by one -/
def sf2 (f : Int → Int → Int) (t v a : Int) : Int → Int → Int := fun t' v' => if t' = t ∧ v' = v then a else f t' v'
def sf1 (f : Int → Int) (t a : Int) : Int → Int := fun t' => if t' = t then a else f t'
section Sy
variable {gl gl' : Int → Int → Int → Int} {gn ge ld gn' ge' ld' : Int → Int} {ak vo ct cn ak' vo' ct' cn' : Int → Int → Int} {K K' : Int → Int → Int → Prop} {z n : Int} {l a b : Int → Int → Int} {x u t i m p q e c v r w y k : Int} {mt g : Int → Int}
theorem sf2_e {f : Int → Int → Int} : sf2 f t v w t v = w := if_pos ⟨rfl, rfl⟩
theorem sf2_n {f : Int → Int → Int} (h : ¬ (i = t ∧ m = v)) : sf2 f t v w i m = f i m := if_neg h
theorem sf1_e {f : Int → Int} : sf1 f t w t = w := if_pos rfl
theorem sf1_n {f : Int → Int} (h : i ≠ t) : sf1 f t w i = f i := if_neg h
theorem sfH2_x (X : sfXa n gl gn ge ld gl' gn' ge' ld') (Z : ∀ t i m, K t i m → K' t i m) (h1 : sfH1 gl gn ge ld z) (h2 : sfH2 gl gn ge ld K) {s j : Int} (hs : ld s ≠ -1) (hj : ge' s < j) (j1 : j ≤ gn s) (hk : gl' s j 1 = 1) : sfH2c gl' K' s j := by
  obtain ⟨e1, e2, e3, e4, e5⟩ := X.1 s hs
  have g := (h1 s hs).1
  rw [e2] at hj
  rw [e4 j (by omega) j1] at hk
  obtain ⟨a, p, b, c, d⟩ := h2 s j hs hj j1 hk
  have := b.1
  refine ⟨by rw [e4 j (by omega) j1]; exact a, p, sfC_cg b (fun i i0 i1 => e4 i i0 (by omega)), by rw [e4 j (by omega) j1, e4 p (by omega) (by omega)]; exact c, ?_⟩
  rcases d with d | ⟨t, i, m, d1, d2⟩
  · exact Or.inl d
  · exact Or.inr ⟨t, i, m, Z _ _ _ d1, d2⟩
theorem sfH3_x (X : sfXa n gl gn ge ld gl' gn' ge' ld') (Y : ∀ t v, ak t v ≤ ak' t v) (h3 : sfH3 gl gn ld ak K) (hk : K t i m) : sfH3a gl' gn' ld' t i m ∧ sfH3b gl' ak' t i m := by
  obtain ⟨⟨a1, a2, a3, a4, a5⟩, p, Q, b1, b2, b3, b4⟩ := h3 _ _ _ hk
  obtain ⟨e1, e2, e3, e4, e5⟩ := X.1 t a1
  have := b1.1
  refine ⟨⟨by omega, a2, a3, by omega, by rw [e4 i (by omega) (by omega)]; exact a5⟩, p, Q, sfC_cg b1 (fun j j0 j1 => e4 j j0 (by omega)), b2, by rw [e4 p (by omega) (by omega)]; exact b3, fun v v0 v6 v1 => ?_⟩
  have := b4 v v0 v6 v1
  have := Y t v
  omega
theorem sfH4_x (X : sfXa n gl gn ge ld gl' gn' ge' ld') (Y : sfXb n ak vo ct cn ak' vo' ct' cn') (A : ∀ u s, vo u n ≠ -1 → s < u → ak' s n = ak s n) (h1 : sfH1 gl gn ge ld z) (h4 : sfH4 gl ge ld ak vo) (h7 : sfH7 gn ld ak) (hu : ld u ≠ -1) : sfH4c gl' ge' ld' ak' vo' u := by
  obtain ⟨p, Q, a, b, c, d⟩ := h4 u hu
  obtain ⟨e1, e2, e3, e4, e5⟩ := X.1 u hu
  have g := (h1 u hu).1
  have := a.1
  refine ⟨p, Q, by rw [e2]; exact sfC_cg a (fun j j0 j1 => e4 j j0 (by omega)), b, by rw [e4 p (by omega) (by omega)]; exact c, fun v v0 v6 v1 => ?_⟩
  obtain ⟨f1, f2⟩ := d v v0 v6 v1
  have f3 : vo u v ≠ -1 := by omega
  refine ⟨by rw [(Y.2.1 u v).1 f3, e1]; exact f1, ?_⟩
  rw [e2, e4 (ge u) (by omega) (by omega)]
  refine sfVP_x X h1 h7 (fun s hs => ?_) f2
  by_cases q : v = n
  · subst q; exact A u s f3 hs
  · exact (Y.1 s v).2 q
theorem sfH5_x (X : sfXa n gl gn ge ld gl' gn' ge' ld') (Y : sfXb n ak vo ct cn ak' vo' ct' cn') (A : ∀ u s, vo u n ≠ -1 → s < u → ak' s n = ak s n) (h1 : sfH1 gl gn ge ld z) (h5 : sfH5 gl ge ld ak vo ct cn) (h7 : sfH7 gn ld ak) (hu : vo u v ≠ -1) : sfH5c gl' ge' ld' ak' vo' ct' cn' u v := by
  obtain ⟨a, b⟩ := h5 u v hu
  unfold sfH5c
  rw [(Y.2.1 u v).1 hu, (Y.2.1 u (vo u v)).1 (by rw [a]; exact hu), (Y.2.2.2 u _ a).1, (Y.2.2.2 u _ a).2]
  refine ⟨a, b.elim (fun f => Or.inl ?_) (fun f => Or.inr (sfVP_x X h1 h7 (fun s hs => ?_) f))⟩
  · rw [(X.1 u (by omega)).1]; exact f
  · by_cases q : v = n
    · subst q; exact A u s hu hs
    · exact (Y.1 s v).2 q
theorem sfH1_x (X : sfXa n gl gn ge ld gl' gn' ge' ld') (h1 : sfH1 gl gn ge ld z) {s : Int} (hs : ld s ≠ -1) (hg : gn' s = gn s) : (1 ≤ s ∧ 0 ≤ ge' s ∧ ge' s ≤ gn' s) ∧ sfL gl' gn' ge' ld' z (gl' s) (gn' s) s ∧ ∀ i, ge' s < i → i ≤ gn' s → gl' s i 0 = s := by
  obtain ⟨e1, e2, e3, e4, e5⟩ := X.1 s hs
  obtain ⟨⟨a1, a2, a3⟩, a4, a5⟩ := h1 s hs
  rw [e2, hg]
  refine ⟨⟨a1, a2, a3⟩, ⟨⟨by rw [e4 0 (by omega) (by omega)]; exact a4.1.1, by omega⟩, fun i i1 i2 => ?_⟩, fun i i1 i2 => by rw [e4 i (by omega) i2]; exact a5 i i1 i2⟩
  have q := (sfL_x X a4).2 i i1 i2
  rw [e4 i (by omega) i2]
  exact ⟨q.1, fun j j0 j1 => by rw [e4 j j0 (by omega)]; exact q.2 j j0 j1⟩
/-- what a node knows of its acknowledgments when it votes -/
theorem sf_vp (H : sfH gl gn ge ld ak vo ct cn K z) (N : sfN1 gl gn ge ld ak vo z n l x t v) {f d : Int} (hl : l x 0 < f ∨ (f = l x 0 ∧ x ≤ d)) (hu : t ≤ u) : sfVP gl ge ld ak u (u + 1) n f d := fun s i s1 s2 i1 i2 hs => by
  obtain ⟨a1, a2⟩ := N.2.1 s i i1 i2
  rcases a2 hs with ⟨b1, b2⟩ | ⟨w, w1, w2, w3⟩
  · left
    have y := sfL_mono H.1 N.1 i1 b1 (Int.le_refl x)
    clear a2
    omega
  · exact Or.inr ⟨w, w1, by omega, w3⟩
theorem sf_vote (H : sfH gl gn ge ld ak vo ct cn K z) {b1 a : Int} (N : sfN gl gn ge ld ak vo ct cn K z n l x t v r c b1 mt) (hn : 0 ≤ n) (hv : v = -1 ∨ v = a) (ha : 0 ≤ a) (an : a ≠ n) (hs : vo t a = a) (hl : l x 0 < ct t a ∨ (ct t a = l x 0 ∧ x ≤ cn t a)) :
    sfXb n ak vo ct cn ak (sf2 vo t n a) ct cn ∧ sfH gl gn ge ld ak (sf2 vo t n a) ct cn K z ∧ sfN gl gn ge ld ak (sf2 vo t n a) ct cn K z n l x t a r c b1 mt := by
  obtain ⟨N1, N4, N5, N6⟩ := N
  obtain ⟨h1, h2, h3, h4, h5, h6, h7, h8⟩ := H
  have hvt := N1.2.2.1
  have Y : sfXb n ak vo ct cn ak (sf2 vo t n a) ct cn := ⟨fun _ _ => ⟨Int.le_refl _, fun _ => rfl⟩, fun s k => by
    by_cases q : s = t ∧ k = n
    · obtain ⟨rfl, rfl⟩ := q
      exact ⟨fun z => by rw [sf2_e]; omega, fun z => absurd rfl z⟩
    · rw [sf2_n q]; exact ⟨fun _ => rfl, fun _ => rfl⟩, fun s hs' => by
    by_cases q : s = t
    · subst q; rw [sf2_e]; exact Or.inr (Or.inr hs)
    · rw [sf2_n (fun z => q z.1)]; exact Or.inl hs', fun _ _ _ => ⟨rfl, rfl⟩⟩
  refine ⟨Y, ⟨h1, h2, h3, fun u hu => sfH4_x sfXa_rf Y (fun _ _ _ _ => rfl) h1 h4 h7 hu, fun u k hu => ?_, h6, h7, h8⟩, ⟨N1.1, N1.2.1, sf2_e, fun s hs' => by rw [sf2_n (by omega)]; exact N1.2.2.2.1 s hs', fun s k hk => ?_, N1.2.2.2.2.2⟩, fun hr => ?_, N5, N6⟩
  · by_cases q : u = t ∧ k = n
    · obtain ⟨rfl, rfl⟩ := q
      unfold sfH5c
      rw [sf2_e, sf2_n (by omega)]
      exact ⟨hs, Or.inr (sf_vp ⟨h1, h2, h3, h4, h5, h6, h7, h8⟩ N1 hl (Int.le_refl _))⟩
    · rw [sf2_n q] at hu
      exact sfH5_x sfXa_rf Y (fun _ _ _ _ => rfl) h1 h5 h7 hu
  · by_cases q : s = t ∧ k = n
    · obtain ⟨rfl, rfl⟩ := q
      omega
    · rw [sf2_n q] at hk
      exact N1.2.2.2.2.1 s k hk
  · have := (N4 hr).1.1
    omega
/-- it stands -/
theorem sf_stand (H : sfH gl gn ge ld ak vo ct cn K z) {b1 b' r' : Int} {mt' : Int → Int} (N : sfN gl gn ge ld ak vo ct cn K z n l x t v r c b1 mt) (hn : 0 ≤ n) (hr : r' ≠ 2) (hb : ∀ k, 0 ≤ k → k ≤ 6 → hsZ b' k → k = n) :
    sfXb n ak vo ct cn ak (sf2 vo (t + 1) n n) (sf2 ct (t + 1) n (l x 0)) (sf2 cn (t + 1) n x) ∧ sfH gl gn ge ld ak (sf2 vo (t + 1) n n) (sf2 ct (t + 1) n (l x 0)) (sf2 cn (t + 1) n x) K z ∧ sfN gl gn ge ld ak (sf2 vo (t + 1) n n) (sf2 ct (t + 1) n (l x 0)) (sf2 cn (t + 1) n x) K z n l x (t + 1) n r' c b' mt' := by
  obtain ⟨N1, N4, N5, N6⟩ := N
  obtain ⟨h1, h2, h3, h4, h5, h6, h7, h8⟩ := H
  obtain ⟨k1, k2, k3, k4, k5, k6⟩ := N1
  have o : vo (t + 1) n = -1 := k4 _ (by omega)
  have Y : sfXb n ak vo ct cn ak (sf2 vo (t + 1) n n) (sf2 ct (t + 1) n (l x 0)) (sf2 cn (t + 1) n x) := ⟨fun _ _ => ⟨Int.le_refl _, fun _ => rfl⟩, fun s k => by
    by_cases q : s = t + 1 ∧ k = n
    · obtain ⟨rfl, rfl⟩ := q
      exact ⟨fun z => absurd o z, fun z => absurd rfl z⟩
    · rw [sf2_n q]; exact ⟨fun _ => rfl, fun _ => rfl⟩, fun s hs' => by
    by_cases q : s = t + 1
    · subst q; rw [sf2_e]; exact Or.inr (Or.inl rfl)
    · rw [sf2_n (fun z => q z.1)]; exact Or.inl hs', fun s k hk => by
    by_cases q : s = t + 1 ∧ k = n
    · obtain ⟨rfl, rfl⟩ := q
      omega
    · rw [sf2_n q, sf2_n q]; exact ⟨rfl, rfl⟩⟩
  refine ⟨Y, ⟨h1, h2, h3, fun u hu => sfH4_x sfXa_rf Y (fun _ _ _ _ => rfl) h1 h4 h7 hu, fun u k hu => ?_, h6, h7, h8⟩, ⟨⟨k1.1, fun i i1 i2 => ⟨⟨(k1.2 i i1 i2).1.1, by have := (k1.2 i i1 i2).1.2.1; omega, (k1.2 i i1 i2).1.2.2⟩, (k1.2 i i1 i2).2⟩⟩, fun s i i1 i2 => ?_, sf2_e, fun s hs' => by rw [sf2_n (by omega)]; exact k4 s (by omega), fun s k hk => ?_, fun s hs => by have := k6 s hs; omega⟩, fun hr => ⟨⟨sf2_e, fun h => by have := k6 _ h; omega, sf2_e, sf2_e⟩, by rw [show t + 1 - 1 = t by omega]; exact k1, fun k k0 k6' kb => by rw [hb k k0 k6' kb]; exact sf2_e⟩, fun h => absurd h hr, ?_⟩
  · by_cases q : u = t + 1 ∧ k = n
    · obtain ⟨rfl, rfl⟩ := q
      unfold sfH5c
      rw [sf2_e, sf2_e, sf2_e, sf2_e]
      exact ⟨rfl, Or.inr (sf_vp ⟨h1, h2, h3, h4, h5, h6, h7, h8⟩ ⟨k1, k2, k3, k4, k5, k6⟩ (Or.inr ⟨rfl, Int.le_refl _⟩) (by omega))⟩
    · rw [sf2_n q] at hu
      exact sfH5_x sfXa_rf Y (fun _ _ _ _ => rfl) h1 h5 h7 hu
  · obtain ⟨a1, a2⟩ := k2 s i i1 i2
    refine ⟨by omega, fun hs => (a2 hs).elim Or.inl (fun ⟨w, w1, w2, w3⟩ => Or.inr ⟨w, w1, by omega, w3⟩)⟩
  · by_cases q : s = t + 1 ∧ k = n
    · omega
    · rw [sf2_n q] at hk
      have := k5 s k hk
      omega
  · rcases N6 with d | ⟨s, i, m, d1, d2, d3⟩
    · exact Or.inl d
    · exact Or.inr ⟨s, i, m, d1, by omega, d3⟩
/-- it leads -/
theorem sf_lead (H : sfH gl gn ge ld ak vo ct cn K z) {b' b2 : Int} {mt' : Int → Int} (N : sfN gl gn ge ld ak vo ct cn K z n l x t v 1 c b' mt) (hn : 0 ≤ n) (h1t : 1 ≤ t) (hp : sfC l x p) (hb7 : set7 b') (hq : mqZ (l p 2) (l p 3) b') (hm : ∀ k, 0 ≤ k → k ≤ 6 → mt' k = 0) :
    sfXa n gl gn ge ld (fun s => if s = t then l else gl s) (sf1 gn t x) (sf1 ge t x) (sf1 ld t n) ∧ sfXb n ak vo ct cn (sf2 ak t n x) vo ct cn ∧ sfH (fun s => if s = t then l else gl s) (sf1 gn t x) (sf1 ge t x) (sf1 ld t n) (sf2 ak t n x) vo ct cn K z ∧ sfN (fun s => if s = t then l else gl s) (sf1 gn t x) (sf1 ge t x) (sf1 ld t n) (sf2 ak t n x) vo ct cn K z n l x t v 2 c b2 mt' := by
  obtain ⟨N1, N4, N5, N6⟩ := N
  obtain ⟨h1, h2, h3, h4, h5, h6, h7, h8⟩ := H
  obtain ⟨k1, k2, k3, k4, k5, k6⟩ := N1
  obtain ⟨⟨c1, c2, c3, c4⟩, c5, c6⟩ := N4 rfl
  have hV : ∀ v, 0 ≤ v → v ≤ 6 → hsZ b' v → vo t v = n ∧ sfVP gl ge ld ak t (t + 1) v (l x 0) x := fun v v0 v6 v1 => by
    have e := c6 v v0 v6 v1
    refine ⟨e, ?_⟩
    have q := (h5 t v (by omega)).2
    rw [e, c3, c4] at q
    exact q.resolve_left c2
  have hld : ld t = -1 := Classical.byContradiction (fun hu => c2 (sf_one h1 h2 h3 h4 h6 h8 c5 hp hb7 hq hV hu))
  have hak : ∀ k, ak t k = 0 := fun k => by
    have := h7 t k
    omega
  have x0 := k1.1.2
  have X : sfXa n gl gn ge ld (fun s => if s = t then l else gl s) (sf1 gn t x) (sf1 ge t x) (sf1 ld t n) := ⟨fun s hs => by
    have q : s ≠ t := fun h => hs (by rw [h]; exact hld)
    rw [sf1_n q, sf1_n q, sf1_n q]
    exact ⟨rfl, rfl, Int.le_refl _, fun i _ _ => by simp only [if_neg q], fun _ => rfl⟩, fun s hs => by
    by_cases q : s = t
    · rw [q, sf1_e]; exact Or.inr rfl
    · rw [sf1_n q]; exact Or.inl hs⟩
  have Y : sfXb n ak vo ct cn (sf2 ak t n x) vo ct cn := ⟨fun s k => by
    by_cases q : s = t ∧ k = n
    · obtain ⟨rfl, rfl⟩ := q
      rw [sf2_e, hak]
      exact ⟨x0, fun h => absurd rfl h⟩
    · rw [sf2_n q]; exact ⟨Int.le_refl _, fun _ => rfl⟩, fun _ _ => ⟨fun _ => rfl, fun _ => rfl⟩, fun _ h => Or.inl h, fun _ _ _ => ⟨rfl, rfl⟩⟩
  have A : ∀ u s, vo u n ≠ -1 → s < u → sf2 ak t n x s n = ak s n := fun u s hu hs => by
    by_cases q : u ≤ t
    · exact sf2_n (by omega)
    · exact absurd (k4 u (by omega)) hu
  have W : ∀ s, ld s ≠ -1 → s ≠ t := fun s hs h => hs (by rw [h]; exact hld)
  have W' : ∀ s, sf1 ld t n s ≠ -1 → s ≠ t → ld s ≠ -1 := fun s hs h => by rw [sf1_n h] at hs; exact hs
  have hall := sf_all h1 h2 h3 h6 h8 c5 hp hb7 hq (fun v v0 v6 v1 => (hV v v0 v6 v1).2)
  refine ⟨X, Y, ⟨fun s hs => ?_, fun s j hs hj j1 hk => ?_, fun s i m hk => sfH3_x X (fun s v => (Y.1 s v).1) h3 hk, fun u hu => ?_, fun u k hu => sfH5_x X Y A h1 h5 h7 hu, fun s i m u hk hu hs => ?_, fun s k => ?_, h8⟩, ⟨sfL_x X k1, fun s i i1 i2 => ?_, k3, k4, k5, fun s hs => ?_⟩, fun h => by omega, fun _ => ⟨sf1_e, sf1_e, fun i _ _ => by simp only [if_true], by rw [sf2_e]; exact Int.le_refl _, fun k k0 k6' => ?_⟩, ?_⟩
  · by_cases q : s = t
    · subst q
      rw [sf1_e, sf1_e]
      simp only [if_true]
      exact ⟨⟨h1t, x0, Int.le_refl _⟩, sfL_x X k1, fun i i1 i2 => by omega⟩
    · exact sfH1_x X h1 (W' s hs q) (sf1_n q)
  · by_cases q : s = t
    · subst q
      rw [sf1_e] at hj j1
      omega
    · rw [sf1_n q] at j1
      exact sfH2_x X (fun _ _ _ h => h) h1 h2 (W' s hs q) hj j1 hk
  · by_cases q : u = t
    · subst q
      unfold sfH4c
      simp only [if_true]
      rw [sf1_e, sf1_e]
      refine ⟨p, b', hp, hb7, hq, fun v v0 v6 v1 => ⟨(hV v v0 v6 v1).1, ?_⟩⟩
      have y := sfVP_x X h1 h7 (ak' := sf2 ak u n x) (fun s hs => sf2_n (by omega)) (hV v v0 v6 v1).2
      intro s i s1 s2 i1 i2 hg
      rcases y s i s1 s2 i1 i2 hg with y | ⟨w, w1, w2, w3, w4⟩
      · exact Or.inl y
      · by_cases e : w = u
        · rw [e] at w4
          have hg' : gl s i 0 = s := by simpa only [if_neg (show s ≠ u by omega)] using hg
          rw [sf2_n (by omega)] at i2
          rcases (hV v v0 v6 v1).2 s i s1 s2 i1 i2 hg' with y | ⟨w, w1, w2, w3, w4⟩
          · exact Or.inl y
          · have : w ≠ u := W w w3
            exact Or.inr ⟨w, w1, by omega, by rw [(X.1 w w3).1]; exact w3, fun k => w4 ((sfCn_x X h1 w3 (by omega)).mp k)⟩
        · exact Or.inr ⟨w, w1, by omega, w3, w4⟩
    · exact sfH4_x X Y A h1 h4 h7 (W' u hu q)
  · have g := (h3 _ _ _ hk).1
    by_cases q : u = t
    · subst q
      have y := hall s i m hk hs
      unfold sfCn
      rw [sf1_e]
      simp only [if_true]
      exact y
    · exact (sfCn_x X h1 (W' u hu q) (by have := g.2.1; omega)).mpr (h6 s i m u hk (W' u hu q) hs)
  · by_cases q : s = t ∧ k = n
    · obtain ⟨rfl, rfl⟩ := q
      rw [sf2_e, sf1_e, sf1_e]
      exact ⟨x0, fun _ => ⟨by omega, Int.le_refl _⟩⟩
    · rw [sf2_n q]
      refine ⟨(h7 s k).1, fun h => ?_⟩
      have y := (h7 s k).2 h
      rw [(X.1 s y.1).1]
      exact ⟨y.1, by have := (X.1 s y.1).2.2.1; omega⟩
  · by_cases q : s = t
    · subst q
      rw [sf2_e] at i2
      refine ⟨Int.le_refl _, fun hs => Or.inl ⟨i2, by simpa only [if_true] using hs⟩⟩
    · rw [sf2_n (fun h => q h.1)] at i2
      obtain ⟨a1, a2⟩ := k2 s i i1 i2
      refine ⟨a1, fun hs => ?_⟩
      simp only [if_neg q] at hs
      rcases a2 hs with y | ⟨w, w1, w2, w3, w4⟩
      · exact Or.inl y
      · exact Or.inr ⟨w, w1, w2, by rw [(X.1 w w3).1]; exact w3, fun k => w4 ((sfCn_x X h1 w3 (by omega)).mp k)⟩
  · by_cases q : s = t
    · omega
    · rw [sf1_n q] at hs
      exact k6 s hs
  · rw [hm k k0 k6']
    by_cases q : k = n
    · rw [q, sf2_e]; exact x0
    · rw [sf2_n (fun h => q h.2)]; exact (h7 t k).1
  · rcases N6 with d | ⟨s, i, m, d1, d2, d3, d4, d5, d6⟩
    · exact Or.inl d
    · have g := (h3 _ _ _ d1).1
      have q := W s g.1
      exact Or.inr ⟨s, i, m, d1, d2, d3, d4, d5, by simpa only [if_neg q] using d6⟩
end Sy
