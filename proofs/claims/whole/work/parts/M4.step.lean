/-! safety: what a node and a message keep to, and the steps of one node -/
def sfN1 (gl : Int → Int → Int → Int) (gn ge ld : Int → Int) (ak vo : Int → Int → Int) (z n : Int) (l : Int → Int → Int) (x t v : Int) : Prop :=
  sfL gl gn ge ld z l x t ∧ (∀ s i, 1 ≤ i → i ≤ ak s n → s ≤ t ∧ (gl s i 0 = s → (i ≤ x ∧ l i 0 = s) ∨ ∃ w, s < w ∧ w ≤ t ∧ ld w ≠ -1 ∧ ¬ sfCn gl ge s i w)) ∧
  vo t n = v ∧ (∀ s, t < s → vo s n = -1) ∧ (∀ s k, vo s k = n → s ≤ t) ∧ ∀ s, ld s = n → s ≤ t
def sfN4 (gl : Int → Int → Int → Int) (gn ge ld : Int → Int) (vo ct cn : Int → Int → Int) (z n : Int) (l : Int → Int → Int) (x t b : Int) : Prop :=
  (vo t n = n ∧ ld t ≠ n ∧ ct t n = l x 0 ∧ cn t n = x) ∧ sfL gl gn ge ld z l x (t - 1) ∧ ∀ k, 0 ≤ k → k ≤ 6 → hsZ b k → vo t k = n
def sfN5 (gl : Int → Int → Int → Int) (gn ld : Int → Int) (ak : Int → Int → Int) (n : Int) (l : Int → Int → Int) (x t : Int) (mt : Int → Int) : Prop :=
  ld t = n ∧ gn t = x ∧ (∀ i, 0 ≤ i → i ≤ x → gl t i = l i) ∧ x ≤ ak t n ∧ ∀ k, 0 ≤ k → k ≤ 6 → mt k ≤ ak t k
def sfN6 (gl : Int → Int → Int → Int) (K : Int → Int → Int → Prop) (l : Int → Int → Int) (x t c : Int) : Prop :=
  c = 0 ∨ ∃ s i m, K s i m ∧ s ≤ t ∧ 1 ≤ c ∧ c ≤ i ∧ c ≤ x ∧ l c 0 = gl s c 0
def sfN (gl : Int → Int → Int → Int) (gn ge ld : Int → Int) (ak vo ct cn : Int → Int → Int) (K : Int → Int → Int → Prop) (z n : Int) (l : Int → Int → Int) (x t v r c b : Int) (mt : Int → Int) : Prop :=
  sfN1 gl gn ge ld ak vo z n l x t v ∧ (r = 1 → sfN4 gl gn ge ld vo ct cn z n l x t b) ∧ (r = 2 → sfN5 gl gn ld ak n l x t mt) ∧ sfN6 gl K l x t c
def sfMc (K : Int → Int → Int → Prop) (t c : Int) : Prop := c = 0 ∨ ∃ s i m, K s i m ∧ s ≤ t ∧ c ≤ i
def sfM2 (gl : Int → Int → Int → Int) (gn : Int → Int) (g : Int → Int) : Prop :=
  0 ≤ g 6 ∧ (0 ≤ g 5 ∧ g 5 ≤ 4) ∧ g 6 + g 5 ≤ gn (g 3) ∧ g 7 = gl (g 3) (g 6) 0 ∧ ∀ k q, 0 ≤ k → k < g 5 → 0 ≤ q → q ≤ 3 → g (11 + 4 * k + q) = gl (g 3) (g 6 + 1 + k) q
def sfM4 (gl : Int → Int → Int → Int) (gn : Int → Int) (g : Int → Int) : Prop :=
  0 ≤ g 6 ∧ g 6 ≤ gn (g 3) ∧ g 7 = gl (g 3) (g 6) 0 ∧ ∃ p, sfC (gl (g 3)) (g 6) p ∧ g 8 = gl (g 3) p 2 ∧ g 9 = gl (g 3) p 3
/-- a message is sound -/
def sfM (gl : Int → Int → Int → Int) (gn ld : Int → Int) (ak vo ct cn : Int → Int → Int) (K : Int → Int → Int → Prop) (g : Int → Int) : Prop :=
  (0 ≤ g 0 ∧ 0 ≤ g 1) ∧ (g 2 = 0 → vo (g 3) (g 0) = g 0 ∧ g 6 = cn (g 3) (g 0) ∧ g 7 = ct (g 3) (g 0)) ∧ (g 2 = 1 → g 6 = 1 → vo (g 3) (g 0) = g 1) ∧
  (g 2 = 2 → ld (g 3) = g 0 ∧ sfM2 gl gn g ∧ sfMc K (g 3) (g 8)) ∧ (g 2 = 3 → g 6 = 1 → g 7 ≤ ak (g 3) (g 0)) ∧
  (g 2 = 4 → ld (g 3) = g 0 ∧ sfM4 gl gn g ∧ sfMc K (g 3) (g 6)) ∧ (g 2 = 5 → g 6 ≤ ak (g 3) (g 0))
def sfH (gl : Int → Int → Int → Int) (gn ge ld : Int → Int) (ak vo ct cn : Int → Int → Int) (K : Int → Int → Int → Prop) (z : Int) : Prop :=
  sfH1 gl gn ge ld z ∧ sfH2 gl gn ge ld K ∧ sfH3 gl gn ld ak K ∧ sfH4 gl ge ld ak vo ∧ sfH5 gl ge ld ak vo ct cn ∧ sfH6 gl ge ld K ∧ sfH7 gn ld ak ∧ set7 z
/-- the ghosts after a step of node n -/
def sfXa (n : Int) (gl : Int → Int → Int → Int) (gn ge ld : Int → Int) (gl' : Int → Int → Int → Int) (gn' ge' ld' : Int → Int) : Prop :=
  (∀ t, ld t ≠ -1 → ld' t = ld t ∧ ge' t = ge t ∧ gn t ≤ gn' t ∧ (∀ i, 0 ≤ i → i ≤ gn t → gl' t i = gl t i) ∧ (ld t ≠ n → gn' t = gn t)) ∧ ∀ t, ld t = -1 → ld' t = -1 ∨ ld' t = n
def sfXb (n : Int) (ak vo ct cn ak' vo' ct' cn' : Int → Int → Int) : Prop :=
  (∀ t v, ak t v ≤ ak' t v ∧ (v ≠ n → ak' t v = ak t v)) ∧ (∀ t v, (vo t v ≠ -1 → vo' t v = vo t v) ∧ (v ≠ n → vo' t v = vo t v)) ∧
  (∀ t, vo t n = -1 → vo' t n = -1 ∨ vo' t n = n ∨ vo t (vo' t n) = vo' t n) ∧ ∀ t c, vo t c = c → ct' t c = ct t c ∧ cn' t c = cn t c
section Sx
variable {gl gl' : Int → Int → Int → Int} {gn ge ld gn' ge' ld' : Int → Int} {ak vo ct cn ak' vo' ct' cn' : Int → Int → Int} {K K' : Int → Int → Int → Prop} {z n : Int} {l a b : Int → Int → Int} {x u t i m p q e c v r w y : Int} {mt g : Int → Int}
theorem sfXa_rf : sfXa n gl gn ge ld gl gn ge ld := ⟨fun _ _ => ⟨rfl, rfl, Int.le_refl _, fun _ _ _ => rfl, fun _ => rfl⟩, fun _ h => Or.inl h⟩
theorem sfXb_rf : sfXb n ak vo ct cn ak vo ct cn := ⟨fun _ _ => ⟨Int.le_refl _, fun _ => rfl⟩, fun _ _ => ⟨fun _ => rfl, fun _ => rfl⟩, fun _ h => Or.inl h, fun _ _ _ => ⟨rfl, rfl⟩⟩
theorem sfL_x (X : sfXa n gl gn ge ld gl' gn' ge' ld') (h : sfL gl gn ge ld z l x u) : sfL gl' gn' ge' ld' z l x u :=
  ⟨h.1, fun i i1 i2 => by
    obtain ⟨⟨a1, a2, a3, a4, a5⟩, a6⟩ := h.2 i i1 i2
    obtain ⟨e1, e2, e3, e4, e5⟩ := X.1 _ a3
    exact ⟨⟨a1, a2, by rw [e1]; exact a3, by rw [e2]; exact a4, by omega⟩, fun j j0 j1 => by rw [a6 j j0 j1, e4 j j0 (by omega)]⟩⟩
theorem sfCn_x (X : sfXa n gl gn ge ld gl' gn' ge' ld') (h1 : sfH1 gl gn ge ld z) (hw : ld w ≠ -1) (hi : 0 ≤ i) : sfCn gl' ge' t i w ↔ sfCn gl ge t i w := by
  obtain ⟨e1, e2, e3, e4, e5⟩ := X.1 _ hw
  have g := (h1 w hw).1
  unfold sfCn
  rw [e2]
  constructor
  · exact fun ⟨a, b⟩ => ⟨a, by rw [← e4 i hi (by omega)]; exact b⟩
  · exact fun ⟨a, b⟩ => ⟨a, by rw [e4 i hi (by omega)]; exact b⟩
theorem sfVP_x (X : sfXa n gl gn ge ld gl' gn' ge' ld') (h1 : sfH1 gl gn ge ld z) (h7 : sfH7 gn ld ak) (hv : ∀ s, s < u → ak' s v = ak s v) (h : sfVP gl ge ld ak u p v q e) : sfVP gl' ge' ld' ak' u p v q e := fun t i t1 t2 i1 i2 ht => by
  rw [hv t t2] at i2
  have g := (h7 t v).2 (by omega)
  obtain ⟨e1, e2, e3, e4, e5⟩ := X.1 _ g.1
  rw [e4 i (by omega) (by omega)] at ht
  rcases h t i t1 t2 i1 i2 ht with a | ⟨w, w1, w2, w3, w4⟩
  · exact Or.inl a
  · exact Or.inr ⟨w, w1, w2, by rw [(X.1 w w3).1]; exact w3, fun k => w4 ((sfCn_x X h1 w3 (by omega)).mp k)⟩
theorem sfN_x (X : sfXa n gl gn ge ld gl' gn' ge' ld') (Y : sfXb n ak vo ct cn ak' vo' ct' cn') (Z : ∀ t i m, K t i m → K' t i m) (H : sfH gl gn ge ld ak vo ct cn K z) (hn : w ≠ n) (hw : w ≠ -1)
    (h : sfN gl gn ge ld ak vo ct cn K z w l x t v r c y mt) : sfN gl' gn' ge' ld' ak' vo' ct' cn' K' z w l x t v r c y mt := by
  obtain ⟨h1, h2, h3, h4, h5, h6, h7, h8⟩ := H
  obtain ⟨⟨a1, a2, a3, a4, a5, a6⟩, b1, c1, d1⟩ := h
  obtain ⟨y1, y2, y3, y4⟩ := Y
  refine ⟨⟨sfL_x X a1, fun s i i1 i2 => ?_, by rw [(y2 t w).2 hn]; exact a3, fun s hs => by rw [(y2 s w).2 hn]; exact a4 s hs, fun s k hk => ?_, fun s hs => ?_⟩, fun hr => ?_, fun hr => ?_, ?_⟩
  · rw [(y1 s w).2 hn] at i2
    obtain ⟨k1, k2⟩ := a2 s i i1 i2
    have g := (h7 s w).2 (by omega)
    obtain ⟨e1, e2, e3, e4, e5⟩ := X.1 _ g.1
    refine ⟨k1, fun hs => ?_⟩
    rw [e4 i (by omega) (by omega)] at hs
    rcases k2 hs with k | ⟨q, q1, q2, q3, q4⟩
    · exact Or.inl k
    · exact Or.inr ⟨q, q1, q2, by rw [(X.1 q q3).1]; exact q3, fun k => q4 ((sfCn_x X h1 q3 (by omega)).mp k)⟩
  · by_cases q : k = n
    · subst q
      by_cases q2 : vo s k = -1
      · rcases y3 s q2 with r1 | r1 | r1
        · omega
        · omega
        · rw [hk] at r1
          exact a5 s _ r1
      · rw [(y2 s k).1 q2] at hk
        exact a5 s k hk
    · rw [(y2 s k).2 q] at hk
      exact a5 s k hk
  · by_cases q : ld s = -1
    · rcases X.2 s q with r1 | r1 <;> omega
    · rw [(X.1 s q).1] at hs
      exact a6 s hs
  · obtain ⟨⟨b2, b3, b4, b5⟩, b6, b7⟩ := b1 hr
    refine ⟨⟨by rw [(y2 t w).2 hn]; exact b2, ?_, by rw [(y4 t w b2).1]; exact b4, by rw [(y4 t w b2).2]; exact b5⟩, sfL_x X b6, fun k k0 k1 k2 => ?_⟩
    · by_cases q : ld t = -1
      · rcases X.2 t q with r1 | r1 <;> omega
      · rw [(X.1 t q).1]; exact b3
    · have := b7 k k0 k1 k2
      rw [(y2 t k).1 (by omega)]
      exact this
  · obtain ⟨c2, c3, c4, c5, c6⟩ := c1 hr
    obtain ⟨e1, e2, e3, e4, e5⟩ := X.1 t (by omega)
    refine ⟨by omega, by rw [e5 (by omega)]; exact c3, fun i i0 i1 => by rw [e4 i i0 (by omega)]; exact c4 i i0 i1, by have := (y1 t w).1; omega, fun k k0 k1 => ?_⟩
    have := c6 k k0 k1
    have := (y1 t k).1
    omega
  · rcases d1 with d1 | ⟨s, i, m, d2, d3, d4, d5, d6, d7⟩
    · exact Or.inl d1
    · have g := (h3 _ _ _ d2).1
      obtain ⟨e1, e2, e3, e4, e5⟩ := X.1 s g.1
      exact Or.inr ⟨s, i, m, Z _ _ _ d2, d3, d4, d5, d6, by rw [e4 c (by omega) (by have := g.2; omega)]; exact d7⟩
theorem sfMc_x (Z : ∀ t i m, K t i m → K' t i m) (h : sfMc K t c) : sfMc K' t c := h.elim Or.inl (fun ⟨s, i, m, a, b⟩ => Or.inr ⟨s, i, m, Z _ _ _ a, b⟩)
theorem sfM_x (X : sfXa n gl gn ge ld gl' gn' ge' ld') (Y : sfXb n ak vo ct cn ak' vo' ct' cn') (Z : ∀ t i m, K t i m → K' t i m)
    (h : sfM gl gn ld ak vo ct cn K g) : sfM gl' gn' ld' ak' vo' ct' cn' K' g := by
  obtain ⟨⟨h0, hb⟩, k0, k1, k2, k3, k4, k5⟩ := h
  obtain ⟨y1, y2, y3, y4⟩ := Y
  refine ⟨⟨h0, hb⟩, fun e => ?_, fun e f => ?_, fun e => ?_, fun e f => ?_, fun e => ?_, fun e => ?_⟩
  · obtain ⟨a, b, c⟩ := k0 e
    have d := y4 _ _ a
    exact ⟨by rw [(y2 _ _).1 (by omega)]; exact a, by rw [d.2]; exact b, by rw [d.1]; exact c⟩
  · have a := k1 e f
    rw [(y2 _ _).1 (by omega)]; exact a
  · obtain ⟨a, ⟨b1, b2, b3, b4, b5⟩, d⟩ := k2 e
    obtain ⟨e1, e2, e3, e4, e5⟩ := X.1 (g 3) (by omega)
    exact ⟨by omega, ⟨b1, b2, by omega, by rw [e4 _ b1 (by omega)]; exact b4, fun k q q1 q2 q3 q4 => by rw [e4 _ (by omega) (by omega)]; exact b5 k q q1 q2 q3 q4⟩, sfMc_x Z d⟩
  · have := k3 e f
    have := (y1 (g 3) (g 0)).1
    omega
  · obtain ⟨a, ⟨b1, b2, b4, p, b5, b6, b7⟩, d⟩ := k4 e
    obtain ⟨e1, e2, e3, e4, e5⟩ := X.1 (g 3) (by omega)
    have := b5.1
    exact ⟨by omega, ⟨b1, by omega, by rw [e4 _ b1 (by omega)]; exact b4, p, sfC_cg b5 (fun j j0 j1 => e4 j j0 (by omega)), by rw [e4 p (by omega) (by omega)]; exact b6, by rw [e4 p (by omega) (by omega)]; exact b7⟩, sfMc_x Z d⟩
  · have := k5 e
    have := (y1 (g 3) (g 0)).1
    omega
end Sx
