/-! safety: the ghosts of a run (logs of the leaders of each term, what was acknowledged, voted, held) and the completeness of leaders -/
def sfE (z : Int) : Int → Int := fun q => if q = 1 then 1 else if q = 2 then z else 0
/-- each entry of a log is one that the leader of its term laid, with all ahead of it -/
def sfL (gl : Int → Int → Int → Int) (gn ge ld : Int → Int) (z : Int) (l : Int → Int → Int) (x u : Int) : Prop :=
  (l 0 = sfE z ∧ 0 ≤ x) ∧ ∀ i, 1 ≤ i → i ≤ x → (1 ≤ l i 0 ∧ l i 0 ≤ u ∧ ld (l i 0) ≠ -1 ∧ ge (l i 0) < i ∧ i ≤ gn (l i 0)) ∧ ∀ j, 0 ≤ j → j ≤ i → l j = gl (l i 0) j
/-- the last entry of kind 1 up to x -/
def sfC (l : Int → Int → Int) (x p : Int) : Prop := (0 ≤ p ∧ p ≤ x ∧ l p 1 = 1) ∧ ∀ j, p < j → j ≤ x → l j 1 ≠ 1
def sfCn (gl : Int → Int → Int → Int) (ge : Int → Int) (t i w : Int) : Prop := i ≤ ge w ∧ gl w i 0 = t
/-- what a vote of v in term u says of all that v acknowledged before -/
def sfVP (gl : Int → Int → Int → Int) (ge ld : Int → Int) (ak : Int → Int → Int) (u b v a c : Int) : Prop :=
  ∀ t i, 1 ≤ t → t < u → 1 ≤ i → i ≤ ak t v → gl t i 0 = t → (t < a ∨ (t = a ∧ i ≤ c)) ∨ ∃ w, t < w ∧ w < b ∧ ld w ≠ -1 ∧ ¬ sfCn gl ge t i w
/-- a set of members that follows another one -/
def sfS (o n o' n' : Int) : Prop := (n = 0 ∧ o' = o ∧ n' ≠ 0) ∨ (n ≠ 0 ∧ o' = n ∧ n' = 0)
def sfH1 (gl : Int → Int → Int → Int) (gn ge ld : Int → Int) (z : Int) : Prop :=
  ∀ t, ld t ≠ -1 → (1 ≤ t ∧ 0 ≤ ge t ∧ ge t ≤ gn t) ∧ sfL gl gn ge ld z (gl t) (gn t) t ∧ ∀ i, ge t < i → i ≤ gn t → gl t i 0 = t
def sfH2c (gl : Int → Int → Int → Int) (K : Int → Int → Int → Prop) (s j : Int) : Prop :=
  (set7 (gl s j 2) ∧ set7 (gl s j 3)) ∧ ∃ p, sfC (gl s) (j - 1) p ∧ sfS (gl s p 2) (gl s p 3) (gl s j 2) (gl s j 3) ∧ (p = 0 ∨ ∃ t i m, K t i m ∧ t ≤ s ∧ p ≤ i ∧ i < j ∧ (t = s → m < j))
def sfH2 (gl : Int → Int → Int → Int) (gn ge ld : Int → Int) (K : Int → Int → Int → Prop) : Prop :=
  ∀ s j, ld s ≠ -1 → ge s < j → j ≤ gn s → gl s j 1 = 1 → sfH2c gl K s j
def sfH3a (gl : Int → Int → Int → Int) (gn ld : Int → Int) (t i m : Int) : Prop := ld t ≠ -1 ∧ 1 ≤ i ∧ i ≤ m ∧ m ≤ gn t ∧ gl t i 0 = t
def sfH3b (gl : Int → Int → Int → Int) (ak : Int → Int → Int) (t i m : Int) : Prop := ∃ p Q, sfC (gl t) m p ∧ set7 Q ∧ mqZ (gl t p 2) (gl t p 3) Q ∧ ∀ v, 0 ≤ v → v ≤ 6 → hsZ Q v → i ≤ ak t v
def sfH3 (gl : Int → Int → Int → Int) (gn ld : Int → Int) (ak : Int → Int → Int) (K : Int → Int → Int → Prop) : Prop :=
  ∀ t i m, K t i m → sfH3a gl gn ld t i m ∧ sfH3b gl ak t i m
def sfH4c (gl : Int → Int → Int → Int) (ge ld : Int → Int) (ak vo : Int → Int → Int) (u : Int) : Prop :=
  ∃ p Q, sfC (gl u) (ge u) p ∧ set7 Q ∧ mqZ (gl u p 2) (gl u p 3) Q ∧ ∀ v, 0 ≤ v → v ≤ 6 → hsZ Q v → vo u v = ld u ∧ sfVP gl ge ld ak u u v (gl u (ge u) 0) (ge u)
def sfH4 (gl : Int → Int → Int → Int) (ge ld : Int → Int) (ak vo : Int → Int → Int) : Prop := ∀ u, ld u ≠ -1 → sfH4c gl ge ld ak vo u
def sfH5c (gl : Int → Int → Int → Int) (ge ld : Int → Int) (ak vo ct cn : Int → Int → Int) (u v : Int) : Prop :=
  vo u (vo u v) = vo u v ∧ (ld u = vo u v ∨ sfVP gl ge ld ak u (u + 1) v (ct u (vo u v)) (cn u (vo u v)))
def sfH5 (gl : Int → Int → Int → Int) (ge ld : Int → Int) (ak vo ct cn : Int → Int → Int) : Prop := ∀ u v, vo u v ≠ -1 → sfH5c gl ge ld ak vo ct cn u v
def sfH6 (gl : Int → Int → Int → Int) (ge ld : Int → Int) (K : Int → Int → Int → Prop) : Prop :=
  ∀ t i m u, K t i m → ld u ≠ -1 → t < u → sfCn gl ge t i u
def sfH7 (gn ld : Int → Int) (ak : Int → Int → Int) : Prop := ∀ t v, 0 ≤ ak t v ∧ (1 ≤ ak t v → ld t ≠ -1 ∧ ak t v ≤ gn t)
section Sf
variable {gl : Int → Int → Int → Int} {gn ge ld : Int → Int} {ak vo ct cn : Int → Int → Int} {K : Int → Int → Int → Prop} {z : Int} {l a b : Int → Int → Int} {x u t i m p q e : Int}
theorem sfL_lt (h : sfL gl gn ge ld z l x u) {y v : Int} (hy : 0 ≤ y ∧ y ≤ x) (hv : ∀ i, 1 ≤ i → i ≤ y → l i 0 ≤ v) : sfL gl gn ge ld z l y v :=
  ⟨⟨h.1.1, hy.1⟩, fun i i1 i2 => ⟨⟨(h.2 i i1 (by omega)).1.1, hv i i1 i2, (h.2 i i1 (by omega)).1.2.2⟩, (h.2 i i1 (by omega)).2⟩⟩
/-- the same term at an index: the same up to it -/
theorem sfL_eq {a b : Int → Int → Int} {x y u v : Int} (ha : sfL gl gn ge ld z a x u) (hb : sfL gl gn ge ld z b y v) (h1 : 1 ≤ i) (hx : i ≤ x) (hy : i ≤ y) (h : a i 0 = b i 0) : ∀ j, 0 ≤ j → j ≤ i → a j = b j := fun j j0 j1 => by
  rw [(ha.2 i h1 hx).2 j j0 j1, (hb.2 i h1 hy).2 j j0 j1, h]
theorem sfL_gl (_ : sfH1 gl gn ge ld z) (hl : sfL gl gn ge ld z l x u) (i1 : 1 ≤ i) (ix : i ≤ x) (h : l i 0 = t) : (ld t ≠ -1 ∧ ge t < i ∧ i ≤ gn t) ∧ ∀ j, 0 ≤ j → j ≤ i → l j = gl t j := by
  have q := hl.2 i i1 ix
  rw [h] at q
  exact ⟨⟨q.1.2.2.1, q.1.2.2.2.1, q.1.2.2.2.2⟩, q.2⟩
/-- terms do not fall -/
theorem sfL_mono (h1 : sfH1 gl gn ge ld z) (hl : sfL gl gn ge ld z l x u) {j : Int} (i1 : 1 ≤ i) (ij : i ≤ j) (jx : j ≤ x) : l i 0 ≤ l j 0 := by
  obtain ⟨⟨g1, g2, g3⟩, g4⟩ := sfL_gl h1 hl (by omega) jx rfl
  rw [g4 i (by omega) ij]
  exact ((h1 _ g1).2.1.2 i i1 (by omega)).1.2.1
theorem sf_elt (h1 : sfH1 gl gn ge ld z) (hu : ld u ≠ -1) : sfL gl gn ge ld z (gl u) (ge u) (u - 1) := by
  have g := h1 u hu
  refine sfL_lt g.2.1 ⟨g.1.2.1, g.1.2.2⟩ (fun i i1 i2 => ?_)
  have r := (g.2.1.2 i i1 (by omega)).1
  by_cases e : gl u i 0 = u
  · rw [e] at r
    omega
  · omega
theorem sfC_u {y : Int} (h : sfC l x p) (h' : sfC l x y) : p = y := by
  obtain ⟨⟨a1, a2, a3⟩, a4⟩ := h
  obtain ⟨⟨b1, b2, b3⟩, b4⟩ := h'
  by_cases c : p < y
  · exact absurd b3 (a4 y c b2)
  · by_cases d : y < p
    · exact absurd a3 (b4 p d a2)
    · omega
theorem sfC_ex (h : l 0 1 = 1) : ∀ k : Nat, ∃ p, sfC l k p
  | 0 => ⟨0, ⟨⟨by omega, by omega, h⟩, fun j j1 j2 => by omega⟩⟩
  | k + 1 => by
    by_cases c : l ((k : Int) + 1) 1 = 1
    · exact ⟨(k : Int) + 1, ⟨by omega, by omega, c⟩, fun j j1 j2 => by omega⟩
    · obtain ⟨p, ⟨p1, p2, p3⟩, p4⟩ := sfC_ex h k
      refine ⟨p, ⟨p1, by omega, p3⟩, fun j j1 j2 => ?_⟩
      by_cases e : j = (k : Int) + 1
      · rw [e]; exact c
      · exact p4 j j1 (by omega)
theorem sfC_e (h : l 0 1 = 1) (hx : 0 ≤ x) : ∃ p, sfC l x p := by
  have := sfC_ex h x.toNat
  rw [show ((x.toNat : Nat) : Int) = x by omega] at this
  exact this
theorem sfC_cg (h : sfC a x p) (e : ∀ j, 0 ≤ j → j ≤ x → b j = a j) : sfC b x p :=
  ⟨⟨h.1.1, h.1.2.1, by rw [e p h.1.1 h.1.2.1]; exact h.1.2.2⟩, fun j j1 j2 => by rw [e j (by have := h.1.1; omega) j2]; exact h.2 j j1 j2⟩
/-- two sets of members that are one, follow each other, or the same one -/
theorem sf_meet (a0 : a 0 = sfE z) (b0 : b 0 = sfE z) (pa : sfC a m p) (qb : sfC b e q) (X : p = 0 ∨ ∃ p', sfC a (p - 1) p' ∧ sfS (a p' 2) (a p' 3) (a p 2) (a p 3) ∧ p' ≤ e ∧ ∀ j, 0 ≤ j → j ≤ p' → b j = a j) (Y : q = 0 ∨ ∃ q', sfC b (q - 1) q' ∧ sfS (b q' 2) (b q' 3) (b q 2) (b q 3) ∧ q' ≤ m ∧ ∀ j, 0 ≤ j → j ≤ q' → a j = b j) : a p 2 = b q 2 ∨ (a p 3 ≠ 0 ∧ a p 3 = b q 2) ∨ (b q 3 ≠ 0 ∧ b q 3 = a p 2) := by
  have ch : ∀ {o n o' n' : Int}, sfS o n o' n' → o = o' ∨ (n ≠ 0 ∧ n = o') := fun h => h.elim (fun h => Or.inl h.2.1.symm) (fun h => Or.inr ⟨h.1, h.2.1.symm⟩)
  have ca : ∀ j, 0 ≤ j → j ≤ m → a j 1 = 1 → j ≤ p := fun j j0 j1 j2 => by
    by_cases c : p < j
    · exact absurd j2 (pa.2 j c j1)
    · omega
  have cb : ∀ j, 0 ≤ j → j ≤ e → b j 1 = 1 → j ≤ q := fun j j0 j1 j2 => by
    by_cases c : q < j
    · exact absurd j2 (qb.2 j c j1)
    · omega
  rcases X with rfl | ⟨p', p1, p2, p3, p4⟩
  · rcases Y with rfl | ⟨q', q1, q2, q3, q4⟩
    · left; rw [a0, b0]
    · have e1 := ca q' q1.1.1 q3 (by rw [q4 q' q1.1.1 (by omega)]; exact q1.1.2.2)
      have e2 : q' = 0 := by have := q1.1.1; omega
      subst e2
      rw [b0, ← a0] at q2
      exact (ch q2).elim Or.inl (fun h => Or.inr (Or.inl h))
  · rcases Y with rfl | ⟨q', q1, q2, q3, q4⟩
    · have e1 := cb p' p1.1.1 p3 (by rw [p4 p' p1.1.1 (by omega)]; exact p1.1.2.2)
      have e2 : p' = 0 := by have := p1.1.1; omega
      subst e2
      rw [a0, ← b0] at p2
      exact (ch p2).elim (fun h => Or.inl h.symm) (fun h => Or.inr (Or.inr h))
    · have e1 := ca q' q1.1.1 q3 (by rw [q4 q' q1.1.1 (by omega)]; exact q1.1.2.2)
      have e2 := cb p' p1.1.1 p3 (by rw [p4 p' p1.1.1 (by omega)]; exact p1.1.2.2)
      by_cases c1 : q' = p
      · subst c1
        rw [← q4 q' q1.1.1 (by omega)] at q2
        exact (ch q2).elim Or.inl (fun h => Or.inr (Or.inl h))
      · by_cases c2 : p' = q
        · subst c2
          rw [← p4 p' p1.1.1 (by omega)] at p2
          exact (ch p2).elim (fun h => Or.inl h.symm) (fun h => Or.inr (Or.inr h))
        · have f1 : q' ≤ p' := by
            by_cases c : p' < q'
            · exact absurd (show a q' 1 = 1 by rw [q4 q' q1.1.1 (by omega)]; exact q1.1.2.2) (p1.2 q' c (by omega))
            · omega
          have f2 : p' ≤ q' := by
            by_cases c : q' < p'
            · exact absurd (show b p' 1 = 1 by rw [p4 p' p1.1.1 (by omega)]; exact p1.1.2.2) (q1.2 p' c (by omega))
            · omega
          have f3 : q' = p' := by omega
          subst f3
          rw [← q4 q' q1.1.1 (by omega)] at q2
          left
          rcases p2 with ⟨g1, g2, g3⟩ | ⟨g1, g2, g3⟩
          · rcases q2 with ⟨k1, k2, k3⟩ | ⟨k1, k2, k3⟩
            · rw [g2, k2]
            · exact absurd g1 k1
          · rcases q2 with ⟨k1, k2, k3⟩ | ⟨k1, k2, k3⟩
            · exact absurd k1 g1
            · rw [g2, k2]
/-- where a set of members of a sound log comes from -/
theorem sf_cov (h1 : sfH1 gl gn ge ld z) (h2 : sfH2 gl gn ge ld K) (hl : sfL gl gn ge ld z l x u) (hp : sfC l x p) (p1 : 1 ≤ p) : (set7 (l p 2) ∧ set7 (l p 3)) ∧ ∃ p', sfC l (p - 1) p' ∧ sfS (l p' 2) (l p' 3) (l p 2) (l p 3) ∧ (p' = 0 ∨ ∃ t i m, K t i m ∧ t ≤ l p 0 ∧ p' ≤ i ∧ i < p ∧ (t = l p 0 → m < p)) := by
  obtain ⟨⟨g1, g2, g3⟩, g4⟩ := sfL_gl h1 hl p1 hp.1.2.1 rfl
  have k := h2 _ p g1 g2 g3 (by rw [← g4 p (by omega) (by omega)]; exact hp.1.2.2)
  unfold sfH2c at k
  rw [← g4 p (by omega) (by omega)] at k
  obtain ⟨k1, p', k2, k3, k4⟩ := k
  have e := g4 p' k2.1.1 (by have := k2.1.2.1; omega)
  rw [← e] at k3
  exact ⟨k1, p', sfC_cg k2 (fun j j0 j1 => g4 j j0 (by omega)), k3, k4⟩
theorem sf_7 (h1 : sfH1 gl gn ge ld z) (h2 : sfH2 gl gn ge ld K) (hz : set7 z) (hl : sfL gl gn ge ld z l x u) (hp : sfC l x p) : set7 (l p 2) := by
  by_cases c : p = 0
  · subst c; rw [hl.1.1]; exact hz
  · exact (sf_cov h1 h2 hl hp (by have := hp.1.1; omega)).1.1
/-- completeness, one held entry and one elected log -/
theorem sf_lc (h1 : sfH1 gl gn ge ld z) (h2 : sfH2 gl gn ge ld K) (h3 : sfH3 gl gn ld ak K) (h6 : sfH6 gl ge ld K) (hz : set7 z)
    (ha : sfH3a gl gn ld t i m) (hb : sfH3b gl ak t i m) (lb : sfL gl gn ge ld z b e (u - 1)) (tu : t < u) (qC : sfC b e q) {Q B : Int} (Q7 : set7 Q) (hQ : mqZ (b q 2) (b q 3) Q)
    (hV : ∀ v, 0 ≤ v → v ≤ 6 → hsZ Q v → sfVP gl ge ld ak u B v (b e 0) e) (hB : u ≤ B)
    (hW : ∀ w, t < w → w < B → ld w ≠ -1 → sfCn gl ge t i w)
    (hX : ∀ t' i' m', K t' i' m' → (t' < t ∨ (t' = t ∧ m' < m)) → i' ≤ e ∧ b i' 0 = t') : i ≤ e ∧ b i 0 = t := by
  obtain ⟨a1, a2, a3, a4, a5⟩ := ha
  obtain ⟨p, P, pC, P7, hP, hA⟩ := hb
  have t1 := h1 t a1
  have gt : ge t < i := by
    by_cases c : ge t < i
    · exact c
    · have := (sf_elt h1 a1).2 i a2 (by omega)
      rw [a5] at this
      omega
  have lt : sfL gl gn ge ld z (gl t) m t := sfL_lt t1.2.1 ⟨by omega, a4⟩ (fun j j1 j2 => (t1.2.1.2 j j1 (by omega)).1.2.1)
  refine Classical.byContradiction (fun hn => ?_)
  have X : p = 0 ∨ ∃ p', sfC (gl t) (p - 1) p' ∧ sfS (gl t p' 2) (gl t p' 3) (gl t p 2) (gl t p 3) ∧ p' ≤ e ∧ ∀ j, 0 ≤ j → j ≤ p' → b j = gl t j := by
    by_cases p0 : p = 0
    · exact Or.inl p0
    · obtain ⟨-, p', k1, k2, k3⟩ := sf_cov h1 h2 lt pC (by have := pC.1.1; omega)
      refine Or.inr ⟨p', k1, k2, ?_⟩
      rcases k3 with rfl | ⟨t', i', m', k4, k5, k6, k7, k8⟩
      · exact ⟨lb.1.2, fun j j0 j1 => by rw [show j = 0 by omega, lb.1.1, lt.1.1]⟩
      · have k9 := (h3 _ _ _ k4).1
        have s1 := (lt.2 p (by have := pC.1.1; omega) pC.1.2.1).1
        have y := hX _ _ _ k4 (by
          by_cases c : t' < t
          · exact Or.inl c
          · have := k8 (by omega)
            have := pC.1.2.1
            exact Or.inr ⟨by omega, by omega⟩)
        have g : gl t i' 0 = t' := by
          by_cases c : t' < t
          · exact (h6 _ _ _ t k4 a1 c).2
          · have : t' = t := by omega
            subst this
            exact k9.2.2.2.2
        exact ⟨by omega, fun j j0 j1 => sfL_eq lb lt k9.2.1 y.1 (by have := pC.1.2.1; omega) (y.2.trans g.symm) j j0 (by omega)⟩
  have Y : q = 0 ∨ ∃ q', sfC b (q - 1) q' ∧ sfS (b q' 2) (b q' 3) (b q 2) (b q 3) ∧ q' ≤ m ∧ ∀ j, 0 ≤ j → j ≤ q' → gl t j = b j := by
    by_cases q0 : q = 0
    · exact Or.inl q0
    · have q1 : 1 ≤ q := by have := qC.1.1; omega
      have qe := qC.1.2.1
      obtain ⟨-, q', k1, k2, k3⟩ := sf_cov h1 h2 lb qC q1
      refine Or.inr ⟨q', k1, k2, ?_⟩
      rcases k3 with rfl | ⟨t', i', m', k4, k5, k6, k7, k8⟩
      · exact ⟨by omega, fun j j0 j1 => by rw [show j = 0 by omega, lb.1.1, lt.1.1]⟩
      · have k9 := (h3 _ _ _ k4).1
        have s1 := (lb.2 q q1 qe).1
        obtain ⟨⟨g1, g2, g3⟩, g4⟩ := sfL_gl h1 lb q1 qe rfl
        have y : b i' 0 = t' := by
          rw [g4 i' (by have := k9.2.1; omega) (by omega)]
          by_cases c : t' < b q 0
          · exact (h6 _ _ _ _ k4 g1 c).2
          · have : t' = b q 0 := by omega
            rw [← this]
            exact k9.2.2.2.2
        have y2 := (sfL_gl h1 lb k9.2.1 (by omega) y)
        by_cases c : t' < t
        · have w := h6 _ _ _ t k4 a1 c
          exact ⟨by have := w.1; omega, fun j j0 j1 => sfL_eq lt lb k9.2.1 (by have := w.1; omega) (by omega) (w.2.trans y.symm) j j0 (by omega)⟩
        · by_cases c2 : t' = t
          · subst c2
            by_cases c3 : i ≤ i'
            · exact absurd ⟨by omega, by rw [y2.2 i (by omega) c3]; exact a5⟩ hn
            · exact ⟨by omega, fun j j0 j1 => (y2.2 j j0 (by omega)).symm⟩
          · have w := hW t' (by omega) (by omega) k9.1
            have := y2.1.2.1
            exact absurd ⟨by have := w.1; omega, by rw [y2.2 i (by omega) (by have := w.1; omega)]; exact w.2⟩ hn
  obtain ⟨v, ⟨v0, v6⟩, v1, v2⟩ := mq_meet (sf_7 h1 h2 hz lt pC) (sf_7 h1 h2 hz lb qC) P7 Q7 (sf_meet lt.1.1 lb.1.1 pC qC X Y) hP hQ
  rcases hV v v0 v6 v2 t i t1.1.1 tu a2 (hA v v0 v6 v1) a5 with (c | ⟨c, d⟩) | ⟨w, w1, w2, w3, w4⟩
  · have e1 : 1 ≤ e := by
      by_cases k : e = 0
      · subst k
        rw [lb.1.1] at c
        have : sfE z 0 = 0 := rfl
        omega
      · have := lb.1.2; omega
    have r := lb.2 e e1 (by omega)
    have w := hW (b e 0) c (by omega) r.1.2.2.1
    exact hn ⟨by have := w.1; omega, by rw [r.2 i (by omega) (by have := w.1; omega)]; exact w.2⟩
  · have r := lb.2 e (by omega) (by omega)
    rw [← c] at r
    exact hn ⟨d, by rw [r.2 i (by omega) d]; exact a5⟩
  · exact w4 (hW w w1 w2 w3)
/-- a candidate that a majority has voted for has all that is held -/
theorem sf_all (h1 : sfH1 gl gn ge ld z) (h2 : sfH2 gl gn ge ld K) (h3 : sfH3 gl gn ld ak K) (h6 : sfH6 gl ge ld K) (hz : set7 z)
    (lb : sfL gl gn ge ld z b e (u - 1)) (qC : sfC b e q) {Q : Int} (Q7 : set7 Q) (hQ : mqZ (b q 2) (b q 3) Q)
    (hV : ∀ v, 0 ≤ v → v ≤ 6 → hsZ Q v → sfVP gl ge ld ak u (u + 1) v (b e 0) e) : ∀ t i m, K t i m → t < u → i ≤ e ∧ b i 0 = t := by
  have H : ∀ (T : Nat) (t i m : Int), t < T → K t i m → t < u → i ≤ e ∧ b i 0 = t := by
    intro T
    induction T with
    | zero => intro t i m h k; have := (h1 t (h3 _ _ _ k).1.1).1.1; omega
    | succ T ih =>
      intro t i m h k hu
      have G : ∀ (N : Nat) (i m : Int), m < N → K t i m → i ≤ e ∧ b i 0 = t := by
        intro N
        induction N with
        | zero => intro i m h k; have := (h3 _ _ _ k).1; unfold sfH3a at this; omega
        | succ N ih2 =>
          intro i m h' k
          refine sf_lc h1 h2 h3 h6 hz (h3 _ _ _ k).1 (h3 _ _ _ k).2 lb hu qC Q7 hQ hV (by omega) (fun w w1 w2 w3 => h6 _ _ _ _ k w3 w1) (fun t' i' m' k' c => ?_)
          by_cases d : t' < t
          · exact ih t' i' m' (by omega) k' (by omega)
          · have e : t' = t := by omega
            subst e
            exact ih2 i' m' (by omega) k'
      exact G (m.toNat + 1) i m (by omega) k
  exact fun t i m k hu => H (t.toNat + 1) t i m (by omega) k hu
/-- what is held newly is in the log of each later leader -/
theorem sf_new (h1 : sfH1 gl gn ge ld z) (h2 : sfH2 gl gn ge ld K) (h3 : sfH3 gl gn ld ak K) (h4 : sfH4 gl ge ld ak vo) (h6 : sfH6 gl ge ld K) (hz : set7 z)
    (ha : sfH3a gl gn ld t i m) (hb : sfH3b gl ak t i m) : ∀ u, ld u ≠ -1 → t < u → sfCn gl ge t i u := by
  have H : ∀ (T : Nat) (u : Int), u < T → ld u ≠ -1 → t < u → sfCn gl ge t i u := by
    intro T
    induction T with
    | zero => intro u h k; have := (h1 u k).1.1; omega
    | succ T ih =>
      intro u h hu tu
      obtain ⟨q, Q, qC, Q7, hQ, hV⟩ := h4 u hu
      exact sf_lc h1 h2 h3 h6 hz ha hb (sf_elt h1 hu) tu qC Q7 hQ (fun v v0 v6 v1 => (hV v v0 v6 v1).2) (Int.le_refl u) (fun w w1 w2 w3 => ih w (by omega) w3 w1) (fun t' i' m' k' c => h6 _ _ _ _ k' hu (by omega))
  exact fun u hu tu => H (u.toNat + 1) u (by omega) hu tu
/-- a term has one leader -/
theorem sf_one (h1 : sfH1 gl gn ge ld z) (h2 : sfH2 gl gn ge ld K) (h3 : sfH3 gl gn ld ak K) (h4 : sfH4 gl ge ld ak vo) (h6 : sfH6 gl ge ld K) (hz : set7 z)
    (lb : sfL gl gn ge ld z b e (u - 1)) (qC : sfC b e q) {Q n : Int} (Q7 : set7 Q) (hQ : mqZ (b q 2) (b q 3) Q)
    (hV : ∀ v, 0 ≤ v → v ≤ 6 → hsZ Q v → vo u v = n ∧ sfVP gl ge ld ak u (u + 1) v (b e 0) e) (hu : ld u ≠ -1) : ld u = n := by
  have A := sf_all h1 h2 h3 h6 hz lb qC Q7 hQ (fun v v0 v6 v1 => (hV v v0 v6 v1).2)
  obtain ⟨p, P, pC, P7, hP, hW⟩ := h4 u hu
  have la := sf_elt h1 hu
  have X : p = 0 ∨ ∃ p', sfC (gl u) (p - 1) p' ∧ sfS (gl u p' 2) (gl u p' 3) (gl u p 2) (gl u p 3) ∧ p' ≤ e ∧ ∀ j, 0 ≤ j → j ≤ p' → b j = gl u j := by
    by_cases p0 : p = 0
    · exact Or.inl p0
    · have p1 : 1 ≤ p := by have := pC.1.1; omega
      obtain ⟨-, p', k1, k2, k3⟩ := sf_cov h1 h2 la pC p1
      refine Or.inr ⟨p', k1, k2, ?_⟩
      rcases k3 with rfl | ⟨t', i', m', k4, k5, k6, k7, k8⟩
      · exact ⟨lb.1.2, fun j j0 j1 => by rw [show j = 0 by omega, lb.1.1, la.1.1]⟩
      · have k9 := (h3 _ _ _ k4).1
        have s1 := (la.2 p p1 pC.1.2.1).1
        have y := A _ _ _ k4 (by omega)
        have w := h6 _ _ _ _ k4 hu (by omega)
        exact ⟨by omega, fun j j0 j1 => sfL_eq lb la k9.2.1 y.1 w.1 (y.2.trans w.2.symm) j j0 (by omega)⟩
  have Y : q = 0 ∨ ∃ q', sfC b (q - 1) q' ∧ sfS (b q' 2) (b q' 3) (b q 2) (b q 3) ∧ q' ≤ ge u ∧ ∀ j, 0 ≤ j → j ≤ q' → gl u j = b j := by
    by_cases p0 : q = 0
    · exact Or.inl p0
    · have p1 : 1 ≤ q := by have := qC.1.1; omega
      obtain ⟨-, p', k1, k2, k3⟩ := sf_cov h1 h2 lb qC p1
      refine Or.inr ⟨p', k1, k2, ?_⟩
      rcases k3 with rfl | ⟨t', i', m', k4, k5, k6, k7, k8⟩
      · exact ⟨la.1.2, fun j j0 j1 => by rw [show j = 0 by omega, lb.1.1, la.1.1]⟩
      · have k9 := (h3 _ _ _ k4).1
        have s1 := (lb.2 q p1 qC.1.2.1).1
        have y := A _ _ _ k4 (by omega)
        have w := h6 _ _ _ _ k4 hu (by omega)
        exact ⟨by have := w.1; omega, fun j j0 j1 => sfL_eq la lb k9.2.1 w.1 y.1 (w.2.trans y.2.symm) j j0 (by omega)⟩
  obtain ⟨v, ⟨v0, v6⟩, v1, v2⟩ := mq_meet (sf_7 h1 h2 hz la pC) (sf_7 h1 h2 hz lb qC) P7 Q7 (sf_meet la.1.1 lb.1.1 pC qC X Y) hP hQ
  rw [← (hW v v0 v6 v1).1, ← (hV v v0 v6 v2).1]
end Sf
