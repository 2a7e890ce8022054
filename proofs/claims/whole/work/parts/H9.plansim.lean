/-! plans: what lies behind the acts does not matter -/
def QE (m : Int) (Q Q' : Int → Int) : Prop := ∀ k, 0 ≤ k → k < m → Q k = Q' k
def SE (x y : PS) : Prop := (x.1 = y.1 ∧ x.2.1 = y.2.1 ∧ x.2.2.1 = y.2.2.1) ∧ QE x.2.2.1 x.2.2.2.1 y.2.2.2.1 ∧ x.2.2.2.2 = y.2.2.2.2
section Se
variable {f : Int → Int} {n : Int}
theorem rpF_QE {e : Int} : ∀ (j : Nat) (i : Int) (Q Q' : Int → Int), (0 < e ∨ j = 0) → e ≤ i → QE i Q Q' → QE (i + j) (rpF e j i Q) (rpF e j i Q')
  | 0, i, Q, Q', _, _, h => by rw [rpF, rpF, show i + ((0 : Nat) : Int) = i by omega]; exact h
  | j + 1, i, Q, Q', he, hi, h => by
    rw [rpF, rpF, show i + ((j + 1 : Nat) : Int) = (i + 1) + j by omega]
    refine rpF_QE j (i + 1) _ _ (by omega) (by omega) (fun k k0 k1 => ?_)
    by_cases q : k = i
    · rw [q, u1_same, u1_same]; exact h (i - e) (by omega) (by omega)
    · rw [u1_ne q, u1_ne q]; exact h k k0 (by omega)
theorem SE_re {p m a t fr : Int} {Q Q' : Int → Int} {z : List (Int × Int × Int)} (hm : 0 ≤ m ∧ m ≤ 200) (ha : 0 ≤ a ∧ a ≤ m) (ht : 1 ≤ t ∧ t ≤ 9) (h : QE m Q Q') : SE (reF p m Q a t fr z) (reF p m Q' a t fr z) := by
  have mb := mulB (x := m - a) (t := t) (by omega) ht
  unfold reF
  by_cases q : 200 < a + (m - a) * t
  · rw [if_pos q, if_pos q]
    exact ⟨⟨rfl, rfl, rfl⟩, fun _ _ _ => rfl, rfl⟩
  · rw [if_neg q, if_neg q]
    have z0 : m - a = 0 → (m - a) * t = 0 := fun e => by rw [e, Int.zero_mul]
    have := rpF_QE (e := m - a) (a + (m - a) * t - m).toNat m Q Q' (by omega) (by omega) h
    rw [show m + (((a + (m - a) * t - m).toNat : Nat) : Int) = a + (m - a) * t by omega] at this
    exact ⟨⟨rfl, rfl, rfl⟩, this, rfl⟩
theorem siF_QE {p m st : Int} {Q Q' : Int → Int} (h : QE m Q Q') : ((siF f n p m Q st).1 = (siF f n p m Q' st).1 ∧ (siF f n p m Q st).2.1 = (siF f n p m Q' st).2.1 ∧ (siF f n p m Q st).2.2.1 = (siF f n p m Q' st).2.2.1) ∧ QE (siF f n p m Q st).2.2.1 (siF f n p m Q st).2.2.2 (siF f n p m Q' st).2.2.2 := by
  unfold siF
  by_cases h0 : dcF (sgF f n p) < 0
  · rw [if_pos h0, if_pos h0]; exact ⟨⟨rfl, rfl, rfl⟩, h⟩
  · rw [if_neg h0, if_neg h0]
    by_cases h1 : (dgF f n (sgF f n p) (dcF (sgF f n p)).toNat 0 (p + 1) (sgF f n p)).1 ≠ 0
    · rw [if_pos h1, if_pos h1]; exact ⟨⟨rfl, rfl, rfl⟩, h⟩
    · rw [if_neg h1, if_neg h1]
      by_cases h2 : 200 ≤ m
      · rw [if_pos h2, if_pos h2]; exact ⟨⟨rfl, rfl, rfl⟩, h⟩
      · rw [if_neg h2, if_neg h2]
        refine ⟨⟨rfl, rfl, rfl⟩, fun k k0 k1 => ?_⟩
        have k1' : k < m + 1 := k1
        show u1 Q m _ k = u1 Q' m _ k
        by_cases q : k = m
        · rw [q, u1_same, u1_same]
        · rw [u1_ne q, u1_ne q]; exact h k k0 (by omega)
theorem SE_stp (hf : ∀ j, 0 ≤ j → j < 260 → 0 ≤ f j ∧ f j ≤ 255) (hn : 0 ≤ n ∧ n ≤ 240) {x y : PS} (hv : PV n x) (h : SE x y) : SE (stp f n x) (stp f n y) := by
  obtain ⟨t0, p, m, Q, z⟩ := x
  obtain ⟨t1, p1, m1, Q', z1⟩ := y
  obtain ⟨⟨e1, e2, e3⟩, e4, e5⟩ := h
  dsimp only at e1 e2 e3 e4 e5
  subst e1 e2 e3 e5
  unfold stp
  by_cases q0 : t0 = 0
  · subst q0
    obtain ⟨hp, hm, -, hz⟩ := hv (Or.inl (by show 0 < 2; omega))
    dsimp only at hp hm hz
    rw [if_pos rfl, if_pos rfl]
    dsimp only
    have tp := tp_rng (f := f) (n := n) hp.2
    have tr := tm_rng (f := f) (n := n) (p := p)
    unfold stB
    by_cases c40 : sgF f n (tpF f n p) = 40
    · rw [if_pos c40, if_pos c40]
      by_cases z2 : z.length = 2
      · rw [if_pos z2, if_pos z2]; exact ⟨⟨rfl, rfl, rfl⟩, fun _ _ _ => rfl, rfl⟩
      · rw [if_neg z2, if_neg z2]; exact ⟨⟨rfl, rfl, rfl⟩, e4, rfl⟩
    · rw [if_neg c40, if_neg c40]
      have so := siF_ok hf hn.2 (p := tpF f n p) (m := m) (st := p) (Q := Q) (by omega) hm (by omega)
      obtain ⟨⟨s1, s2, s3⟩, s4⟩ := siF_QE (f := f) (n := n) (p := tpF f n p) (st := p) e4
      rw [← s1, ← s2, ← s3]
      by_cases nf : (siF f n (tpF f n p) m Q p).1 ≠ 0
      · rw [if_pos nf, if_pos nf]; exact ⟨⟨rfl, rfl, rfl⟩, fun _ _ _ => rfl, rfl⟩
      · rw [if_neg nf, if_neg nf]
        have b := so.2.1 (Classical.byContradiction nf)
        exact SE_re (by omega) (by omega) tr s4
  · rw [if_neg q0, if_neg q0]
    by_cases q1 : t0 = 1
    · subst q1
      obtain ⟨hp, hm, -, hz⟩ := hv (Or.inl (by show 1 < 2; omega))
      dsimp only at hp hm hz
      rw [if_pos rfl, if_pos rfl]
      dsimp only
      cases z with
      | nil =>
        show SE (if p < n then pB p m Q [] else pD m Q) (if p < n then pB p m Q' [] else pD m Q')
        by_cases q : p < n
        · rw [if_pos q, if_pos q]; exact ⟨⟨rfl, rfl, rfl⟩, e4, rfl⟩
        · rw [if_neg q, if_neg q]; exact ⟨⟨rfl, rfl, rfl⟩, e4, rfl⟩
      | cons b z =>
        obtain ⟨a, t, fr⟩ := b
        have hb := hz (a, t, fr) List.mem_cons_self
        dsimp only at hb
        show SE (if sgF f n p = 41 then reF (p + 1) m Q a t fr z else pB p m Q ((a, t, fr) :: z)) (if sgF f n p = 41 then reF (p + 1) m Q' a t fr z else pB p m Q' ((a, t, fr) :: z))
        by_cases q : sgF f n p = 41
        · rw [if_pos q, if_pos q]; exact SE_re hm (by omega) (by omega) e4
        · rw [if_neg q, if_neg q]; exact ⟨⟨rfl, rfl, rfl⟩, e4, rfl⟩
    · rw [if_neg q1, if_neg q1]
      exact ⟨⟨rfl, rfl, rfl⟩, e4, rfl⟩
theorem SE_it (hf : ∀ j, 0 ≤ j → j < 260 → 0 ≤ f j ∧ f j ≤ 255) (hn : 0 ≤ n ∧ n ≤ 240) : ∀ (k : Nat) {x y : PS}, PV n x → SE x y → SE (itp f n k x) (itp f n k y)
  | 0, _, _, _, h => h
  | k + 1, _, _, hv, h => SE_it hf hn k (PV_stp hf hn hv) (SE_stp hf hn hv h)
/-- starts that differ only in what lies behind the acts end alike -/
theorem SE_R (hf : ∀ j, 0 ≤ j → j < 260 → 0 ≤ f j ∧ f j ≤ 255) (hn : 0 ≤ n ∧ n ≤ 240) {x y t u : PS} (hv : PV n x) (h : SE x y) (ht : Rch f n x t) (hu : Rch f n y u) (pt : PT t) (pu : PT u) : SE t u := by
  obtain ⟨k, rfl⟩ := ht
  have hs := SE_it hf hn k hv h
  have pt2 : PT (itp f n k y) := by
    unfold PT at pt ⊢
    rw [← hs.1.1]; exact pt
  rw [Rch_u hu ⟨k, rfl⟩ pu pt2]
  exact hs
end Se
