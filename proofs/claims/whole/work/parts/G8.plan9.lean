/-! the class's reader of plans: readPlan; acts are acts -/
def AcV (q : Int) : Prop := ∃ a x y z, q = acK a x y z ∧ acP a x y z
def OV (m : Int) (Q : Int → Int) : Prop := ∀ k, 0 ≤ k → k < m → AcV (Q k)
section Av
variable {f : Int → Int} {n : Int}
theorem rpF_V {len : Int} : ∀ (j : Nat) (i : Int) (Q : Int → Int), (0 < len ∨ j = 0) → len ≤ i → OV i Q → OV (i + j) (rpF len j i Q)
  | 0, i, Q, _, _, h => by rw [rpF, show i + ((0 : Nat) : Int) = i by omega]; exact h
  | j + 1, i, Q, hl, hi, h => by
    rw [rpF, show i + ((j + 1 : Nat) : Int) = (i + 1) + j by omega]
    refine rpF_V j (i + 1) _ (by omega) (by omega) (fun k k0 k1 => ?_)
    by_cases q : k = i
    · rw [q, u1_same]; exact h (i - len) (by omega) (by omega)
    · rw [u1_ne q]; exact h k k0 (by omega)
theorem dgF_V {c : Int} (hf : ∀ j, 0 ≤ j → j < 260 → 0 ≤ f j ∧ f j ≤ 255) (hn : n ≤ 260) (hc : 0 ≤ c ∧ c ≤ 255) : ∀ (j : Nat) (i p a x y z : Int), 0 ≤ p → i + j ≤ 3 → 0 ≤ i → a = acK c x y z → acP c x y z → (i = 0 → x = 0 ∧ y = 0 ∧ z = 0) → (i = 1 → y = 0 ∧ z = 0) → (i = 2 → z = 0) → AcV (dgF f n c j i p a).2.2
  | 0, i, p, a, x, y, z, _, _, _, e, h, _, _, _ => by rw [dgF]; exact ⟨c, x, y, z, e, h⟩
  | j + 1, i, p, a, x, y, z, hp, hi, h0, e, h, z0, z1, z2 => by
    have sr := sgF_rng hf hn hp
    have mr := mdF_rng (c := c) (i := i)
    by_cases h1 : sgF f n p - 48 < 0 ∨ mdF c i < sgF f n p - 48
    · rw [dgF_1 h1]; exact ⟨c, x, y, z, e, h⟩
    · by_cases h2 : (i = 1 ∧ (c = 120 ∨ c = 106)) ∧ sgF f n p - 48 = a / 256 % 16
      · rw [dgF_2 h1 h2]; exact ⟨c, x, y, z, e, h⟩
      · rw [dgF_3 h1 h2]
        have hi3 : i = 0 ∨ i = 1 ∨ i = 2 := by omega
        unfold acP at h
        unfold acK at e
        rcases hi3 with rfl | rfl | rfl
        · obtain ⟨rfl, rfl, rfl⟩ := z0 rfl
          refine dgF_V hf hn hc j (0 + 1) (p + 1) _ (sgF f n p - 48) 0 0 (by omega) (by omega) (by omega) (by show a + (sgF f n p - 48) * 256 = _; unfold acK; omega) (by unfold acP; omega) (fun q => by omega) (fun _ => by omega) (fun q => by omega)
        · obtain ⟨rfl, rfl⟩ := z1 rfl
          refine dgF_V hf hn hc j (1 + 1) (p + 1) _ x (sgF f n p - 48) 0 (by omega) (by omega) (by omega) (by show a + (sgF f n p - 48) * 4096 = _; unfold acK; omega) (by unfold acP; omega) (fun q => by omega) (fun q => by omega) (fun _ => rfl)
        · have := z2 rfl
          subst this
          refine dgF_V hf hn hc j (2 + 1) (p + 1) _ x y (sgF f n p - 48) (by omega) (by omega) (by omega) (by show a + (sgF f n p - 48) * 65536 = _; unfold acK; omega) (by unfold acP; omega) (fun q => by omega) (fun q => by omega) (fun q => by omega)
/-- what the state's places and acts are -/
def PV (n : Int) (x : PS) : Prop := x.1 < 2 ∨ x.1 = 3 → (0 ≤ x.2.1 ∧ x.2.1 ≤ n) ∧ (0 ≤ x.2.2.1 ∧ x.2.2.1 ≤ 200) ∧ OV x.2.2.1 x.2.2.2.1 ∧ ∀ b ∈ x.2.2.2.2, 0 ≤ b.1 ∧ b.1 ≤ x.2.2.1 ∧ 1 ≤ b.2.1 ∧ b.2.1 ≤ 9 ∧ 0 ≤ b.2.2 ∧ b.2.2 ≤ n
theorem PV_re {p m a t fr : Int} {Q : Int → Int} {z : List (Int × Int × Int)} (hp : 0 ≤ p ∧ p ≤ n) (hm : 0 ≤ m ∧ m ≤ 200) (hv : OV m Q) (ha : 0 ≤ a ∧ a ≤ m) (ht : 1 ≤ t ∧ t ≤ 9) (hz : ∀ b ∈ z, 0 ≤ b.1 ∧ b.1 ≤ m ∧ 1 ≤ b.2.1 ∧ b.2.1 ≤ 9 ∧ 0 ≤ b.2.2 ∧ b.2.2 ≤ n) : PV n (reF p m Q a t fr z) := by
  have mb := mulB (x := m - a) (t := t) (by omega) ht
  unfold reF
  by_cases q : 200 < a + (m - a) * t
  · rw [if_pos q]
    intro h
    have h' : (2 : Nat) < 2 ∨ (2 : Nat) = 3 := h
    omega
  · rw [if_neg q]
    intro _
    have z0 : m - a = 0 → (m - a) * t = 0 := fun e => by rw [e, Int.zero_mul]
    have := rpF_V (len := m - a) (a + (m - a) * t - m).toNat m Q (by omega) (by omega) hv
    rw [show m + (((a + (m - a) * t - m).toNat : Nat) : Int) = a + (m - a) * t by omega] at this
    exact ⟨hp, by show 0 ≤ a + (m - a) * t ∧ a + (m - a) * t ≤ 200; omega, this, fun b hb => by
      have := hz b hb
      show 0 ≤ b.1 ∧ b.1 ≤ a + (m - a) * t ∧ _
      omega⟩
theorem PV_stp (hf : ∀ j, 0 ≤ j → j < 260 → 0 ≤ f j ∧ f j ≤ 255) (hn : 0 ≤ n ∧ n ≤ 240) {x : PS} (h : PV n x) : PV n (stp f n x) := by
  obtain ⟨t0, p, m, Q, z⟩ := x
  unfold stp
  by_cases e0 : t0 = 0
  · subst e0
    obtain ⟨hp, hm, hv, hz⟩ := h (Or.inl (by show 0 < 2; omega))
    dsimp only at hp hm hv hz
    rw [if_pos rfl]
    dsimp only
    have tp := tp_rng (f := f) (n := n) hp.2
    have tr := tm_rng (f := f) (n := n) (p := p)
    unfold stB
    by_cases c40 : sgF f n (tpF f n p) = 40
    · rw [if_pos c40]
      have pn : tpF f n p < n := by
        unfold sgF at c40
        split at c40 <;> omega
      by_cases z2 : z.length = 2
      · rw [if_pos z2]
        intro h
        have h' : (2 : Nat) < 2 ∨ (2 : Nat) = 3 := h
        omega
      · rw [if_neg z2]
        intro _
        refine ⟨by show 0 ≤ tpF f n p + 1 ∧ tpF f n p + 1 ≤ n; omega, hm, hv, fun b hb => ?_⟩
        rcases List.mem_cons.mp hb with rfl | hb
        · show 0 ≤ m ∧ m ≤ m ∧ 1 ≤ tmF f n p ∧ tmF f n p ≤ 9 ∧ 0 ≤ p ∧ p ≤ n
          omega
        · exact hz b hb
    · rw [if_neg c40]
      have so := siF_ok hf hn.2 (p := tpF f n p) (m := m) (st := p) (Q := Q) (by omega) hm (by omega)
      have sv : (siF f n (tpF f n p) m Q p).1 = 0 → OV (m + 1) (siF f n (tpF f n p) m Q p).2.2.2 := by
        intro h
        have sr1 := sgF_rng hf (by omega) (p := tpF f n p) (by omega) (n := n)
        have dr := dcF_rng (c := sgF f n (tpF f n p))
        unfold siF at h ⊢
        by_cases h0 : dcF (sgF f n (tpF f n p)) < 0
        · rw [if_pos h0] at h
          have h' : -1000 - tpF f n p = 0 := h
          omega
        · rw [if_neg h0] at h ⊢
          have c0 : 0 ≤ sgF f n (tpF f n p) := by
            refine Classical.byContradiction fun z => h0 ?_
            rw [show sgF f n (tpF f n p) = -1 by omega]
            decide
          have dv := dgF_V (c := sgF f n (tpF f n p)) hf (by omega) (by omega) (dcF (sgF f n (tpF f n p))).toNat 0 (tpF f n p + 1) (sgF f n (tpF f n p)) 0 0 0 (n := n) (by omega) (by omega) (by omega) (by unfold acK; omega) (by unfold acP; omega) (fun _ => ⟨rfl, rfl, rfl⟩) (fun q => by omega) (fun q => by omega)
          generalize dgF f n (sgF f n (tpF f n p)) (dcF (sgF f n (tpF f n p))).toNat 0 (tpF f n p + 1) (sgF f n (tpF f n p)) = D0 at *
          by_cases h1 : D0.1 ≠ 0
          · rw [if_pos h1] at h; exact absurd h h1
          · rw [if_neg h1] at h ⊢
            by_cases h2 : 200 ≤ m
            · rw [if_pos h2] at h
              have h' : -6000 - p = 0 := h
              omega
            · rw [if_neg h2]
              intro k k0 k1
              show AcV (u1 Q m D0.2.2 k)
              by_cases q : k = m
              · rw [q, u1_same]; exact dv
              · rw [u1_ne q]; exact hv k k0 (by omega)
      generalize siF f n (tpF f n p) m Q p = D0 at *
      obtain ⟨fa', p', m', Q'⟩ := D0
      dsimp only at so sv ⊢
      by_cases nf : fa' ≠ 0
      · rw [if_pos nf]
        intro h
        have h' : (2 : Nat) < 2 ∨ (2 : Nat) = 3 := h
        omega
      · have e0 : fa' = 0 := Classical.byContradiction nf
        rw [if_neg nf]
        have b1 := so.2.1 e0
        have sv := sv e0
        rw [← b1.2.2] at sv
        exact PV_re (by omega) (by omega) sv (by omega) tr (fun b hb => by have := hz b hb; omega)
  · rw [if_neg (show ¬ t0 = 0 from e0)]
    by_cases e1 : t0 = 1
    · subst e1
      obtain ⟨hp, hm, hv, hz⟩ := h (Or.inl (by show 1 < 2; omega))
      dsimp only at hp hm hv hz
      rw [if_pos rfl]
      dsimp only
      cases z with
      | nil =>
        show PV n (if p < n then pB p m Q [] else pD m Q)
        split
        · intro _; exact ⟨hp, hm, hv, hz⟩
        · intro _; exact ⟨by show 0 ≤ (0 : Int) ∧ (0 : Int) ≤ n; omega, hm, hv, fun b hb => absurd hb (by simp [pD])⟩
      | cons b z =>
        obtain ⟨a, t, fr⟩ := b
        show PV n (if sgF f n p = 41 then reF (p + 1) m Q a t fr z else pB p m Q ((a, t, fr) :: z))
        have hb := hz (a, t, fr) List.mem_cons_self
        dsimp only at hb
        split
        · rename_i c41
          have pn : p < n := by
            unfold sgF at c41
            split at c41 <;> omega
          exact PV_re (by omega) hm hv (by omega) (by omega) (fun b hb => hz b (List.mem_cons_of_mem _ hb))
        · intro _; exact ⟨hp, hm, hv, hz⟩
    · rw [if_neg (show ¬ t0 = 1 from e1)]
      exact h
theorem PV_R (hf : ∀ j, 0 ≤ j → j < 260 → 0 ≤ f j ∧ f j ≤ 255) (hn : 0 ≤ n ∧ n ≤ 240) {x y : PS} (h : PV n x) (hR : Rch f n x y) : PV n y := by
  obtain ⟨k, rfl⟩ := hR
  have key : ∀ (k : Nat) (x : PS), PV n x → PV n (itp f n k x) := by
    intro k
    induction k with
    | zero => intro x h; exact h
    | succ k ih => intro x h; exact ih _ (PV_stp hf hn h)
  exact key k x h
end Av
