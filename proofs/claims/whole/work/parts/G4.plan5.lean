/-! the class's reader of plans: acts and rounds -/
section Oc
variable {f : Int → Int} {n : Int}
theorem dgF_n {c : Int} (hf : ∀ j, 0 ≤ j → j < 260 → 0 ≤ f j ∧ f j ≤ 255) : ∀ (j : Nat) (i p a : Int), p ≤ n → (dgF f n c j i p a).1 = 0 → (dgF f n c j i p a).2.1 ≤ n
  | 0, i, p, a, hp, _ => by rw [dgF]; exact hp
  | j + 1, i, p, a, hp, h => by
    by_cases h1 : sgF f n p - 48 < 0 ∨ mdF c i < sgF f n p - 48
    · rw [dgF_1 h1] at h ⊢; exact hp
    · by_cases h2 : (i = 1 ∧ (c = 120 ∨ c = 106)) ∧ sgF f n p - 48 = a / 256 % 16
      · rw [dgF_2 h1 h2] at h ⊢; exact hp
      · rw [dgF_3 h1 h2] at h ⊢
        refine dgF_n hf j (i + 1) (p + 1) _ ?_ h
        unfold sgF at h1
        split at h1 <;> omega
theorem tm_rng {p : Int} : 1 ≤ tmF f n p ∧ tmF f n p ≤ 9 := by unfold tmF; split <;> omega
theorem tp_rng {p : Int} (hp : p ≤ n) : p ≤ tpF f n p ∧ tpF f n p ≤ n ∧ tpF f n p ≤ p + 1 := by
  unfold tpF
  split
  · rename_i h
    unfold sgF at h
    split at h <;> omega
  · omega
/-- what a single act gives -/
theorem siF_ok (hf : ∀ j, 0 ≤ j → j < 260 → 0 ≤ f j ∧ f j ≤ 255) (hn : n ≤ 240) {p m st : Int} {Q : Int → Int} (hp : 0 ≤ p ∧ p ≤ n) (hm : 0 ≤ m ∧ m ≤ 200) (hs : 0 ≤ st ∧ st ≤ 300) : ((siF f n p m Q st).1 ≠ 0 → -10000 ≤ (siF f n p m Q st).1 ∧ (siF f n p m Q st).1 < 0) ∧ ((siF f n p m Q st).1 = 0 → (p < (siF f n p m Q st).2.1 ∧ (siF f n p m Q st).2.1 ≤ n) ∧ m < 200 ∧ (siF f n p m Q st).2.2.1 = m + 1) ∧ (p ≤ n → p ≤ (siF f n p m Q st).2.1 ∧ (siF f n p m Q st).2.1 ≤ 250) ∧ (0 ≤ (siF f n p m Q st).2.2.1 ∧ (siF f n p m Q st).2.2.1 ≤ 200) := by
  have sr := sgF_rng (f := f) (n := n) hf (by omega) hp.1
  have dr := dcF_rng (c := sgF f n p)
  unfold siF
  by_cases h0 : dcF (sgF f n p) < 0
  · rw [if_pos h0]
    exact ⟨fun _ => by show -10000 ≤ -1000 - p ∧ -1000 - p < 0; omega, fun z => absurd z (by show ¬ (-1000 - p = 0); omega), fun _ => by show p ≤ p ∧ p ≤ 250; omega, hm⟩
  · rw [if_neg h0]
    have c0 : 0 ≤ sgF f n p := by
      refine Classical.byContradiction fun z => h0 ?_
      rw [show sgF f n p = -1 by omega]
      decide
    have pn : p < n := by
      unfold sgF at c0
      split at c0 <;> omega
    have rg := dgF_rng (f := f) (n := n) (c := sgF f n p) hf (by omega) (dcF (sgF f n p)).toNat 0 (p + 1) (sgF f n p) (by omega) (by omega) (by omega) ⟨c0, fun _ => by show sgF f n p < 256; omega, by omega⟩
    have nn := dgF_n (n := n) (c := sgF f n p) hf (dcF (sgF f n p)).toNat 0 (p + 1) (sgF f n p) (by omega)
    generalize dgF f n (sgF f n p) (dcF (sgF f n p)).toNat 0 (p + 1) (sgF f n p) = D0 at *
    by_cases h1 : D0.1 ≠ 0
    · rw [if_pos h1]
      exact ⟨fun _ => by show -10000 ≤ D0.1 ∧ D0.1 < 0; omega, fun z => absurd z h1, fun _ => by show p ≤ D0.2.1 ∧ D0.2.1 ≤ 250; omega, hm⟩
    · rw [if_neg h1]
      have nn := nn (by omega)
      by_cases h2 : 200 ≤ m
      · rw [if_pos h2]
        exact ⟨fun _ => by show -10000 ≤ -6000 - st ∧ -6000 - st < 0; omega, fun z => absurd z (by show ¬ (-6000 - st = 0); omega), fun _ => by show p ≤ D0.2.1 ∧ D0.2.1 ≤ 250; omega, hm⟩
      · rw [if_neg h2]
        exact ⟨fun z => absurd rfl z, fun _ => ⟨by show p < D0.2.1 ∧ D0.2.1 ≤ n; omega, by omega, rfl⟩, fun _ => by show p ≤ D0.2.1 ∧ D0.2.1 ≤ 250; omega, by show 0 ≤ m + 1 ∧ m + 1 ≤ 200; omega⟩
end Oc
