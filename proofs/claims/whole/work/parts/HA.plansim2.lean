/-! plans: alike ends give alike answers -/
section Ex
variable {L : qL} {S : qN} {t u : PS}
theorem exF_c {Q Q' : Int → Int} : ∀ (j : Nat) (k : Int) (S : qN) (n : Int), (∀ i, k ≤ i → i < k + j → Q i = Q' i) → exF L Q j k S n = exF L Q' j k S n
  | 0, _, _, _, _ => rfl
  | j + 1, k, S, n, h => by
    rw [exF, exF, h k (by omega) (by omega)]
    exact exF_c j (k + 1) _ _ (fun i a b => h i (by omega) (by omega))
theorem pl_SE (h : SE t u) : plA L S t = plA L S u ∧ plS L S t = plS L S u := by
  obtain ⟨⟨e1, e2, e3⟩, e4, -⟩ := h
  have e : exF L t.2.2.2.1 t.2.2.1.toNat 0 S 0 = exF L u.2.2.2.1 u.2.2.1.toNat 0 S 0 := by
    rw [← e3]
    exact exF_c _ 0 S 0 (fun i a b => e4 i a (by omega))
  unfold plA plS
  rw [e, e1, e2]
  exact ⟨rfl, rfl⟩
end Ex
