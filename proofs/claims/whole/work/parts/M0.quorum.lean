/-! safety: two majorities of one set of members meet -/
theorem bit_sum : ∀ a : Nat, a < 128 → bitsZ (a : Int) = (if (((Int32.ofInt (a : Int) >>> (Int32.ofInt 0 &&& 31)) &&& Int32.ofInt 1).toInt = 1) then 1 else 0) + (if (((Int32.ofInt (a : Int) >>> (Int32.ofInt 1 &&& 31)) &&& Int32.ofInt 1).toInt = 1) then 1 else 0) + (if (((Int32.ofInt (a : Int) >>> (Int32.ofInt 2 &&& 31)) &&& Int32.ofInt 1).toInt = 1) then 1 else 0) + (if (((Int32.ofInt (a : Int) >>> (Int32.ofInt 3 &&& 31)) &&& Int32.ofInt 1).toInt = 1) then 1 else 0) + (if (((Int32.ofInt (a : Int) >>> (Int32.ofInt 4 &&& 31)) &&& Int32.ofInt 1).toInt = 1) then 1 else 0) + (if (((Int32.ofInt (a : Int) >>> (Int32.ofInt 5 &&& 31)) &&& Int32.ofInt 1).toInt = 1) then 1 else 0) + (if (((Int32.ofInt (a : Int) >>> (Int32.ofInt 6 &&& 31)) &&& Int32.ofInt 1).toInt = 1) then 1 else 0) := by
  unfold bitsZ
  decide +kernel
noncomputable def btZ (a k : Int) : Int := @ite _ (hsZ a k) (Classical.propDecidable _) 1 0
theorem btZ_01 {a k : Int} : btZ a k = 0 ∨ btZ a k = 1 := by unfold btZ; split <;> simp
theorem btZ_1 {a k : Int} : btZ a k = 1 ↔ hsZ a k := by unfold btZ; split <;> simp_all
theorem bits_sum {a : Int} (h : set7 a) : bitsZ a = btZ a 0 + btZ a 1 + btZ a 2 + btZ a 3 + btZ a 4 + btZ a 5 + btZ a 6 := by
  obtain ⟨h0, h1⟩ := h
  have e := bit_sum a.toNat (by omega)
  rw [show ((a.toNat : Nat) : Int) = a by omega] at e
  rw [e]
  unfold btZ hsZ hasP
  congr
theorem hs_N : ∀ k : Nat, k < 7 → ∀ a : Nat, a < 128 → ((((Int32.ofInt (a : Int) >>> (Int32.ofInt (k : Int) &&& 31)) &&& Int32.ofInt 1).toInt = 1) ↔ a / 2 ^ k % 2 = 1) := by
  decide +kernel
theorem and_N : ∀ a : Nat, a < 128 → ∀ b : Nat, b < 128 → (Int32.ofInt (a : Int) &&& Int32.ofInt (b : Int)).toInt = ((a &&& b : Nat) : Int) := by
  decide +kernel
theorem hs_and {a b k : Int} (ha : set7 a) (hb : set7 b) (hk : 0 ≤ k ∧ k ≤ 6) : hsZ (andZ a b) k ↔ hsZ a k ∧ hsZ b k := by
  obtain ⟨a0, a1⟩ := ha
  obtain ⟨b0, b1⟩ := hb
  have e1 : a = ((a.toNat : Nat) : Int) := by omega
  have e2 : b = ((b.toNat : Nat) : Int) := by omega
  have e3 : k = ((k.toNat : Nat) : Int) := by omega
  have hk7 : k.toNat < 7 := by omega
  have ha7 : a.toNat < 128 := by omega
  have hb7 : b.toNat < 128 := by omega
  have hl : a.toNat &&& b.toNat < 128 := Nat.lt_of_le_of_lt Nat.and_le_left ha7
  have ez : andZ a b = ((a.toNat &&& b.toNat : Nat) : Int) := by
    unfold andZ
    rw [e1, e2]
    exact and_N _ ha7 _ hb7
  have q := hs_N k.toNat hk7 (a.toNat &&& b.toNat) hl
  have qa := hs_N k.toNat hk7 a.toNat ha7
  have qb := hs_N k.toNat hk7 b.toNat hb7
  rw [← e3, ← ez] at q
  rw [← e3, ← e1] at qa
  rw [← e3, ← e2] at qb
  have t := Nat.testBit_and a.toNat b.toNat k.toNat
  rw [Nat.testBit_eq_decide_div_mod_eq, Nat.testBit_eq_decide_div_mod_eq, Nat.testBit_eq_decide_div_mod_eq] at t
  have t' : (a.toNat &&& b.toNat) / 2 ^ k.toNat % 2 = 1 ↔ (a.toNat / 2 ^ k.toNat % 2 = 1 ∧ b.toNat / 2 ^ k.toNat % 2 = 1) := by
    have t2 : decide ((a.toNat &&& b.toNat) / 2 ^ k.toNat % 2 = 1) = true ↔ (decide (a.toNat / 2 ^ k.toNat % 2 = 1) && decide (b.toNat / 2 ^ k.toNat % 2 = 1)) = true := by rw [t]
    simpa using t2
  exact q.trans (t'.trans ⟨fun z => ⟨qa.mpr z.1, qb.mpr z.2⟩, fun z => ⟨qa.mp z.1, qb.mp z.2⟩⟩)
theorem maj_meet {o x y : Int} (ho : set7 o) (hx : set7 x) (hy : set7 y) (h1 : bitsZ o < 2 * bitsZ (andZ x o)) (h2 : bitsZ o < 2 * bitsZ (andZ y o)) : ∃ k, (0 ≤ k ∧ k ≤ 6) ∧ hsZ x k ∧ hsZ y k ∧ hsZ o k := by
  refine Classical.byContradiction (fun hn => ?_)
  have t : ∀ k, 0 ≤ k → k ≤ 6 → btZ (andZ x o) k + btZ (andZ y o) k ≤ btZ o k := fun k k0 k1 => by
    have a1 := btZ_1 (a := andZ x o) (k := k)
    have a2 := btZ_1 (a := andZ y o) (k := k)
    have a3 := btZ_1 (a := o) (k := k)
    rw [hs_and hx ho ⟨k0, k1⟩] at a1
    rw [hs_and hy ho ⟨k0, k1⟩] at a2
    have b1 := btZ_01 (a := andZ x o) (k := k)
    have b2 := btZ_01 (a := andZ y o) (k := k)
    have b3 := btZ_01 (a := o) (k := k)
    have n : ¬ (hsZ x k ∧ hsZ y k ∧ hsZ o k) := fun z => hn ⟨k, ⟨k0, k1⟩, z⟩
    by_cases c1 : btZ (andZ x o) k = 1
    · have q1 := a1.mp c1
      by_cases c2 : btZ (andZ y o) k = 1
      · exact absurd ⟨q1.1, (a2.mp c2).1, q1.2⟩ n
      · have := a3.mpr q1.2; omega
    · by_cases c2 : btZ (andZ y o) k = 1
      · have := a3.mpr (a2.mp c2).2; omega
      · omega
  rw [bits_sum ho, bits_sum (and_rng hx ho)] at h1
  rw [bits_sum ho, bits_sum (and_rng hy ho)] at h2
  have := t 0 (by omega) (by omega)
  have := t 1 (by omega) (by omega)
  have := t 2 (by omega) (by omega)
  have := t 3 (by omega) (by omega)
  have := t 4 (by omega) (by omega)
  have := t 5 (by omega) (by omega)
  have := t 6 (by omega) (by omega)
  omega
/-- most of a set of members, or of both of a joint one -/
noncomputable def mqZ (o n x : Int) : Prop := bitsZ o < 2 * bitsZ (andZ x o) ∧ (n = 0 ∨ bitsZ n < 2 * bitsZ (andZ x n))
theorem mostS_mq {S : qN} {n x : Int} : mostS S n x = mqZ (oldS S n) (newS S n) x := rfl
/-- two majorities meet when their sets are one, or follow each other by way of a joint one -/
theorem mq_meet {o n o' n' x y : Int} (ho : set7 o) (ho' : set7 o') (hx : set7 x) (hy : set7 y) (h : o = o' ∨ (n ≠ 0 ∧ n = o') ∨ (n' ≠ 0 ∧ n' = o)) (h1 : mqZ o n x) (h2 : mqZ o' n' y) : ∃ k, (0 ≤ k ∧ k ≤ 6) ∧ hsZ x k ∧ hsZ y k := by
  have f : ∀ m, set7 m → bitsZ m < 2 * bitsZ (andZ x m) → bitsZ m < 2 * bitsZ (andZ y m) → ∃ k, (0 ≤ k ∧ k ≤ 6) ∧ hsZ x k ∧ hsZ y k := fun m hm q1 q2 => by
    obtain ⟨k, k1, k2, k3, -⟩ := maj_meet hm hx hy q1 q2
    exact ⟨k, k1, k2, k3⟩
  rcases h with rfl | ⟨z, rfl⟩ | ⟨z, rfl⟩
  · exact f o ho h1.1 h2.1
  · exact f n ho' (h1.2.resolve_left z) h2.1
  · exact f n' ho h1.1 (h2.2.resolve_left z)
