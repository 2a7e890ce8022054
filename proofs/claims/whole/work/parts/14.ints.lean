/-! whole numbers for memory -/
abbrev qS : Type := Nat × (Nat → Nat × Nat) × (Nat → Int → Nat)
abbrev qI : Type := Nat → Int → Int
def mkH (s : qS) (m : qI) : qH := (s.1, s.2.1, fun a k => Int32.ofInt (m a k), s.2.2)
def kd (s : qS) (a : Nat) : Nat × Nat := s.2.1 a
def rf (s : qS) (a : Nat) (k : Int) : Nat := s.2.2 a k
def up (m : qI) (a : Nat) (k v : Int) : qI := fun a' k' => if a' = a ∧ k' = k then v else m a' k'
def cp (m : qI) (a0 : Nat) (sp : Int) (a : Nat) (dp n : Int) : qI := fun a' k' => if a' = a ∧ dp ≤ k' ∧ k' < dp + n then m a0 (sp + (k' - dp)) else m a' k'
def upR (s : qS) (a : Nat) (k : Int) (v : Nat) : qS := (s.1, s.2.1, fun a' k' => if a' = a ∧ k' = k then v else s.2.2 a' k')
theorem hK_mk {s : qS} {m : qI} {a : Nat} : hK (mkH s m) a = kd s a := nrfl rfl
theorem hR_mk {s : qS} {m : qI} {a : Nat} {k : Int} : hR (mkH s m) a k = rf s a k := nrfl rfl
theorem hM_mk {s : qS} {m : qI} {a : Nat} {k : Int} : hM (mkH s m) a k = Int32.ofInt (m a k) := nrfl rfl
theorem set_mk {s : qS} {m : qI} {a : Nat} {k v : Int} : setM (mkH s m) a k (Int32.ofInt v) = mkH s (up m a k v) := by
  unfold setM mkH up
  congr 3
  funext a' k'
  split <;> rfl
theorem setR_mk {s : qS} {m : qI} {a v : Nat} {k : Int} : setR (mkH s m) a k v = mkH (upR s a k v) m := nrfl rfl
theorem cp_mk {s : qS} {m : qI} {a0 a : Nat} {sp dp n : Int} : cpyM (mkH s m) a0 sp a dp n = mkH s (cp m a0 sp a dp n) := by
  unfold cpyM mkH cp
  congr 3
  funext a' k'
  split <;> rfl
theorem mk_all (h : qH) : ∃ (s : qS) (m : qI), h = mkH s m := by
  refine ⟨(h.1, h.2.1, h.2.2.2), fun a k => (h.2.2.1 a k).toInt, ?_⟩
  obtain ⟨a, b, c, d⟩ := h
  unfold mkH
  congr 3
  funext a' k'
  simp
theorem up_at {m : qI} {a a' : Nat} {k k' v : Int} : up m a k v a' k' = if a' = a ∧ k' = k then v else m a' k' := nrfl rfl
theorem up_same {m : qI} {a : Nat} {k v : Int} : up m a k v a k = v := by simp [up]
theorem up_ne {m : qI} {a a' : Nat} {k k' v : Int} (h : a' ≠ a ∨ k' ≠ k) : up m a k v a' k' = m a' k' := by
  unfold up
  rw [if_neg]
  rintro ⟨h1, h2⟩
  rcases h with h | h <;> contradiction
theorem kd_upR {s : qS} {a b v : Nat} {k : Int} : kd (upR s a k v) b = kd s b := nrfl rfl
theorem rf_upR {s : qS} {a b v : Nat} {k j : Int} : rf (upR s a k v) b j = if b = a ∧ j = k then v else rf s b j := nrfl rfl
theorem I_add {a b : Int} : Int32.ofInt a + Int32.ofInt b = Int32.ofInt (a + b) := (Int32.ofInt_add a b).symm
theorem I_sub {a b : Int} : Int32.ofInt a - Int32.ofInt b = Int32.ofInt (a - b) := (Int32.ofInt_sub a b).symm
theorem I_mul {a b : Int} : Int32.ofInt a * Int32.ofInt b = Int32.ofInt (a * b) := (Int32.ofInt_mul a b).symm
theorem I_val {a : Int} (h1 : -2147483648 ≤ a) (h2 : a ≤ 2147483647) : (Int32.ofInt a).toInt = a := by
  rw [Int32.toInt_ofInt]
  exact Int.bmod_eq_of_le (by simp [Int32.size]; omega) (by simp [Int32.size]; omega)
theorem I_all (x : Int32) : ∃ a : Int, -2147483648 ≤ a ∧ a ≤ 2147483647 ∧ x = Int32.ofInt a := by
  refine ⟨x.toInt, ?_, ?_, by simp⟩
  · have := Int32.le_toInt x; simpa using this
  · have := Int32.toInt_lt x; omega
theorem I_inj {a b : Int} (h1 : -2147483648 ≤ a) (h2 : a ≤ 2147483647) (h3 : -2147483648 ≤ b) (h4 : b ≤ 2147483647) : Int32.ofInt a = Int32.ofInt b ↔ a = b := by
  constructor
  · intro h
    have := congrArg Int32.toInt h
    rwa [I_val h1 h2, I_val h3 h4] at this
  · intro h; rw [h]
theorem inB_I {a : Int} {n : Nat} (h0 : 0 ≤ a) (h1 : a < n) (h2 : a ≤ 2147483647) : inB (Int32.ofInt a) n := ⟨by rw [I_val (by omega) h2]; exact h0, by rw [I_val (by omega) h2]; exact h1⟩
