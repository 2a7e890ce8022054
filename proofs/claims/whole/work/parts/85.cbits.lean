/-! entries in one number: bits -/
theorem nI_I (n : Nat) : nI n = Int32.ofInt (n : Int) := i32_ofNat_Int n
theorem shr_I {e i : Int} (h : 0 ≤ e ∧ e < 2147483648) (k : Nat) (hs : ((Int32.ofInt i &&& 31).toBitVec.smod 32).toNat = k) : Int32.ofInt e >>> (Int32.ofInt i &&& 31) = Int32.ofInt (e / ((2 ^ k : Nat) : Int)) := by
  have e0 : e = ((e.toNat : Nat) : Int) := by omega
  rw [e0, ← nI_I, pk_shrN (by omega) _ k hs, nI_I]
  congr 1
theorem shl_I {e i : Int} (k : Nat) (h : 0 ≤ e ∧ e * ((2 ^ k : Nat) : Int) < 4294967296) (hs : ((Int32.ofInt i &&& 31).toBitVec.smod 32).toNat = k) : Int32.ofInt e <<< (Int32.ofInt i &&& 31) = Int32.ofInt (e * ((2 ^ k : Nat) : Int)) := by
  have e0 : e = ((e.toNat : Nat) : Int) := by omega
  have h2 : e.toNat * 2 ^ k < 2 ^ 32 := by
    have := h.2
    rw [e0, ← Int.natCast_mul] at this
    omega
  rw [e0, ← nI_I, pk_shlN _ k hs h2, nI_I]
  congr 1
theorem and_I {e m : Int} (k : Nat) (h : 0 ≤ e ∧ e < 4294967296) (hm : (Int32.ofInt m).toBitVec.toNat = 2 ^ k - 1) : Int32.ofInt e &&& Int32.ofInt m = Int32.ofInt (e % ((2 ^ k : Nat) : Int)) := by
  have e0 : e = ((e.toNat : Nat) : Int) := by omega
  rw [e0, ← nI_I, pk_andN (by omega) k hm, nI_I]
  congr 1
theorem or_I {x y : Int} (k : Nat) (hx : 0 ≤ x) (hy : 0 ≤ y ∧ y < ((2 ^ k : Nat) : Int)) : Int32.ofInt (((2 ^ k : Nat) : Int) * x) ||| Int32.ofInt y = Int32.ofInt (((2 ^ k : Nat) : Int) * x + y) := by
  have e0 : x = ((x.toNat : Nat) : Int) := by omega
  have e1 : y = ((y.toNat : Nat) : Int) := by omega
  have h2 : y.toNat < 2 ^ k := by omega
  have key : ∀ a b : Nat, nI a ||| nI b = nI (a ||| b) := fun a b => by
    unfold nI
    rw [← Int32.toBitVec_inj]
    simp [BitVec.ofNat_or]
  rw [e0, e1, ← Int.natCast_mul, ← Int.natCast_add, ← nI_I, ← nI_I, ← nI_I, key, Nat.two_pow_add_eq_or_of_lt h2]
def enO (x y z u : Int32) : Int32 := (((x <<< (Int32.ofInt 16 &&& 31)) ||| (y <<< (Int32.ofInt 14 &&& 31))) ||| (z <<< (Int32.ofInt 7 &&& 31))) ||| u
def tmO (x : Int32) : Int32 := x >>> (Int32.ofInt 16 &&& 31)
def kdO (x : Int32) : Int32 := (x >>> (Int32.ofInt 14 &&& 31)) &&& Int32.ofInt 3
def fsO (x : Int32) : Int32 := (x >>> (Int32.ofInt 7 &&& 31)) &&& Int32.ofInt 127
def scO (x : Int32) : Int32 := x &&& Int32.ofInt 127
def ushO (x : Int32) (k : Int) : Int32 := (x.toUInt32 >>> ((Int32.ofInt k).toUInt32 &&& Int32.toUInt32 31)).toInt32
def bc1 (x : Int32) : Int32 := x - (ushO x 1 &&& Int32.ofInt 1431655765)
def bc2 (x : Int32) : Int32 := (x &&& Int32.ofInt 858993459) + (ushO x 2 &&& Int32.ofInt 858993459)
def bc3 (x : Int32) : Int32 := (x + ushO x 4) &&& Int32.ofInt 252645135
def bc4 (x : Int32) : Int32 := x + ushO x 8
def bc5 (x : Int32) : Int32 := x + ushO x 16
def bcO (x : Int32) : Int32 := bc5 (bc4 (bc3 (bc2 (bc1 x)))) &&& Int32.ofInt 63
theorem bc_lt : ∀ b : Nat, b < 128 → bcO (Int32.ofInt (b : Int)) = Int32.ofInt (bitsZ (b : Int)) := by
  unfold bcO bc5 bc4 bc3 bc2 bc1 ushO bitsZ bitsI b1
  decide +kernel
theorem bc_I {a : Int} (h : set7 a) : bcO (Int32.ofInt a) = Int32.ofInt (bitsZ a) := by
  obtain ⟨h1, h2⟩ := h
  have := bc_lt a.toNat (by omega)
  rwa [Int.toNat_of_nonneg h1] at this
/-- an entry's four numbers -/
def pkv (t k a b : Int) : Int := 65536 * t + 16384 * k + 128 * a + b
def pkR (t k a b : Int) : Prop := (0 ≤ t ∧ t ≤ 999) ∧ (0 ≤ k ∧ k ≤ 3) ∧ (0 ≤ a ∧ a ≤ 127) ∧ (0 ≤ b ∧ b ≤ 127)
theorem pk_v {f : qN} {p : Int} : pk f p = pkv (f p) (f (p + 1)) (f (p + 2)) (f (p + 3)) := nrfl rfl
theorem pkv_rng {t k a b : Int} (h : pkR t k a b) : 0 ≤ pkv t k a b ∧ pkv t k a b ≤ 65535999 := by unfold pkv; unfold pkR at h; omega
theorem enO_I {t k a b : Int} (h : pkR t k a b) : enO (Int32.ofInt t) (Int32.ofInt k) (Int32.ofInt a) (Int32.ofInt b) = Int32.ofInt (pkv t k a b) := by
  unfold pkR at h
  unfold enO
  rw [shl_I (i := 16) 16 (by omega) (by decide), shl_I (i := 14) 14 (by omega) (by decide), shl_I (i := 7) 7 (by omega) (by decide)]
  have h1 := or_I (x := t) (y := k * ((2 ^ 14 : Nat) : Int)) 16 (by omega) (by omega)
  rw [Int.mul_comm t, h1]
  have h2 := or_I (x := 4 * t + k) (y := a * ((2 ^ 7 : Nat) : Int)) 14 (by omega) (by omega)
  rw [show ((2 ^ 16 : Nat) : Int) * t + k * ((2 ^ 14 : Nat) : Int) = ((2 ^ 14 : Nat) : Int) * (4 * t + k) by omega, h2]
  have h3 := or_I (x := 512 * t + 128 * k + a) (y := b) 7 (by omega) (by omega)
  rw [show ((2 ^ 14 : Nat) : Int) * (4 * t + k) + a * ((2 ^ 7 : Nat) : Int) = ((2 ^ 7 : Nat) : Int) * (512 * t + 128 * k + a) by omega, h3]
  congr 1
  unfold pkv; omega
theorem tmO_I {t k a b : Int} (h : pkR t k a b) : tmO (Int32.ofInt (pkv t k a b)) = Int32.ofInt t := by
  have := pkv_rng h
  unfold tmO
  rw [shr_I (i := 16) (by omega) 16 (by decide)]
  congr 1
  unfold pkR at h; unfold pkv; omega
theorem kdO_I {t k a b : Int} (h : pkR t k a b) : kdO (Int32.ofInt (pkv t k a b)) = Int32.ofInt k := by
  have := pkv_rng h
  unfold kdO
  rw [shr_I (i := 14) (by omega) 14 (by decide), and_I (m := 3) 2 (by omega) (by decide)]
  congr 1
  unfold pkR at h; unfold pkv; omega
theorem fsO_I {t k a b : Int} (h : pkR t k a b) : fsO (Int32.ofInt (pkv t k a b)) = Int32.ofInt a := by
  have := pkv_rng h
  unfold fsO
  rw [shr_I (i := 7) (by omega) 7 (by decide), and_I (m := 127) 7 (by omega) (by decide)]
  congr 1
  unfold pkR at h; unfold pkv; omega
theorem scO_I {t k a b : Int} (h : pkR t k a b) : scO (Int32.ofInt (pkv t k a b)) = Int32.ofInt b := by
  have := pkv_rng h
  unfold scO
  rw [and_I (m := 127) 7 (by omega) (by decide)]
  congr 1
  unfold pkR at h; unfold pkv; omega
theorem pkR_E {f : qN} {p : Int} (h : EOK f p) : pkR (f p) (f (p + 1)) (f (p + 2)) (f (p + 3)) := by
  obtain ⟨h1, h2, h3, h4, -⟩ := h
  exact ⟨by omega, by omega, h3, h4⟩
theorem pk_inj {t k a b t' k' a' b' : Int} (h : pkR t k a b) (h' : pkR t' k' a' b') : pkv t k a b = pkv t' k' a' b' ↔ t = t' ∧ k = k' ∧ a = a' ∧ b = b' := by
  unfold pkR at h h'
  unfold pkv
  omega
