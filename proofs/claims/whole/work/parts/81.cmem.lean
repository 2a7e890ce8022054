/-! the class's memory, by the row and what else lies there -/
def ndA (w : Nat) (n : Int) (p : Nat) : Nat := w + 11 + 8 * n.toNat + p
def rdA (w : Nat) (i : Int) : Nat := w + 711 + i.toNat
def pk (f : qN) (p : Int) : Int := 65536 * f p + 16384 * f (p + 1) + 128 * f (p + 2) + f (p + 3)
def ndC (f : qN) (n : Int) (p : Nat) (k g : Int) : Int :=
  if p = 0 then (if k = 0 then n else if k = 1 then f 0 else if k = 2 then f 1 else if k = 3 then onS (f 2) else if k = 5 then f 8 else if k = 7 then f 3 else if k = 8 then f 9 else if k = 10 then f 10 else if k = 11 then (if f 0 = 1 then onS (f 11) else g) else if k = 12 then f 12 else if k = 16 then f 13 else if k = 17 then f 14 else g)
  else if p = 1 then (if 0 ≤ k ∧ k < f 8 ∧ k < 48 then pk f (52 + 4 * k) else g)
  else if p = 2 then (if k = 0 then f 4 else if k = 1 then f 5 else if k = 2 then f 6 else if k = 3 then f 7 else g)
  else if p = 3 then (if 0 ≤ k ∧ k < 8 then f (23 + k) else g)
  else if p = 4 then (if 0 ≤ k ∧ k < 8 then f (15 + k) else g)
  else if f 3 = 2 ∧ 0 ≤ k ∧ k < 7 then (if p = 5 then f (31 + k) else if p = 6 then f (38 + k) else f (45 + k)) else g
def wlC (S : qN) (k g : Int) : Int := if k = 3 then S 11133 else if k = 6 then S 11135 else if k = 8 then S 11134 else if k = 9 then hcnt S else if k = 12 then S 11131 else if k = 13 then S 11132 else if k = 14 then S 11136 else if k = 15 then S 11137 else g
def heC (S : qN) (k g : Int) : Int := if 1 ≤ k ∧ k ≤ 999 then (if S (6028 + 4 * k) = 0 then 0 else pk S (6028 + 4 * k)) else g
def rdC (S : qN) (i k g : Int) : Int :=
  if i < S 11135 then (if k = 0 then S (11028 + 6 * i + 4) else if k = 1 then S (11028 + 6 * i) else if k = 2 then S (11028 + 6 * i + 1) else if k = 3 then S (11028 + 6 * i + 2) else if k = 4 then S (11028 + 6 * i + 3) else if k = 5 then S (11028 + 6 * i + 5) else g) else g
/-- the NODES that have led a term, as bits, by the one that did -/
def ldV (x : Int) : Int := if x = 0 then 0 else 2 ^ (x - 1).toNat
def mkC (w : Nat) (S : qN) (g : qI) : qI := fun a k =>
  if w + 11 ≤ a ∧ a < w + 67 then ndC (nd S (((a - w - 11) / 8 : Nat) : Int)) (((a - w - 11) / 8 : Nat) : Int) ((a - w - 11) % 8) k (g a k)
  else if w + 711 ≤ a ∧ a < w + 727 then rdC S ((a - w - 711 : Nat) : Int) k (g a k)
  else if a = w then wlC S k (g a k)
  else if a = w + 8 then heC S k (g a k)
  else if a = w + 9 then (if 0 ≤ k ∧ k ≤ 999 then ldV (S (10028 + k)) else g a k)
  else if a = w + 10 then (if 0 ≤ k ∧ k ≤ 6 then S (11124 + k) else g a k)
  else g a k
section Mk
variable {w p : Nat} {S S' : qN} {g g' : qI} {n i k v : Int}
theorem mkC_N (hn : 0 ≤ n ∧ n ≤ 6) (hp : p < 8) : mkC w S g (ndA w n p) k = ndC (nd S n) n p k (g (ndA w n p) k) := by
  have h1 : (ndA w n p - w - 11) / 8 = n.toNat := by unfold ndA; omega
  have h2 : (ndA w n p - w - 11) % 8 = p := by unfold ndA; omega
  have h3 : w + 11 ≤ ndA w n p ∧ ndA w n p < w + 67 := by unfold ndA; omega
  have h4 : ((n.toNat : Nat) : Int) = n := by omega
  unfold mkC
  rw [if_pos h3, h1, h2, h4]
theorem mkC_R (hi : 0 ≤ i ∧ i < 16) : mkC w S g (rdA w i) k = rdC S i k (g (rdA w i) k) := by
  have h1 : rdA w i - w - 711 = i.toNat := by unfold rdA; omega
  have h4 : ((i.toNat : Nat) : Int) = i := by omega
  unfold mkC
  rw [if_neg (by unfold rdA; omega), if_pos (by unfold rdA; omega), h1, h4]
theorem mkC_w : mkC w S g w k = wlC S k (g w k) := by
  unfold mkC
  rw [if_neg (by omega), if_neg (by omega), if_pos rfl]
theorem mkC_8 : mkC w S g (w + 8) k = heC S k (g (w + 8) k) := by
  unfold mkC
  rw [if_neg (by omega), if_neg (by omega), if_neg (by omega), if_pos rfl]
theorem mkC_9 : mkC w S g (w + 9) k = if 0 ≤ k ∧ k ≤ 999 then ldV (S (10028 + k)) else g (w + 9) k := by
  unfold mkC
  rw [if_neg (by omega), if_neg (by omega), if_neg (by omega), if_neg (by omega), if_pos rfl]
theorem mkC_10 : mkC w S g (w + 10) k = if 0 ≤ k ∧ k ≤ 6 then S (11124 + k) else g (w + 10) k := by
  unfold mkC
  rw [if_neg (by omega), if_neg (by omega), if_neg (by omega), if_neg (by omega), if_neg (by omega), if_pos rfl]
/-- what is not told by the row -/
def offW (w a : Nat) : Prop := a < w ∨ (w < a ∧ a < w + 8) ∨ (w + 67 ≤ a ∧ a < w + 711) ∨ w + 727 ≤ a
theorem mkC_o {a : Nat} (h : offW w a) : mkC w S g a k = g a k := by
  unfold offW at h
  unfold mkC
  rw [if_neg (by omega), if_neg (by omega), if_neg (by omega), if_neg (by omega), if_neg (by omega), if_neg (by omega)]
theorem mk_cases {P : Nat → Prop} (hN : ∀ n p, 0 ≤ n → n ≤ 6 → p < 8 → P (ndA w n p)) (hR : ∀ i, 0 ≤ i → i < 16 → P (rdA w i)) (h0 : P w) (h8 : P (w + 8)) (h9 : P (w + 9)) (h10 : P (w + 10)) (ho : ∀ a, offW w a → P a) (a : Nat) : P a := by
  by_cases h1 : w + 11 ≤ a ∧ a < w + 67
  · have e : a = ndA w (((a - w - 11) / 8 : Nat) : Int) ((a - w - 11) % 8) := by unfold ndA; omega
    rw [e]
    exact hN _ _ (by omega) (by omega) (by omega)
  · by_cases h2 : w + 711 ≤ a ∧ a < w + 727
    · have e : a = rdA w ((a - w - 711 : Nat) : Int) := by unfold rdA; omega
      rw [e]
      exact hR _ (by omega) (by omega)
    · by_cases h3 : a = w
      · rw [h3]; exact h0
      · by_cases h4 : a = w + 8
        · rw [h4]; exact h8
        · by_cases h5 : a = w + 9
          · rw [h5]; exact h9
          · by_cases h6 : a = w + 10
            · rw [h6]; exact h10
            · exact ho a (by unfold offW; omega)
theorem ndC_g {f : qN} {x : Int} : ndC f n p k (ndC f n p k x) = ndC f n p k x := by
  unfold ndC
  grind (splits := 60)
theorem mkC_id : mkC w S (mkC w S g) = mkC w S g := by
  funext a k
  refine mk_cases (w := w) (P := fun a => mkC w S (mkC w S g) a k = mkC w S g a k) ?_ ?_ ?_ ?_ ?_ ?_ ?_ a
  · intro n p h1 h2 h3
    rw [mkC_N ⟨h1, h2⟩ h3, mkC_N ⟨h1, h2⟩ h3, ndC_g]
  · intro i h1 h2
    rw [mkC_R ⟨h1, h2⟩, mkC_R ⟨h1, h2⟩]
    unfold rdC; grind
  · rw [mkC_w, mkC_w]; unfold wlC; grind
  · rw [mkC_8, mkC_8]; unfold heC; grind
  · rw [mkC_9, mkC_9]; grind
  · rw [mkC_10, mkC_10]; grind
  · intro a h
    rw [mkC_o h]
/-- two rows and two memories give one memory -/
theorem mkC_eq (hN : ∀ n p k, 0 ≤ n → n ≤ 6 → p < 8 → ndC (nd S' n) n p k (g' (ndA w n p) k) = ndC (nd S n) n p k (g (ndA w n p) k)) (hR : ∀ i k, 0 ≤ i → i < 16 → rdC S' i k (g' (rdA w i) k) = rdC S i k (g (rdA w i) k))
    (h0 : ∀ k, wlC S' k (g' w k) = wlC S k (g w k)) (h8 : ∀ k, heC S' k (g' (w + 8) k) = heC S k (g (w + 8) k)) (h9 : ∀ k, (if 0 ≤ k ∧ k ≤ 999 then ldV (S' (10028 + k)) else g' (w + 9) k) = if 0 ≤ k ∧ k ≤ 999 then ldV (S (10028 + k)) else g (w + 9) k)
    (h10 : ∀ k, (if 0 ≤ k ∧ k ≤ 6 then S' (11124 + k) else g' (w + 10) k) = if 0 ≤ k ∧ k ≤ 6 then S (11124 + k) else g (w + 10) k) (ho : ∀ a k, offW w a → g' a k = g a k) : mkC w S' g' = mkC w S g := by
  funext a k
  refine mk_cases (w := w) (P := fun a => mkC w S' g' a k = mkC w S g a k) ?_ ?_ ?_ ?_ ?_ ?_ ?_ a
  · intro n p h1 h2 h3
    rw [mkC_N ⟨h1, h2⟩ h3, mkC_N ⟨h1, h2⟩ h3, hN _ _ _ h1 h2 h3]
  · intro i h1 h2
    rw [mkC_R ⟨h1, h2⟩, mkC_R ⟨h1, h2⟩, hR _ _ h1 h2]
  · rw [mkC_w, mkC_w, h0]
  · rw [mkC_8, mkC_8, h8]
  · rw [mkC_9, mkC_9, h9]
  · rw [mkC_10, mkC_10, h10]
  · intro a h
    rw [mkC_o h, mkC_o h, ho _ _ h]
theorem nd_c {S S' : qN} {n : Int} (h : ∀ e, 0 ≤ e → e < 244 → nd S' n e = nd S n e) {p : Nat} {x : Int} : ndC (nd S' n) n p k x = ndC (nd S n) n p k x := by
  unfold ndC pk
  rw [h 0 (by omega) (by omega), h 1 (by omega) (by omega), h 2 (by omega) (by omega), h 8 (by omega) (by omega), h 3 (by omega) (by omega), h 9 (by omega) (by omega), h 10 (by omega) (by omega), h 11 (by omega) (by omega), h 12 (by omega) (by omega), h 13 (by omega) (by omega), h 14 (by omega) (by omega), h 4 (by omega) (by omega), h 5 (by omega) (by omega), h 6 (by omega) (by omega), h 7 (by omega) (by omega)]
  by_cases h1 : 0 ≤ k ∧ k < nd S n 8 ∧ k < 48
  · rw [h (52 + 4 * k) (by omega) (by omega), h (52 + 4 * k + 1) (by omega) (by omega), h (52 + 4 * k + 2) (by omega) (by omega), h (52 + 4 * k + 3) (by omega) (by omega)]
    by_cases h2 : 0 ≤ k ∧ k < 8
    · rw [h (23 + k) (by omega) (by omega), h (15 + k) (by omega) (by omega), h (31 + k) (by omega) (by omega), h (38 + k) (by omega) (by omega), h (45 + k) (by omega) (by omega)]
    · simp [h2, show ¬ (0 ≤ k ∧ k < 7) by omega]
  · by_cases h2 : 0 ≤ k ∧ k < 8
    · rw [h (23 + k) (by omega) (by omega), h (15 + k) (by omega) (by omega), h (31 + k) (by omega) (by omega), h (38 + k) (by omega) (by omega), h (45 + k) (by omega) (by omega)]
      simp [h1]
    · simp [h1, h2, show ¬ (0 ≤ k ∧ k < 7) by omega]
/-- a row whose cells below 1708 and behind 6028 are the same gives the same memory -/
theorem mkC_cg (h1 : ∀ j, 0 ≤ j → j < 1708 → S' j = S j) (h2 : ∀ j, 6028 ≤ j → j < 11138 → S' j = S j) : mkC w S' g = mkC w S g := by
  refine mkC_eq ?_ ?_ ?_ ?_ ?_ ?_ (fun _ _ _ => rfl)
  · intro n p k a b _
    exact nd_c (fun e e0 e1 => h1 _ (by omega) (by omega))
  · intro i k a b
    unfold rdC
    rw [h2 11135 (by omega) (by omega), h2 (11028 + 6 * i + 4) (by omega) (by omega), h2 (11028 + 6 * i) (by omega) (by omega), h2 (11028 + 6 * i + 1) (by omega) (by omega), h2 (11028 + 6 * i + 2) (by omega) (by omega), h2 (11028 + 6 * i + 3) (by omega) (by omega), h2 (11028 + 6 * i + 5) (by omega) (by omega)]
  · intro k
    unfold wlC
    rw [h2 11133 (by omega) (by omega), h2 11135 (by omega) (by omega), h2 11134 (by omega) (by omega), h2 11131 (by omega) (by omega), h2 11132 (by omega) (by omega), h2 11136 (by omega) (by omega), h2 11137 (by omega) (by omega), hcnt_c (fun j a b => h2 j (by omega) (by omega))]
  · intro k
    unfold heC pk
    by_cases h : 1 ≤ k ∧ k ≤ 999
    · rw [h2 (6028 + 4 * k) (by omega) (by omega), h2 (6028 + 4 * k + 1) (by omega) (by omega), h2 (6028 + 4 * k + 2) (by omega) (by omega), h2 (6028 + 4 * k + 3) (by omega) (by omega)]
    · rw [if_neg h, if_neg h]
  · intro k
    by_cases h : 0 ≤ k ∧ k ≤ 999
    · rw [h2 (10028 + k) (by omega) (by omega)]
    · rw [if_neg h, if_neg h]
  · intro k
    by_cases h : 0 ≤ k ∧ k ≤ 6
    · rw [h2 (11124 + k) (by omega) (by omega)]
    · rw [if_neg h, if_neg h]
end Mk
