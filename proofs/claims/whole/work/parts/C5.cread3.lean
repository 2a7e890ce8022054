/-! the class's world: a READ is opened -/
def rdX (w : Nat) (S : qN) (g : qI) : qN := fun j => if j = 11135 then S 11135 + 1 else if j = 11028 + 6 * S 11135 then g (rdA w (S 11135)) 1 else if j = 11028 + 6 * S 11135 + 1 then g (rdA w (S 11135)) 2 else if j = 11028 + 6 * S 11135 + 2 then g (rdA w (S 11135)) 3 else if j = 11028 + 6 * S 11135 + 3 then g (rdA w (S 11135)) 4 else if j = 11028 + 6 * S 11135 + 4 then g (rdA w (S 11135)) 0 else if j = 11028 + 6 * S 11135 + 5 then g (rdA w (S 11135)) 5 else S j
section Rd
variable {w : Nat} {S : qN} {g : qI} {n x k e v i : Int}
theorem rdX_off {j : Int} (h : j < 11028 + 6 * S 11135 ∨ 11028 + 6 * S 11135 + 6 ≤ j) (h5 : j ≠ 11135) : rdX w S g j = S j := by
  unfold rdX
  rw [if_neg h5, if_neg (by omega), if_neg (by omega), if_neg (by omega), if_neg (by omega), if_neg (by omega), if_neg (by omega)]
theorem up_rc (hm : 0 ≤ S 11135 ∧ S 11135 < 16) : up (mkC w S g) w 6 (S 11135 + 1) = mkC w (rdX w S g) g := by
  have off : ∀ j, j < 11028 + 6 * S 11135 ∨ 11028 + 6 * S 11135 + 6 ≤ j → j ≠ 11135 → rdX w S g j = S j := fun j h h5 => rdX_off h h5
  have e5 : rdX w S g 11135 = S 11135 + 1 := by unfold rdX; rw [if_pos rfl]
  refine up_eq (fun a k' => ?_)
  refine mk_cases (w := w) (P := fun a => mkC w (rdX w S g) g a k' = if a = w ∧ k' = 6 then S 11135 + 1 else mkC w S g a k') ?_ ?_ ?_ ?_ ?_ ?_ ?_ a
  · intro m q h1 h2 h3
    rw [mkC_N ⟨h1, h2⟩ h3, mkC_N ⟨h1, h2⟩ h3, if_neg (by unfold ndA; omega), nd_c (S := S) (S' := rdX w S g) (fun e e0 e1 => by unfold nd; exact off _ (by omega) (by omega))]
  · intro j h1 h2
    rw [mkC_R ⟨h1, h2⟩, mkC_R ⟨h1, h2⟩, if_neg (by unfold rdA; omega)]
    unfold rdC
    rw [e5]
    by_cases q : j = S 11135
    · subst q
      rw [if_pos (show S 11135 < S 11135 + 1 by omega), if_neg (show ¬ S 11135 < S 11135 by omega)]
      unfold rdX
      grind
    · by_cases q2 : j < S 11135
      · rw [if_pos (by omega), if_pos q2, off _ (by omega) (by omega), off _ (by omega) (by omega), off _ (by omega) (by omega), off _ (by omega) (by omega), off _ (by omega) (by omega), off _ (by omega) (by omega)]
      · rw [if_neg (by omega), if_neg q2]
  · rw [mkC_w, mkC_w]
    unfold wlC
    rw [e5, off 11133 (by omega) (by omega), off 11134 (by omega) (by omega), off 11131 (by omega) (by omega), off 11132 (by omega) (by omega), off 11136 (by omega) (by omega), off 11137 (by omega) (by omega), hcnt_c (fun j a b => off j (by omega) (by omega))]
    by_cases q : k' = 6
    · subst q; simp
    · rw [if_neg (show ¬ (w = w ∧ k' = 6) from fun z => q z.2)]
      rw [if_neg q, if_neg q]
  · rw [mkC_8, mkC_8, if_neg (by omega)]
    unfold heC pk
    by_cases h : 1 ≤ k' ∧ k' ≤ 999
    · rw [off (6028 + 4 * k') (by omega) (by omega), off (6028 + 4 * k' + 1) (by omega) (by omega), off (6028 + 4 * k' + 2) (by omega) (by omega), off (6028 + 4 * k' + 3) (by omega) (by omega)]
    · rw [if_neg h, if_neg h]
  · rw [mkC_9, mkC_9, if_neg (show ¬ (w + 9 = w ∧ k' = 6) by omega)]
    by_cases h : 0 ≤ k' ∧ k' ≤ 999
    · rw [off (10028 + k') (by omega) (by omega)]
    · rw [if_neg h, if_neg h]
  · rw [mkC_10, mkC_10, if_neg (show ¬ (w + 10 = w ∧ k' = 6) by omega)]
    by_cases h : 0 ≤ k' ∧ k' ≤ 6
    · rw [if_pos h, if_pos h, off (11124 + k') (by omega) (by omega)]
    · rw [if_neg h, if_neg h]
  · intro a h
    rw [mkC_o h, mkC_o h, if_neg (by unfold offW at h; omega)]
theorem up_rk (hi : 0 ≤ i ∧ i < 16) (h : i < S 11135) (hk : (k = 1 ∧ e = 0) ∨ (k = 2 ∧ e = 1) ∨ (k = 3 ∧ e = 2) ∨ (k = 4 ∧ e = 3)) : up (mkC w S g) (rdA w i) k v = mkC w (u1 S (11028 + 6 * i + e) v) g := by
  refine up_W (Or.inr (Or.inr (Or.inr (Or.inr ⟨i, hi, rfl⟩)))) (fun j a b => u1_ne (by omega)) (fun k' => ?_) (fun k' => ?_) (fun k' => ?_) (fun k' => ?_) (fun j k' a b => ?_)
  · rw [if_neg (by unfold rdA; omega)]
    unfold wlC
    rw [hcnt_u1 (by omega), u1_ne (by omega), u1_ne (by omega), u1_ne (by omega), u1_ne (by omega), u1_ne (by omega), u1_ne (by omega), u1_ne (by omega)]
  · rw [if_neg (by unfold rdA; omega), he_u1 (by omega)]
  · rw [if_neg (show ¬ (w + 9 = rdA w i ∧ k' = k) by unfold rdA; omega)]
    by_cases h1 : 0 ≤ k' ∧ k' ≤ 999
    · rw [u1_ne (by omega)]
    · rw [if_neg h1, if_neg h1]
  · rw [if_neg (show ¬ (w + 10 = rdA w i ∧ k' = k) by unfold rdA; omega)]
    by_cases h1 : 0 ≤ k' ∧ k' ≤ 6
    · rw [u1_ne (by omega)]
    · rw [if_neg h1, if_neg h1]
  · by_cases hj : j = i
    · subst hj
      unfold rdC
      rw [u1_ne (show (11135 : Int) ≠ 11028 + 6 * j + e by omega), if_pos h]
      rcases hk with ⟨rfl, rfl⟩ | ⟨rfl, rfl⟩ | ⟨rfl, rfl⟩ | ⟨rfl, rfl⟩ <;> simp only [u1] <;> grind (splits := 60)
    · rw [if_neg (by unfold rdA; omega)]
      unfold rdC
      rw [u1_ne (show (11135 : Int) ≠ 11028 + 6 * i + e by omega), u1_ne (show 11028 + 6 * j + 4 ≠ 11028 + 6 * i + e by omega), u1_ne (show 11028 + 6 * j ≠ 11028 + 6 * i + e by omega), u1_ne (show 11028 + 6 * j + 1 ≠ 11028 + 6 * i + e by omega), u1_ne (show 11028 + 6 * j + 2 ≠ 11028 + 6 * i + e by omega), u1_ne (show 11028 + 6 * j + 3 ≠ 11028 + 6 * i + e by omega), u1_ne (show 11028 + 6 * j + 5 ≠ 11028 + 6 * i + e by omega)]
theorem rd6_X {k w' h : Int} (hm : 0 ≤ S 11135 ∧ S 11135 < 16) : u1 (u1 (u1 (u1 (u1 (u1 (rdX w S g) (11028 + 6 * S 11135 + 4) 0) (11028 + 6 * S 11135) n) (11028 + 6 * S 11135 + 1) k) (11028 + 6 * S 11135 + 2) w') (11028 + 6 * S 11135 + 3) h) (11028 + 6 * S 11135 + 5) 0 = rd6 S (S 11135) n k w' h := by
  funext j
  unfold rd6 u1 rdX
  grind
end Rd
