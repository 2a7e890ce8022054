/-! COMMIT grows, as the row sees it -/
noncomputable def gcS (n : Int) : Nat → Int → qN → qN
  | 0, _, S => S
  | j + 1, i, S => gcS n j (i + 1) (if hasE S n i then seS S n i else S)
noncomputable def groS (S : qN) (n w : Int) : qN := u1 (gcS n (w - nd S n 9).toNat (nd S n 9 + 1) S) (244 * n + 9) (max (nd (gcS n (w - nd S n 9).toNat (nd S n 9 + 1) S) n 9) w)
theorem hcF_set {S S' : qN} {i : Int} (h : ∀ k : Int, k ≠ i → S' (6028 + 4 * k) = S (6028 + 4 * k)) (h0 : S (6028 + 4 * i) = 0) (h1 : S' (6028 + 4 * i) ≠ 0) : ∀ j : Nat, hcF S' j = hcF S j + (if 0 ≤ i ∧ i < j then 1 else 0)
  | 0 => by unfold hcF; rw [if_neg (by omega)]; rfl
  | j + 1 => by
    unfold hcF
    rw [hcF_set h h0 h1 j]
    by_cases q : (j : Int) = i
    · subst q
      rw [if_neg (by omega), if_neg h1, if_pos h0, if_pos (by omega)]
    · rw [h j q]
      generalize (if S (6028 + 4 * (j : Int)) = 0 then (0 : Int) else 1) = z
      by_cases q2 : 0 ≤ i ∧ i < (j : Int)
      · rw [if_pos q2, if_pos (by omega)]; omega
      · rw [if_neg q2, if_neg (by omega)]; omega
theorem seS_held {S : qN} {n i k : Int} (he : eOk S (lpS S n i)) (hn : 0 ≤ n ∧ n ≤ 6) (hi : 1 ≤ i) (h0 : 0 ≤ k) (hk : k ≤ 999) : seS S n i (6028 + 4 * k) = if k = i ∧ S (6028 + 4 * i) = 0 then S (lpS S n i) else S (6028 + 4 * k) := by
  unfold seS
  by_cases h : S (6028 + 4 * i) = 0
  · rw [if_pos h]
    rw [u1_ne (by omega), u1_ne (by omega), u1_ne (by omega), u1_ne (by omega)]
    by_cases q : k = i
    · subst q; rw [u1_same, if_pos ⟨rfl, h⟩]
    · rw [u1_ne (by omega), if_neg (fun z => q z.1)]
      exact seK_ne he (by omega)
  · rw [if_neg h, show (if k = i ∧ S (6028 + 4 * i) = 0 then S (lpS S n i) else S (6028 + 4 * k)) = S (6028 + 4 * k) from if_neg (fun z => h z.2)]
    split
    · exact seK_ne he (by omega)
    · rw [u1_ne (by omega)]; exact seK_ne he (by omega)
theorem hcnt_se {S : qN} {n i : Int} (he : eOk S (lpS S n i)) (hn : 0 ≤ n ∧ n ≤ 6) (hi : 1 ≤ i ∧ i ≤ 999) (ht : S (lpS S n i) ≠ 0) : hcnt (seS S n i) = hcnt S + seN S i := by
  unfold hcnt seN
  by_cases h : S (6028 + 4 * i) = 0
  · have e : hcF (seS S n i) 1000 = hcF (fun j => if j = 6028 + 4 * i then S (lpS S n i) else S j) 1000 := by
      refine hcF_c 1000 (fun k k1 k2 => ?_)
      rw [seS_held he hn hi.1 k1 (by omega)]
      by_cases q : k = i
      · rw [if_pos ⟨q, h⟩, if_pos (by omega)]
      · rw [if_neg (fun z => q z.1), if_neg (by omega)]
    rw [e, hcF_set (S := S) (i := i) (fun k hk => by rw [if_neg (by omega)]) h (by simp; exact ht), if_pos (by omega), if_pos h]
  · rw [if_neg h, Int.add_zero]
    refine hcF_c 1000 (fun k k1 k2 => ?_)
    rw [seS_held he hn hi.1 k1 (by omega), if_neg (fun z => h z.2)]
theorem seR_x {r : qI} {n i : Int} (he : eOk (r 2199) (lpS (r 2199) n i)) (hn : 0 ≤ n ∧ n ≤ 6) (hi : 1 ≤ i ∧ i ≤ 999) (ht : r 2199 (lpS (r 2199) n i) ≠ 0) : Rx r (seR r n i) := by
  refine ⟨fun a a1 a2 a3 a4 a5 => ?_, fun k hk => ?_, ?_⟩
  · unfold seR; rw [uA_ne a5, uA_ne a1]
  · unfold seR; rw [uA_same]; split
    · exact u1_ne hk
    · rfl
  · rw [seR_now, hcnt_se he hn hi ht]
    unfold seR seN; rw [uA_same]; split
    · rw [u1_same]; omega
    · omega
section OKs
variable {R : Int} {S S' F : qN} {n to : Int} {L : qL}
theorem OK_smBr (h : smS S) {v : Int} : smS (u1 S 11136 v) := fun j hj => by rw [u1_ne hj]; exact h j hj
theorem OK_seK (h : OK R S) (hn : 0 ≤ n ∧ n ≤ 6) {i : Int} (h1 : nd S n 4 < i) (h2 : i ≤ nd S n 4 + nd S n 8) : OK R (seK S n (lpS S n i)) := by
  have e := OK_E h hn h1 h2
  unfold seK; split
  · rename_i q
    have := e.2.2.2.2 q
    have ha := e.2.2.1
    have hb := e.2.2.2.1
    exact OK_cell h hn (by omega) (by unfold cOKv; omega)
  · exact h
theorem OK_br (h : OK R S) {v : Int} : OK R (u1 S 11136 v) := by
  have g := OK_g h
  refine OK_out h (fun j hj => u1_ne (by omega)) (OK_smBr (OK_sm h)) ?_ (fun m m1 m2 => ?_) (u1_ne (by omega))
  · unfold GOK; rw [u1_ne (by omega), u1_ne (by omega), u1_ne (by omega), u1_ne (by omega), u1_ne (by omega), u1_ne (by omega)]; exact g
  · rw [u1_ne (by omega)] at m2
    have := g.2.2.1
    exact MOK_c (fun e e1 e2 _ => u1_ne (by omega)) (OK_m h m1 m2)
/-- an index is held -/
theorem OK_hold (h : OK R S) {i : Int} (hi : 1 ≤ i ∧ i ≤ 999) {t k a b : Int} (he : (1 ≤ t ∧ t ≤ 999) ∧ (0 ≤ k ∧ k ≤ 2) ∧ (0 ≤ a ∧ a ≤ 127) ∧ (0 ≤ b ∧ b ≤ 127) ∧ (k = 0 → a ≤ 7)) : OK R (u1 (u1 (u1 (u1 (u1 S (6028 + 4 * i) t) (6028 + 4 * i + 1) k) (6028 + 4 * i + 2) a) (6028 + 4 * i + 3) b) 11134 (max (S 11134) i)) := by
  have off : ∀ j, j < 6028 + 4 * i ∨ 6028 + 4 * i + 4 ≤ j → j ≠ 11134 → u1 (u1 (u1 (u1 (u1 S (6028 + 4 * i) t) (6028 + 4 * i + 1) k) (6028 + 4 * i + 2) a) (6028 + 4 * i + 3) b) 11134 (max (S 11134) i) j = S j := by
    intro j h1 h2
    rw [u1_ne (by omega), u1_ne (by omega), u1_ne (by omega), u1_ne (by omega), u1_ne (by omega)]
  have v0 : u1 (u1 (u1 (u1 (u1 S (6028 + 4 * i) t) (6028 + 4 * i + 1) k) (6028 + 4 * i + 2) a) (6028 + 4 * i + 3) b) 11134 (max (S 11134) i) (6028 + 4 * i) = t := by rw [u1_ne (by omega), u1_ne (by omega), u1_ne (by omega), u1_ne (by omega), u1_same]
  have v1 : u1 (u1 (u1 (u1 (u1 S (6028 + 4 * i) t) (6028 + 4 * i + 1) k) (6028 + 4 * i + 2) a) (6028 + 4 * i + 3) b) 11134 (max (S 11134) i) (6028 + 4 * i + 1) = k := by rw [u1_ne (by omega), u1_ne (by omega), u1_ne (by omega), u1_same]
  have v2 : u1 (u1 (u1 (u1 (u1 S (6028 + 4 * i) t) (6028 + 4 * i + 1) k) (6028 + 4 * i + 2) a) (6028 + 4 * i + 3) b) 11134 (max (S 11134) i) (6028 + 4 * i + 2) = a := by rw [u1_ne (by omega), u1_ne (by omega), u1_same]
  have v3 : u1 (u1 (u1 (u1 (u1 S (6028 + 4 * i) t) (6028 + 4 * i + 1) k) (6028 + 4 * i + 2) a) (6028 + 4 * i + 3) b) 11134 (max (S 11134) i) (6028 + 4 * i + 3) = b := by rw [u1_ne (by omega), u1_same]
  have v9 : u1 (u1 (u1 (u1 (u1 S (6028 + 4 * i) t) (6028 + 4 * i + 1) k) (6028 + 4 * i + 2) a) (6028 + 4 * i + 3) b) 11134 (max (S 11134) i) 11134 = max (S 11134) i := u1_same
  have sm : smS (u1 (u1 (u1 (u1 (u1 S (6028 + 4 * i) t) (6028 + 4 * i + 1) k) (6028 + 4 * i + 2) a) (6028 + 4 * i + 3) b) 11134 (max (S 11134) i)) := by
    have := (OK_g h).2.2.2.1
    exact smS_u1 (smS_u1 (smS_u1 (smS_u1 (smS_u1 (OK_sm h) (by omega) (by omega)) (by omega) (by omega)) (by omega) (by omega)) (by omega) (by omega)) (by omega) (by omega)
  revert off v0 v1 v2 v3 v9 sm
  generalize (u1 (u1 (u1 (u1 (u1 S (6028 + 4 * i) t) (6028 + 4 * i + 1) k) (6028 + 4 * i + 2) a) (6028 + 4 * i + 3) b) 11134 (max (S 11134) i)) = X
  intro off v0 v1 v2 v3 v9 sm
  obtain ⟨⟨a1, a2⟩, b1, c1, d1, e, f1, f2, f3⟩ := h
  obtain ⟨g1, g2, g3, g4, g5, g6⟩ := e
  refine ⟨⟨sm, a2⟩, fun m m1 m2 => NOK_c (fun e e1 e2 => off _ (by omega) (by omega)) (b1 m m1 m2), fun m m1 m2 => ?_, fun m m1 m2 => ?_, ?_, fun m m1 m2 => ?_, fun m m1 m2 => ?_, fun m m1 m2 => ?_⟩
  · rw [off _ (by omega) (by omega)] at m2
    exact MOK_c (fun e e1 e2 _ => off _ (by omega) (by omega)) (c1 m m1 m2)
  · rw [off _ (by omega) (by omega)] at m2
    exact ROK_c (fun e e1 e2 => off _ (by omega) (by omega)) (d1 m m1 m2)
  · unfold GOK; rw [v9, off 11131 (by omega) (by omega), off 11132 (by omega) (by omega), off 11133 (by omega) (by omega), off 11135 (by omega) (by omega), off 11137 (by omega) (by omega)]
    exact ⟨g1, g2, g3, by omega, g5, g6⟩
  · rw [off _ (by omega) (by omega)]; exact f1 m m1 m2
  · by_cases q : m = i
    · subst q
      right
      unfold EOK
      rw [v0, v1, v2, v3]
      exact he
    · rw [off _ (by omega) (by omega)]
      exact (f2 m m1 m2).imp id (fun q => (EOK_c (fun i i1 i2 => off _ (by omega) (by omega))).mpr q)
  · rw [off _ (by omega) (by omega)]; exact f3 m m1 m2
theorem OK_se (h : OK R S) (hn : 0 ≤ n ∧ n ≤ 6) {i : Int} (h1 : nd S n 4 < i) (h2 : i ≤ nd S n 4 + nd S n 8) : OK R (seS S n i) := by
  have hk := OK_seK h hn h1 h2
  have e := OK_E h hn h1 h2
  have ek := OK_eOk h hn h1 h2
  have hb := (OK_n h hn).2.1.1
  have h9 : seK S n (lpS S n i) 11134 = S 11134 := seK_ne ek (by omega)
  unfold seS
  split
  · rw [← h9]
    exact OK_hold hk (by omega) e
  · split
    · exact hk
    · exact OK_br hk
end OKs
