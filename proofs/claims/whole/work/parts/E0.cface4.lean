/-! the class's face: what changes the state -/
/-- the class's world is the row now; what else lies there stays -/
def KS (s : qS) (w : Nat) (g : qI) (s' : qS) (c' : qI) (S' : qN) : Prop := mkC w S' c' = c' ∧ MsC s' w c' S' ∧ FrO w g c' ∧ FrS w s s' ∧ ShW s' w
section Ks
variable {s s' : qS} {w : Nat} {g g' : qI} {S S' : qN} {R n : Int}
theorem MsC_mk (hw : 8 ≤ w) (hS : ShW s w) (ho : OK R S) (h : MsC s w g S) : MsC s w (mkC w S g) S := MsC_st hS (fun a q _ => by funext k; exact mkC_o q) rfl (OK_160 ho).2 (fun _ _ _ => rfl) h (OK_m5 ho) hw
theorem KS_M (hw : 8 ≤ w) (hS : ShW s w) (ho : OK R S') (f : FrM s w g g') (m : MsC s w g' S') : KS s w g s (mkC w S' g') S' :=
  ⟨mkC_id, MsC_mk hw hS ho m, fun a h h6 h7 => by
    funext k
    rw [mkC_o (by unfold offW; omega), f a (by omega) h6 h7], FrS_rf, hS⟩
theorem KS_O (hw : 8 ≤ w) (hS : ShW s' w) (ho : OK R S') (f : FrO w g g') (m : MsC s' w g' S') (fs : FrS w s s') : KS s w g s' (mkC w S' g') S' :=
  ⟨mkC_id, MsC_mk hw hS ho m, fun a h h6 h7 => by
    funext k
    rw [mkC_o (by unfold offW; omega), f a h h6 h7], fs, hS⟩
theorem KS_N (hw : 8 ≤ w) (hS : ShW s w) (ho : OK R S) (f : FrN w g g') (h : ∀ j, (1708 ≤ j ∧ j < 6028) ∨ j = 11133 → S' j = S j) (m : MsC s w g S) {R' : Int} (ho' : OK R' S') : KS s w g s (mkC w S' g') S' :=
  KS_M hw hS ho' (FrN_M hS f) (MsC_lo hw hS ho f h m)
theorem KS_rf (hw : 8 ≤ w) (hS : ShW s w) (ho : OK R S) (m : MsC s w g S) : KS s w g s (mkC w S g) S := KS_M hw hS ho FrM_rf m
end Ks
section Up
variable {w : Nat} {g : qI} {S : qN} {R n : Int}
theorem upN_nd {e : Int} (he : 0 ≤ e ∧ e < 244) : nd (upK (up1 S n) n 8) n e = if e = 0 then 1 else if e = 9 then nd S n 4 else if e = 12 ∨ e = 13 ∨ e = 14 then 0 else if 15 ≤ e ∧ e < 23 then nd S n (e + 8) else nd S n e := by
  unfold nd upK
  by_cases h : 15 ≤ e ∧ e < 23
  · rw [if_pos (by omega), if_neg (by omega), if_neg (by omega), if_neg (by omega), if_pos h]
    unfold up1
    rw [u1_ne (by omega), u1_ne (by omega), u1_ne (by omega), u1_ne (by omega), u1_ne (by omega)]
    congr 1; omega
  · rw [if_neg (by omega)]
    unfold up1
    by_cases h0 : e = 0
    · subst h0
      rw [u1_ne (by omega), u1_ne (by omega), u1_ne (by omega), u1_ne (by omega), u1_same, if_pos rfl]
    · rw [if_neg h0]
      by_cases h9 : e = 9
      · subst h9
        rw [u1_ne (by omega), u1_ne (by omega), u1_ne (by omega), u1_same, if_pos rfl]; rfl
      · rw [if_neg h9]
        by_cases h12 : e = 12
        · subst h12
          rw [u1_ne (by omega), u1_ne (by omega), u1_same, if_pos (by omega)]
        · by_cases h13 : e = 13
          · subst h13
            rw [u1_ne (by omega), u1_same, if_pos (by omega)]
          · by_cases h14 : e = 14
            · subst h14
              rw [u1_same, if_pos (by omega)]
            · rw [u1_ne (by omega), u1_ne (by omega), u1_ne (by omega), u1_ne (by omega), u1_ne (by omega), if_neg (by omega), if_neg h]
theorem rs_mk (hn : 0 ≤ n ∧ n ≤ 6) (h3 : nd S n 3 = 0) (h11 : nd S n 11 = -1) : rsC (mkC w S g) w n = mkC w (upK (up1 S n) n 8) (mkC w S g) := by
  refine mk_node hn (fun j hj => by rw [upK_off (by omega) hj]; unfold up1; rw [u1_ne (by omega), u1_ne (by omega), u1_ne (by omega), u1_ne (by omega), u1_ne (by omega)]) (fun a k h => rs_o h) (fun p k hp => ?_)
  have m2 : mkC w S g (ndA w n 2) 0 = nd S n 4 := by rw [mkC_N hn (by omega)]; simp [ndC]
  have m4 : ∀ k, 0 ≤ k → k < 8 → mkC w S g (ndA w n 3) k = nd S n (23 + k) := fun k a b => by rw [mkC_N hn (by omega)]; simp [ndC, a, b]
  have u := fun e he => upN_nd (S := S) (n := n) (e := e) he
  have hp8 : p = 0 ∨ p = 1 ∨ p = 2 ∨ p = 3 ∨ p = 4 ∨ p = 5 ∨ p = 6 ∨ p = 7 := by omega
  have ons : onS (-1) = -2 := rfl
  rcases hp8 with rfl | rfl | rfl | rfl | rfl | rfl | rfl | rfl
  · simp only [ndC]
    rw [u 0 (by omega), u 1 (by omega), u 2 (by omega), u 8 (by omega), u 3 (by omega), u 9 (by omega), u 10 (by omega), u 11 (by omega), u 12 (by omega), u 13 (by omega), u 14 (by omega)]
    have e0 : ∀ k, mkC w S g (ndA w n 0) k = ndC (nd S n) n 0 k (g (ndA w n 0) k) := fun k => mkC_N hn (by omega)
    simp [rsC, up, cp, ndA_eq, m2, h3, h11, ons]
    rw [e0]
    simp only [ndC, h3]
    grind (splits := 60)
  · simp only [ndC, pk]
    by_cases q : 0 ≤ k ∧ k < nd S n 8 ∧ k < 48
    · rw [u 8 (by omega), u (52 + 4 * k) (by omega), u (52 + 4 * k + 1) (by omega), u (52 + 4 * k + 2) (by omega), u (52 + 4 * k + 3) (by omega)]
      have q1 : 0 ≤ k ∧ k < nd S n 8 := ⟨q.1, q.2.1⟩
      simp [rsC, up, cp, ndA_eq]
      rw [mkC_N hn (by omega)]
      simp only [ndC, pk]
      grind (splits := 60)
    · rw [u 8 (by omega)]
      simp [rsC, up, cp, ndA_eq]
      grind (splits := 60)
  · simp only [ndC]
    rw [u 4 (by omega), u 5 (by omega), u 6 (by omega), u 7 (by omega)]
    simp [rsC, up, cp, ndA_eq]
    rw [mkC_N hn (by omega)]
    simp only [ndC]
    grind (splits := 60)
  · simp only [ndC]
    by_cases q : 0 ≤ k ∧ k < 8
    · rw [u (23 + k) (by omega)]
      simp [rsC, up, cp, ndA_eq, q, m4 k q.1 q.2]
      grind
    · simp [rsC, up, cp, ndA_eq, q]
  · simp only [ndC]
    by_cases q : 0 ≤ k ∧ k < 8
    · rw [u (15 + k) (by omega)]
      simp [rsC, up, cp, ndA_eq, q, m4 k q.1 q.2]
      rw [if_neg (by omega), if_neg (by omega), if_neg (by omega), if_pos (by omega)]
      congr 1; omega
    · simp [rsC, up, cp, ndA_eq, q]
  all_goals
    simp only [ndC]
    rw [u 3 (by omega)]
    simp [rsC, up, cp, ndA_eq, h3]
end Up
