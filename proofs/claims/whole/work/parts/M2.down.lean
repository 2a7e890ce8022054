/-! safety: a node that is down follows and knows nobody -/
def hdN (S : qN) : Prop := ∀ n, 0 ≤ n → n ≤ 6 → nd S n 0 ≠ 1 → nd S n 3 = 0 ∧ nd S n 11 = -1
section Hd
variable {R : Int} {S S' M : qN} {n : Int} {L : qL}
theorem hdN_o (h : hdN S) (a : ∀ m, 0 ≤ m → m ≤ 6 → nd S' m 0 = nd S m 0) (o : Ot n S S') (u : nd S n 0 = 1) : hdN S' := fun m m0 m1 hm => by
  by_cases q : m = n
  · subst q
    rw [a m m0 m1] at hm
    exact absurd u hm
  · rw [o m 0 m0 m1 (by omega)] at hm
    rw [o m 3 m0 m1 (by omega), o m 11 m0 m1 (by omega)]
    exact h m m0 m1 hm
theorem hdN_lo (h : hdN S) (e : ∀ j, j < 1708 → S' j = S j) : hdN S' := fun m m0 m1 hm => by
  have c : ∀ e', 0 ≤ e' → e' < 244 → nd S' m e' = nd S m e' := fun e' a b => e _ (by omega)
  rw [c 0 (by omega) (by omega)] at hm
  rw [c 3 (by omega) (by omega), c 11 (by omega) (by omega)]
  exact h m m0 m1 hm
theorem hdN_st (h : hdN S) (ho : OK R S) (hn : 0 ≤ n ∧ n ≤ 6) (hl : LwOK L) (u : nd S n 0 = 1) : hdN (stS L S n) := hdN_o h (fun m m0 m1 => ((st_10 ho hn hl).1 m m0 m1).1) (Ot_st ho hn hl) u
theorem hdN_hd (h : hdN S) (ho : OK R S) (hM : MOK R M) (hl : LwOK L) : hdN (hdS L S M) := by
  by_cases u : nd S (M 1) 0 = 1
  · exact hdN_o h (fun m m0 m1 => (Tk_hd ho hM hl m m0 m1).1) (Ot_hd ho hM hl) u
  · unfold hdS
    rw [if_pos (show upC S M from Or.inl u)]
    exact hdN_lo h (fun j hj => u1_ne (by omega))
theorem Ot_ng (h : OK R S) (hn : 0 ≤ n ∧ n ≤ 6) (hl : LwOK L) (hR : R + 1 ≤ 90000) (ht : TKs S) : Ot n S (ngS L S n) := by
  have tn := ht n hn.1 hn.2
  have c := (OK_n h hn).2.2.1
  have c10 := c.1
  have c14 := c.2.2.2.2
  have hu : OK R (u1 S (244 * n + 14) (nd S n 14 + 1)) := OK_cell h hn (by omega) (by unfold cOKv; omega)
  have hv : OK R (u1 S (244 * n + 10) (nd S n 10 - 1)) := OK_cell h hn (by omega) (by unfold cOKv; omega)
  unfold ngS; split
  · split
    · exact Ot_u1 hn (by omega)
    · exact fun m e m1 m2 he => by rw [ask_nd hu hn hl hR ⟨m1, m2⟩ (by omega), nd_u1 (by omega), nd_u1 (by omega), nd_u1 (by omega)]
  · split
    · exact Ot_tr (Ot_u1 hn (by omega)) (Ot_st hv hn hl)
    · exact Ot_u1 hn (by omega)
theorem hdN_ng (h : hdN S) (ho : OK R S) (hn : 0 ≤ n ∧ n ≤ 6) (hl : LwOK L) (hR : R + 1 ≤ 90000) (ht : TKs S) (u : nd S n 0 = 1) : hdN (ngS L S n) := hdN_o h (TK_ng ho hn hl hR ht).2 (Ot_ng ho hn hl hR ht) u
theorem hdN_cr (h : hdN S) : hdN (rcr S n) := by
  unfold rcr
  by_cases q : (0 ≤ n ∧ n ≤ 6) ∧ nd S n 0 = 1
  · rw [if_pos q]
    intro m m0 m1 hm
    by_cases e : m = n
    · subst e
      rw [nd_u1 (by omega), nd_u1 (by omega)]
      unfold foS
      exact ⟨by rw [nd_u1 (by omega), nd_u1s], by rw [nd_u1s]⟩
    · have o := Ot_fo (S := S) (w := -1) q.1
      rw [nd_u1 (by omega), o m 0 m0 m1 (by omega)] at hm
      rw [nd_u1 (by omega), nd_u1 (by omega), o m 3 m0 m1 (by omega), o m 11 m0 m1 (by omega)]
      exact h m m0 m1 hm
  · rw [if_neg q]; exact h
theorem hdN_ct {a b w : Int} (h : hdN S) (e : ∀ j, j < 1708 → ctS S a b w j = S j) : hdN (ctS S a b w) := hdN_lo h e
theorem hdN_sd {x : Int} (h : hdN S) : hdN (seedS S x) := hdN_lo h (fun j hj => by unfold seedS; split <;> first | rfl | exact u1_ne (by omega))
theorem hdN_ck {x : Int} (h : hdN S) : hdN (u1 S 11131 x) := hdN_lo h (fun j hj => u1_ne (by omega))
end Hd
