/-! the log's changes: bounds, what the entries are then -/
section OKs
variable {R : Int} {S S' F : qN} {n to : Int} {L : qL}
theorem seS_nd (h : OK R S) (hn : 0 ≤ n ∧ n ≤ 6) {i e : Int} (h1 : nd S n 4 < i) (h2 : i ≤ nd S n 4 + nd S n 8) (he : 0 ≤ e ∧ e < 15 ∨ 23 ≤ e ∧ e < 244) : nd (seS S n i) n e = nd S n e := by
  have hb := (OK_n h hn).2.1.1
  exact seS_ne (OK_eOk h hn h1 h2) (by omega) (by omega) (by omega)
theorem OK_gc (hn : 0 ≤ n ∧ n ≤ 6) : ∀ (j : Nat) (i : Int) (S : qN), OK R S → OK R (gcS n j i S) ∧ (∀ e, 0 ≤ e ∧ e < 15 ∨ 23 ≤ e ∧ e < 244 → nd (gcS n j i S) n e = nd S n e)
  | 0, i, S, h => ⟨h, fun _ _ => rfl⟩
  | j + 1, i, S, h => by
    rw [gcS]
    by_cases q : hasE S n i
    · rw [if_pos q]
      have h1 := OK_se h hn q.1 q.2
      obtain ⟨a, b⟩ := OK_gc hn j (i + 1) _ h1
      exact ⟨a, fun e he => (b e he).trans (seS_nd h hn q.1 q.2 he)⟩
    · rw [if_neg q]; exact OK_gc hn j (i + 1) _ h
theorem OK_gro (h : OK R S) (hn : 0 ≤ n ∧ n ≤ 6) {w : Int} (hw : w ≤ nd S n 4 + nd S n 8) : OK R (groS S n w) := by
  obtain ⟨a, b⟩ := OK_gc (R := R) hn (w - nd S n 9).toNat (nd S n 9 + 1) S h
  have hk := OK_kOk h hn
  unfold groS
  refine OK_cell a hn (by omega) ?_
  have b4 := b 4 (by omega)
  have b8 := b 8 (by omega)
  have b9 := b 9 (by omega)
  have := hk.1
  have := hk.2
  unfold cOKv
  rw [b4, b8, b9]
  omega
theorem gro_nd (h : OK R S) (hn : 0 ≤ n ∧ n ≤ 6) {w e : Int} (he : 0 ≤ e ∧ e < 15 ∨ 23 ≤ e ∧ e < 244) (h9 : e ≠ 9) : nd (groS S n w) n e = nd S n e := by
  obtain ⟨a, b⟩ := OK_gc (R := R) hn (w - nd S n 9).toNat (nd S n 9 + 1) S h
  unfold groS
  rw [nd_u1 (by omega)]
  exact b e he
theorem gro_9 (h : OK R S) (hn : 0 ≤ n ∧ n ≤ 6) {w : Int} : nd (groS S n w) n 9 = max (nd S n 9) w := by
  obtain ⟨a, b⟩ := OK_gc (R := R) hn (w - nd S n 9).toNat (nd S n 9 + 1) S h
  unfold groS
  rw [nd_u1s, b 9 (by omega)]
/-- the cells of a node that has compacted -/
theorem cmS_e (hn : nOk S n) (hk : kOk S n) {i k : Int} (h1 : nd S n 9 < i) (h2 : i ≤ nd S n 4 + nd S n 8) (hk4 : 0 ≤ k ∧ k < 4) : cmS S n (lpS (cmS S n) n i + k) = S (lpS S n i + k) := by
  obtain ⟨⟨n1, n2⟩, n3, n4, n5, n6⟩ := hn
  obtain ⟨k1, k2⟩ := hk
  have e : lpS (cmS S n) n i = 244 * n + 52 + 4 * (i - nd S n 9 - 1) := by unfold lpS; rw [cmS_4]
  rw [e]
  unfold cmS
  rw [if_neg (by omega)]
  unfold cmB
  rw [u1_ne (by omega)]
  unfold goS
  rw [u1_ne (by omega), u1_ne (by omega), cmA_nd (by omega), cmA_nd (by omega)]
  unfold shS
  rw [if_pos (by omega), cmA_ne (by omega)]
  congr 1
  unfold lpS; omega
theorem cmS_5 : nd (cmS S n) n 5 = tAS S n (nd S n 9) := by
  unfold cmS
  show (if _ then _ else _) = _
  rw [if_neg (by omega)]
  unfold cmB
  exact u1_same
theorem goS_nd {A : qN} {i e : Int} (he : 0 ≤ e ∧ e < 52) (h4 : e ≠ 4 ∧ e ≠ 8) : nd (goS A n i) n e = nd A n e := by
  unfold goS
  rw [nd_u1 (by omega), nd_u1 (by omega)]
  unfold nd shS
  rw [if_neg (by omega)]
theorem cmS_67 {e : Int} (he : e = 6 ∨ e = 7) : nd (cmS S n) n e = if cfgAt S n (nd S n 9) = -1 then nd S n e else S (lpS S n (cfgAt S n (nd S n 9)) + (e - 4)) := by
  unfold cmS
  show (if _ then _ else _) = _
  rw [if_neg (by omega)]
  show nd (cmB S n) n e = _
  unfold cmB
  rw [nd_u1 (by omega), goS_nd (by omega) (by omega)]
  unfold cmA
  split
  · rfl
  · rcases he with rfl | rfl
    · rw [nd_u1 (by omega), nd_u1s]; rfl
    · rw [nd_u1s]; rfl
theorem cmS_23 {e : Int} (he : 23 ≤ e ∧ e < 31) : nd (cmS S n) n e = nd S n (e - 8) := by
  unfold cmS
  show (if _ then _ else _) = _
  rw [if_pos (by omega)]
  show cmB S n (244 * n + e - 8) = _
  rw [show 244 * n + e - 8 = 244 * n + (e - 8) by omega]
  show nd (cmB S n) n (e - 8) = _
  unfold cmB
  rw [nd_u1 (by omega), goS_nd (by omega) (by omega), cmA_nd (by omega)]
theorem OK_cm (h : OK R S) (hn : 0 ≤ n ∧ n ≤ 6) : OK R (cmS S n) := by
  have nk := OK_nOk h hn
  have kk := OK_kOk h hn
  have N := OK_n h hn
  have hc := cfgAt_rng (u := nd S n 9) nk
  refine OK_off h hn (fun j hj => cmS_ne nk kk (by omega)) ?_ (smS_cmS (OK_sm h) nk kk)
  obtain ⟨A, ⟨B1, B2, B3, B4, B5⟩, C, ⟨d1, d2, d3, d4⟩, e1, e2⟩ := N
  have sc : ∀ e, 0 ≤ e → e < 52 → ((e < 23 ∧ e ≠ 4 ∧ e ≠ 5 ∧ e ≠ 6 ∧ e ≠ 7 ∧ e ≠ 8) ∨ 31 ≤ e) → nd (cmS S n) n e = nd S n e := fun e a b c => cmS_nd nk kk (by omega)
  have w8 : nd (cmS S n) n 8 = max 0 (nd S n 8 - (nd S n 9 - nd S n 4)) := cmS_8
  have w4 : nd (cmS S n) n 4 = nd S n 9 := cmS_4
  have E : ∀ i, nd S n 4 < i → i ≤ nd S n 4 + nd S n 8 → EOK S (lpS S n i) := fun i a b => OK_E h hn a b
  have cf : ∀ e, e = 6 ∨ e = 7 → 0 ≤ nd (cmS S n) n e ∧ nd (cmS S n) n e ≤ 127 := by
    intro e he
    rw [cmS_67 he]
    split
    · rcases he with rfl | rfl
      · exact B3
      · exact B4
    · have := E (cfgAt S n (nd S n 9)) (by omega) (by omega)
      rcases he with rfl | rfl
      · exact this.2.2.1
      · exact this.2.2.2.1
  refine ⟨?_, ⟨?_, ?_, cf 6 (by omega), cf 7 (by omega), ?_⟩, ?_, ⟨fun k k1 k2 => ?_, fun k k1 k2 => ?_, fun k k1 k2 => ?_, fun k k1 k2 => ?_⟩, fun k k1 k2 => ?_, ?_⟩
  · unfold NOKa; rw [sc 0 (by omega) (by omega) (by omega), sc 1 (by omega) (by omega) (by omega), sc 2 (by omega) (by omega) (by omega), sc 3 (by omega) (by omega) (by omega)]; exact A
  · rw [w4, w8]; omega
  · rw [cmS_5]; unfold tAS; split
    · exact B2
    · have := (E (nd S n 9) (by omega) (by omega)).1; omega
  · rw [sc 9 (by omega) (by omega) (by omega), w4, w8]; omega
  · unfold NOKc; rw [sc 10 (by omega) (by omega) (by omega), sc 11 (by omega) (by omega) (by omega), sc 12 (by omega) (by omega) (by omega), sc 13 (by omega) (by omega) (by omega), sc 14 (by omega) (by omega) (by omega)]; exact C
  · by_cases q : k < 23
    · rw [sc k (by omega) (by omega) (by omega)]; exact d1 k k1 k2
    · rw [cmS_23 (by omega)]; exact d1 (k - 8) (by omega) (by omega)
  · rw [sc k (by omega) (by omega) (by omega)]; exact d2 k k1 k2
  · rw [sc k (by omega) (by omega) (by omega)]; exact d3 k k1 k2
  · rw [sc k (by omega) (by omega) (by omega)]; exact d4 k k1 k2
  · rw [w8] at k2
    refine (EOK_c (fun q q1 q2 => ?_)).mpr (E (nd S n 9 + 1 + k) (by omega) (by omega))
    have := cmS_e nk kk (i := nd S n 9 + 1 + k) (k := q) (by omega) (by omega) ⟨q1, q2⟩
    rw [← this]
    unfold nd lpS
    have w4' : cmS S n (244 * n + 4) = nd S n 9 := w4
    rw [show nd (cmS S n) n 4 = nd S n 9 from w4]
    congr 1
    unfold nd
    omega
  · unfold NOKf; rw [sc 3 (by omega) (by omega) (by omega), sc 1 (by omega) (by omega) (by omega)]; exact ⟨fun q k k1 k2 => by rw [sc k (by omega) (by omega) (by omega)]; exact e2.1 q k k1 k2, e2.2⟩
end OKs
