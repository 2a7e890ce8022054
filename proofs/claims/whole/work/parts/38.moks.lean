/-! bounds of what is sent -/
/-- what may be laid into a node's cell -/
def cOKv (R : Int) (f : qN) (e v : Int) : Prop :=
  (e = 0 → v = 0 ∨ v = 1) ∧ (e = 1 → 0 ≤ v ∧ v ≤ 999 ∧ (f 3 ≠ 0 → 1 ≤ v)) ∧ (e = 2 → -1 ≤ v ∧ v ≤ 6) ∧ (e = 3 → v = 0 ∨ v = 1 ∧ 1 ≤ f 1 ∨ (v = 2 ∧ 1 ≤ f 1) ∧ ∀ k, 31 ≤ k → k < 38 → 1 ≤ f k) ∧ (e = 5 → 0 ≤ v ∧ v ≤ 999) ∧ (e = 6 → 0 ≤ v ∧ v ≤ 127) ∧ (e = 7 → 0 ≤ v ∧ v ≤ 127) ∧
  (e = 9 → f 4 ≤ v ∧ v ≤ f 4 + f 8) ∧ (e = 10 → 0 ≤ v ∧ v ≤ 49) ∧ (e = 11 → -1 ≤ v ∧ v ≤ 6) ∧ (e = 12 → 0 ≤ v ∧ v ≤ 127) ∧ (e = 13 → 0 ≤ v ∧ v ≤ R) ∧ (e = 14 → 0 ≤ v ∧ v ≤ 3) ∧
  (15 ≤ e ∧ e < 31 → 0 ≤ v ∧ v ≤ 127) ∧ (31 ≤ e ∧ e < 38 → 1 ≤ v ∧ v ≤ 1000) ∧ (38 ≤ e ∧ e < 45 → 0 ≤ v ∧ v ≤ 999) ∧ (45 ≤ e ∧ e < 52 → 0 ≤ v ∧ v ≤ R)
theorem u1_cs {f : qN} {e v k : Int} {P : Int → Prop} (h1 : k = e → P v) (h2 : P (f k)) : P (u1 f e v k) := by
  unfold u1; split
  · rename_i q; exact h1 q
  · exact h2
theorem NOK_u1 {R : Int} {f : qN} (h : NOK R f) {e v : Int} (he : 0 ≤ e ∧ e < 52 ∧ e ≠ 4 ∧ e ≠ 8) (hv : cOKv R f e v) : NOK R (u1 f e v) := by
  have w4 : u1 f e v 4 = f 4 := u1_ne (by omega)
  have w8 : u1 f e v 8 = f 8 := u1_ne (by omega)
  have wE : ∀ k, 52 ≤ k → u1 f e v k = f k := fun k k1 => u1_ne (by omega)
  obtain ⟨⟨a1, a2, a3, a4⟩, ⟨b1, b2, b3, b4, b5⟩, ⟨c1, c2, c3, c4, c5⟩, ⟨d1, d2, d3, d4⟩, e1, e2⟩ := h
  obtain ⟨v0, v1, v2, v3, v5, v6, v7, v9, v10, v11, v12, v13, v14, v15, v31, v38, v45⟩ := hv
  refine ⟨⟨u1_cs (P := fun x => x = 0 ∨ x = 1) (fun q => v0 q.symm) a1, u1_cs (P := fun x => 0 ≤ x ∧ x ≤ 999) (fun q => ⟨(v1 q.symm).1, (v1 q.symm).2.1⟩) a2, u1_cs (P := fun x => -1 ≤ x ∧ x ≤ 6) (fun q => v2 q.symm) a3, u1_cs (P := fun x => 0 ≤ x ∧ x ≤ 2) (fun q => ?_) a4⟩,
    ⟨by rw [w4, w8]; exact b1, u1_cs (P := fun x => 0 ≤ x ∧ x ≤ 999) (fun q => v5 q.symm) b2, u1_cs (P := fun x => 0 ≤ x ∧ x ≤ 127) (fun q => v6 q.symm) b3, u1_cs (P := fun x => 0 ≤ x ∧ x ≤ 127) (fun q => v7 q.symm) b4, by rw [w4, w8]; exact u1_cs (P := fun x => f 4 ≤ x ∧ x ≤ f 4 + f 8) (fun q => v9 q.symm) b5⟩,
    ⟨u1_cs (P := fun x => 0 ≤ x ∧ x ≤ 49) (fun q => v10 q.symm) c1, u1_cs (P := fun x => -1 ≤ x ∧ x ≤ 6) (fun q => v11 q.symm) c2, u1_cs (P := fun x => 0 ≤ x ∧ x ≤ 127) (fun q => v12 q.symm) c3, u1_cs (P := fun x => 0 ≤ x ∧ x ≤ R) (fun q => v13 q.symm) c4, u1_cs (P := fun x => 0 ≤ x ∧ x ≤ 3) (fun q => v14 q.symm) c5⟩,
    ⟨fun k k1 k2 => u1_cs (P := fun x => 0 ≤ x ∧ x ≤ 127) (fun q => v15 (by rw [← q]; exact ⟨k1, k2⟩)) (d1 k k1 k2), fun k k1 k2 => u1_cs (P := fun x => 0 ≤ x ∧ x ≤ 1000) (fun q => ?_) (d2 k k1 k2), fun k k1 k2 => u1_cs (P := fun x => 0 ≤ x ∧ x ≤ 999) (fun q => v38 (by rw [← q]; exact ⟨k1, k2⟩)) (d3 k k1 k2), fun k k1 k2 => u1_cs (P := fun x => 0 ≤ x ∧ x ≤ R) (fun q => v45 (by rw [← q]; exact ⟨k1, k2⟩)) (d4 k k1 k2)⟩, fun k k1 k2 => ?_, fun q k k1 k2 => ?_, fun q => ?_⟩
  · rcases v3 q.symm with z | z | z
    · rw [z]; decide
    · rw [z.1]; decide
    · rw [z.1.1]; decide
  · have := v31 (by rw [← q]; exact ⟨k1, k2⟩)
    exact ⟨Int.le_trans (by decide) this.1, this.2⟩
  · rw [w8] at k2
    exact (EOK_c (fun i i1 i2 => wE _ (by clear v0 v1 v2 v3 v5 v6 v7 v9 v10 v11 v12 v13 v14 v15 v31 v38 v45; omega))).mpr (e1 k k1 k2)
  · by_cases q3 : e = 3
    · subst q3
      rw [u1_same] at q
      rw [u1_ne (by clear v0 v1 v2 v3 v5 v6 v7 v9 v10 v11 v12 v13 v14 v15 v31 v38 v45; omega)]
      rcases v3 rfl with z | z | z
      · exact absurd z (by rw [q]; decide)
      · exact absurd z.1 (by rw [q]; decide)
      · exact z.2 k k1 k2
    · rw [u1_ne (Ne.symm q3)] at q
      exact u1_cs (P := fun x => 1 ≤ x) (fun z => (v31 (by rw [← z]; exact ⟨k1, k2⟩)).1) (e2.1 q k k1 k2)
  · by_cases q3 : e = 3
    · subst q3
      rw [u1_same] at q
      rw [u1_ne (by decide)]
      rcases v3 rfl with z | z | z
      · exact absurd z q
      · exact z.2
      · exact z.1.2
    · rw [u1_ne (Ne.symm q3)] at q
      exact u1_cs (P := fun x => 1 ≤ x) (fun z => (v1 z.symm).2.2 q) (e2.2 q)
theorem OK_cell {R : Int} {S : qN} {n : Int} (h : OK R S) (hn : 0 ≤ n ∧ n ≤ 6) {e v : Int} (he : 0 ≤ e ∧ e < 52 ∧ e ≠ 4 ∧ e ≠ 8) (hv : cOKv R (nd S n) e v) : OK R (u1 S (244 * n + e) v) := by
  refine OK_u1n h hn (by omega) ?_ (NOK_u1 (OK_n h hn) he hv)
  have hR := OK_R h
  have hb := (OK_n h hn).2.1.1
  obtain ⟨v0, v1, v2, v3, v5, v6, v7, v9, v10, v11, v12, v13, v14, v15, v31, v38, v45⟩ := hv
  clear h hn
  grind
section OKs
variable {R : Int} {S S' F : qN} {n to : Int} {L : qL}
theorem snF_sm (h : OK R S) (hn : 0 ≤ n ∧ n ≤ 6) (ht : 0 ≤ to ∧ to ≤ 6) : ∀ k, 0 ≤ k → k < 27 → -100000 ≤ snF S n to k ∧ snF S n to k ≤ 100000 := by
  intro k k0 k1
  have hm := OK_sm h
  have b1 := (OK_n h hn).2.2.2.1.2.1 (31 + to) (by omega) (by omega)
  have b2 := (OK_n h hn).2.1.1
  have sm : ∀ e, 0 ≤ e → e < 244 → -100000 ≤ nd S n e ∧ nd S n e ≤ 100000 := fun e e0 e1 => hm _ (by omega)
  have hB : ∀ x, 0 ≤ x → x ≤ 10 → ∀ j, -100000 ≤ u1 (mB S n to x) 10 (nd S n 13) j ∧ u1 (mB S n to x) 10 (nd S n 13) j ≤ 100000 := by
    intro x x0 x1 j
    have := sm 13 (by omega) (by omega)
    have := sm 1 (by omega) (by omega)
    simp only [mB, u1]
    repeat' split
    all_goals omega
  unfold snF
  split
  · have c4 := sm 4 (by omega) (by omega)
    have c5 := sm 5 (by omega) (by omega)
    have c6 := sm 6 (by omega) (by omega)
    have c7 := sm 7 (by omega) (by omega)
    have := hB 4 (by omega) (by omega) k
    unfold tsB cpN
    split
    · exact sm _ (by omega) (by omega)
    · unfold tsA u1
      unfold u1 at this
      repeat' split
      all_goals first | omega | (split at this <;> first | contradiction | omega | exact this)
  · have c9 := sm 9 (by omega) (by omega)
    have := hB 2 (by omega) (by omega) k
    have hl : 0 ≤ lpS S n (nd S n (31 + to)) ∧ lpS S n (nd S n (31 + to)) ≤ 6000 := by unfold lpS; omega
    have hl2 : -100000 ≤ tAS S n (nd S n (31 + to) - 1) ∧ tAS S n (nd S n (31 + to) - 1) ≤ 100000 := by
      unfold tAS
      split
      · exact sm 5 (by omega) (by omega)
      · refine hm _ ?_
        unfold lpS; omega
    have hN : 0 ≤ teN S n (nd S n (31 + to)) ∧ teN S n (nd S n (31 + to)) ≤ 4 := by unfold teN; omega
    unfold teB cpN
    split
    · exact hm _ (by omega)
    · unfold teA
      generalize u1 (mB S n to 2) 10 (nd S n 13) = X at this ⊢
      unfold u1
      repeat' split
      all_goals omega
theorem snF_ok (h : OK R S) (hn : 0 ≤ n ∧ n ≤ 6) (ht : 0 ≤ to ∧ to ≤ 6) (hne : to ≠ n) : MOK R (snF S n to) := by
  have b1 := (OK_n h hn).2.2.2.1.2.1 (31 + to) (by omega) (by omega)
  obtain ⟨A, B, C, D, E, -⟩ := OK_n h hn
  have hR := OK_R h
  obtain ⟨B1, B2, B3, B4, B5⟩ := B
  have C13 := C.2.2.2.1
  have A1 := A.2.1
  unfold snF
  split
  · have v : ∀ j, (j < 11 ∨ 19 ≤ j) → tsB S (u1 (mB S n to 4) 10 (nd S n 13)) n j = tsA S (u1 (mB S n to 4) 10 (nd S n 13)) n j := by
      intro j hj; unfold tsB cpN; rw [if_neg (by omega)]
    have v0 : tsB S (u1 (mB S n to 4) 10 (nd S n 13)) n 0 = n := by rw [v 0 (by omega)]; simp [tsA, mB, u1]
    have v1 : tsB S (u1 (mB S n to 4) 10 (nd S n 13)) n 1 = to := by rw [v 1 (by omega)]; simp [tsA, mB, u1]
    have v2 : tsB S (u1 (mB S n to 4) 10 (nd S n 13)) n 2 = 4 := by rw [v 2 (by omega)]; simp [tsA, mB, u1]
    have v3 : tsB S (u1 (mB S n to 4) 10 (nd S n 13)) n 3 = nd S n 1 := by rw [v 3 (by omega)]; simp [tsA, mB, u1]
    have v5 : tsB S (u1 (mB S n to 4) 10 (nd S n 13)) n 5 = 0 := by rw [v 5 (by omega)]; simp [tsA, mB, u1]
    have v6 : tsB S (u1 (mB S n to 4) 10 (nd S n 13)) n 6 = nd S n 4 := by rw [v 6 (by omega)]; simp [tsA, mB, u1]
    have v7 : tsB S (u1 (mB S n to 4) 10 (nd S n 13)) n 7 = nd S n 5 := by rw [v 7 (by omega)]; simp [tsA, mB, u1]
    have v8 : tsB S (u1 (mB S n to 4) 10 (nd S n 13)) n 8 = nd S n 6 := by rw [v 8 (by omega)]; simp [tsA, mB, u1]
    have v9 : tsB S (u1 (mB S n to 4) 10 (nd S n 13)) n 9 = nd S n 7 := by rw [v 9 (by omega)]; simp [tsA, mB, u1]
    have v10 : tsB S (u1 (mB S n to 4) 10 (nd S n 13)) n 10 = nd S n 13 := by rw [v 10 (by omega)]; simp [tsA, mB, u1]
    unfold MOK MOKa MOKb
    rw [v0, v1, v2, v3, v5, v6, v7, v8, v9, v10]
    refine ⟨⟨by omega, by omega, by omega, by omega, by omega, by omega, by omega, by omega⟩, by omega, by omega, fun q => absurd q (by omega), by omega, fun _ => ⟨by omega, by omega, by omega, by omega, fun k k1 k2 => ?_⟩, by omega⟩
    unfold tsB cpN
    rw [if_pos (by omega)]
    exact D.1 _ (by omega) (by omega)
  · have hN : 0 ≤ teN S n (nd S n (31 + to)) ∧ teN S n (nd S n (31 + to)) ≤ 4 := by unfold teN; omega
    have v : ∀ j, j < 11 → teB S (u1 (mB S n to 2) 10 (nd S n 13)) n (nd S n (31 + to)) j = teA S (u1 (mB S n to 2) 10 (nd S n 13)) n (nd S n (31 + to)) j := by
      intro j hj; unfold teB cpN; rw [if_neg (by omega)]
    have v0 : teB S (u1 (mB S n to 2) 10 (nd S n 13)) n (nd S n (31 + to)) 0 = n := by rw [v 0 (by omega)]; simp [teA, mB, u1]
    have v1 : teB S (u1 (mB S n to 2) 10 (nd S n 13)) n (nd S n (31 + to)) 1 = to := by rw [v 1 (by omega)]; simp [teA, mB, u1]
    have v2 : teB S (u1 (mB S n to 2) 10 (nd S n 13)) n (nd S n (31 + to)) 2 = 2 := by rw [v 2 (by omega)]; simp [teA, mB, u1]
    have v3 : teB S (u1 (mB S n to 2) 10 (nd S n 13)) n (nd S n (31 + to)) 3 = nd S n 1 := by rw [v 3 (by omega)]; simp [teA, mB, u1]
    have v5 : teB S (u1 (mB S n to 2) 10 (nd S n 13)) n (nd S n (31 + to)) 5 = teN S n (nd S n (31 + to)) := by rw [v 5 (by omega)]; simp [teA, mB, u1]
    have v6 : teB S (u1 (mB S n to 2) 10 (nd S n 13)) n (nd S n (31 + to)) 6 = nd S n (31 + to) - 1 := by rw [v 6 (by omega)]; simp [teA, mB, u1]
    have v8 : teB S (u1 (mB S n to 2) 10 (nd S n 13)) n (nd S n (31 + to)) 8 = nd S n 9 := by rw [v 8 (by omega)]; simp [teA, mB, u1]
    have v10 : teB S (u1 (mB S n to 2) 10 (nd S n 13)) n (nd S n (31 + to)) 10 = nd S n 13 := by rw [v 10 (by omega)]; simp [teA, mB, u1]
    unfold MOK MOKa MOKb
    rw [v0, v1, v2, v3, v5, v6, v8, v10]
    have hT : nd S n (31 + to) - 1 + teN S n (nd S n (31 + to)) ≤ 999 := by unfold teN; omega
    refine ⟨⟨by omega, by omega, by omega, by omega, by omega, by omega, by omega, by omega⟩, by omega, by omega, fun _ => ⟨by omega, hT, by omega, fun k k1 k2 => ?_⟩, by omega, fun q => absurd q (by omega), by omega⟩
    have e := OK_E h hn (i := nd S n (31 + to) + k) (by omega) (by unfold teN at k2; omega)
    refine (EOK_c (fun i i1 i2 => ?_)).mpr e
    unfold teB cpN
    rw [if_pos (by omega)]
    congr 1
    unfold lpS; omega
theorem OK_sd (h : OK R S) (hn : 0 ≤ n ∧ n ≤ 6) (ht : 0 ≤ to ∧ to ≤ 6) (hne : to ≠ n) (hl : LwOK L) : OK R (sdS L S n to) := OK_po h (snF_ok h hn ht hne) (snF_sm h hn ht) hl
end OKs
