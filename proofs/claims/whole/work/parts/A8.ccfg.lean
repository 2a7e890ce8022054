/-! the CONFIG stays when a node compacts -/
section Cf
variable {R : Int} {S : qN} {n : Int} {L : qL}
theorem cfgS_sp : ∀ k : Nat, (cfgS S n k = -1 ∧ ∀ j : Int, 0 ≤ j → j < k → S (244 * n + 52 + 4 * j + 1) ≠ 1) ∨ (∃ j : Int, 0 ≤ j ∧ j < k ∧ cfgS S n k = nd S n 4 + j + 1 ∧ S (244 * n + 52 + 4 * j + 1) = 1 ∧ ∀ i : Int, j < i → i < k → S (244 * n + 52 + 4 * i + 1) ≠ 1)
  | 0 => Or.inl ⟨rfl, fun j h1 h2 => absurd h2 (by omega)⟩
  | k + 1 => by
    rw [cfgS]
    by_cases h : S (244 * n + 52 + 4 * k + 1) = 1
    · rw [if_pos h]
      exact Or.inr ⟨k, by omega, by omega, rfl, h, fun i h1 h2 => absurd h2 (by omega)⟩
    · rw [if_neg h]
      rcases cfgS_sp k with ⟨a, b⟩ | ⟨j, j0, j1, j2, j3, j4⟩
      · refine Or.inl ⟨a, fun j h1 h2 => ?_⟩
        by_cases hj : j = k
        · rw [hj]; exact h
        · exact b j h1 (by omega)
      · refine Or.inr ⟨j, j0, by omega, j2, j3, fun i h1 h2 => ?_⟩
        by_cases hi : i = k
        · rw [hi]; exact h
        · exact j4 i h1 (by omega)
theorem cm_cfg (ho : OK R S) (hn : 0 ≤ n ∧ n ≤ 6) : (cfgAt (cmS S n) n 999 = -1 ∧ cfgAt S n 999 = cfgAt S n (nd S n 9)) ∨ (nd S n 9 < cfgAt S n 999 ∧ cfgAt (cmS S n) n 999 = cfgAt S n 999) := by
  have hn' := OK_nOk ho hn
  have hk' := OK_kOk ho hn
  obtain ⟨-, n3, n4, n5, n6⟩ := OK_nOk ho hn
  obtain ⟨k1, k2⟩ := OK_kOk ho hn
  have e4 : nd (cmS S n) n 4 = nd S n 9 := cmS_4
  have e8 : nd (cmS S n) n 8 = nd S n 8 - (nd S n 9 - nd S n 4) := by rw [cmS_8]; omega
  have a1 : cfgAt S n 999 = cfgS S n (nd S n 8).toNat := by unfold cfgAt lastS; congr 1; omega
  have a2 : cfgAt S n (nd S n 9) = cfgS S n (nd S n 9 - nd S n 4).toNat := by unfold cfgAt lastS; congr 1; omega
  have a3 : cfgAt (cmS S n) n 999 = cfgS (cmS S n) n (nd S n 8 - (nd S n 9 - nd S n 4)).toNat := by unfold cfgAt lastS; rw [e4, e8]; congr 1; omega
  have kd : ∀ k, 0 ≤ k → k < nd S n 8 - (nd S n 9 - nd S n 4) → cmS S n (244 * n + 52 + 4 * k + 1) = S (244 * n + 52 + 4 * (k + (nd S n 9 - nd S n 4)) + 1) := by
    intro k h1 h2
    have := cmS_e (k := 1) hn' hk' (i := nd S n 9 + 1 + k) (by omega) (by omega) (by omega)
    have l1 : lpS (cmS S n) n (nd S n 9 + 1 + k) = 244 * n + 52 + 4 * k := by unfold lpS; rw [e4]; omega
    have l2 : lpS S n (nd S n 9 + 1 + k) = 244 * n + 52 + 4 * (k + (nd S n 9 - nd S n 4)) := by unfold lpS; omega
    rw [l1, l2] at this
    exact this
  rw [a1, a2, a3]
  have s1 := cfgS_sp (S := S) (n := n) (nd S n 8).toNat
  have s2 := cfgS_sp (S := S) (n := n) (nd S n 9 - nd S n 4).toNat
  have s3 := cfgS_sp (S := cmS S n) (n := n) (nd S n 8 - (nd S n 9 - nd S n 4)).toNat
  rw [e4] at s3
  rcases s3 with ⟨c1, c2⟩ | ⟨j, j0, j1, j2, j3, j4⟩
  · refine Or.inl ⟨c1, ?_⟩
    have none : ∀ i, nd S n 9 - nd S n 4 ≤ i → i < nd S n 8 → S (244 * n + 52 + 4 * i + 1) ≠ 1 := by
      intro i h1 h2
      have := c2 (i - (nd S n 9 - nd S n 4)) (by omega) (by omega)
      rw [kd _ (by omega) (by omega), show i - (nd S n 9 - nd S n 4) + (nd S n 9 - nd S n 4) = i by omega] at this
      exact this
    rcases s1 with ⟨p1, p2⟩ | ⟨i, i0, i1, i2, i3, i4⟩
    · rcases s2 with ⟨q1, q2⟩ | ⟨i, i0, i1, i2, i3, i4⟩
      · rw [p1, q1]
      · exact absurd i3 (p2 i i0 (by omega))
    · rcases s2 with ⟨q1, q2⟩ | ⟨i', h0, h1, h2, h3, h4⟩
      · by_cases hi : i < nd S n 9 - nd S n 4
        · exact absurd i3 (q2 i i0 (by omega))
        · exact absurd i3 (none i (by omega) (by omega))
      · have e : i = i' := by
          by_cases hi : i < nd S n 9 - nd S n 4
          · rcases Int.lt_trichotomy i i' with q | q | q
            · exact absurd h3 (i4 i' q (by omega))
            · exact q
            · exact absurd i3 (h4 i q (by omega))
          · exact absurd i3 (none i (by omega) (by omega))
        rw [i2, h2, e]
  · rw [kd j j0 (by omega)] at j3
    refine Or.inr ?_
    rcases s1 with ⟨p1, p2⟩ | ⟨i, i0, i1, i2, i3, i4⟩
    · exact absurd j3 (p2 _ (by omega) (by omega))
    · have e : i = j + (nd S n 9 - nd S n 4) := by
        rcases Int.lt_trichotomy i (j + (nd S n 9 - nd S n 4)) with q | q | q
        · exact absurd j3 (i4 _ q (by omega))
        · exact q
        · have := j4 (i - (nd S n 9 - nd S n 4)) (by omega) (by omega)
          rw [kd _ (by omega) (by omega), show i - (nd S n 9 - nd S n 4) + (nd S n 9 - nd S n 4) = i by omega] at this
          exact absurd i3 this
      rw [i2, j2, e]
      omega
theorem cmcf (ho : OK R S) (hn : 0 ≤ n ∧ n ≤ 6) : newS (cmS S n) n = newS S n ∧ oldS (cmS S n) n = oldS S n := by
  have hn' := OK_nOk ho hn
  have hk' := OK_kOk ho hn
  have hr := cfgAt_rng (u := 999) hn'
  have hr9 := cfgAt_rng (u := nd S n 9) hn'
  have b6 := cmS_67 (S := S) (n := n) (e := 6) (by omega)
  have b7 := cmS_67 (S := S) (n := n) (e := 7) (by omega)
  rcases cm_cfg ho hn with ⟨h1, h2⟩ | ⟨h1, h2⟩
  · unfold newS oldS
    rw [if_pos h1, if_pos h1, b6, b7, h2]
    exact ⟨rfl, rfl⟩
  · have hne : ¬ cfgAt S n 999 = -1 := by
      have := OK_nOk ho hn; obtain ⟨-, n3, -, -, -⟩ := this
      obtain ⟨k1, k2⟩ := hk'; omega
    unfold newS oldS
    rw [h2, if_neg hne, if_neg hne, if_neg hne, if_neg hne, cmS_e hn' hk' h1 (by omega) (by omega), cmS_e hn' hk' h1 (by omega) (by omega)]
    exact ⟨rfl, rfl⟩
theorem rm_new (ho : OK R S) (hn : 0 ≤ n ∧ n ≤ 6) : newS (rmS S n) n = newS S n := by
  unfold rmS
  split
  · exact (cmcf ho hn).1
  · rfl
theorem or0 : ∀ a : Nat, a < 128 → orZ (a : Int) 0 = (a : Int) := by
  unfold orZ
  decide +kernel
theorem or0I {a : Int} (h : set7 a) : orZ a 0 = a := by
  unfold set7 at h
  have := or0 a.toNat (by omega)
  rwa [Int.toNat_of_nonneg h.1] at this
theorem cf_held (ho : OK R S) (hn : 0 ≤ n ∧ n ≤ 6) : cfC S n 999 ≤ nd S n 9 ↔ heldCfg S n := by
  obtain ⟨k1, k2⟩ := OK_kOk ho hn
  obtain ⟨-, n3, -, -, -⟩ := OK_nOk ho hn
  unfold cfC heldCfg
  split
  · rename_i h; rw [h]; omega
  · rfl
theorem NX_c {S' : qN} (h : NX S n) (h1 : ∀ k, 0 ≤ k → k ≤ 6 → nd S' n (31 + k) = nd S n (31 + k)) (h2 : nd S n 4 + nd S n 8 ≤ nd S' n 4 + nd S' n 8) : NX S' n := by
  intro k k0 k1
  rw [h1 k k0 k1]
  have := h k k0 k1
  omega
theorem RI_gro (ho : OK R S) (hn : 0 ≤ n ∧ n ≤ 6) (hr : RI S) {x : Int} : RI (groS S n x) :=
  RI_c ho hr (gro_off ho hn (by omega) (by omega) (by omega)) (fun j a b => gro_off ho hn (by omega) (by omega) (by omega)) (fun m a b => by
    by_cases hm : m = n
    · rw [hm]; exact gro_nd ho hn (by omega) (by omega)
    · exact gro_ne ho hn (by omega) (by omega))
theorem MsC_lo {s : qS} {w : Nat} {g g' : qI} {S' : qN} (hw : 8 ≤ w) (hS : ShW s w) (ho : OK R S) (hg : FrN w g g') (h : ∀ j, (1708 ≤ j ∧ j < 6028) ∨ j = 11133 → S' j = S j) (hm : MsC s w g S) : MsC s w g' S' :=
  MsC_st hS (fun a q _ => hg a q) (h _ (by omega)) (OK_160 ho).2 (fun j a b => h j (by omega)) hm (OK_m5 ho) hw
end Cf
