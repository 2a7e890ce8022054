/-! what is read of a log is alike where its cells are; laying -/
def lgEq (S S' : qN) (n : Int) : Prop := ∀ e, 4 ≤ e ∧ e ≤ 8 ∨ 52 ≤ e ∧ e < 244 → nd S' n e = nd S n e
theorem lgEq_rf {S : qN} {n : Int} : lgEq S S n := fun _ _ => rfl
theorem lgEq_tr {S S' S'' : qN} {n : Int} (h : lgEq S S' n) (h' : lgEq S' S'' n) : lgEq S S'' n := fun e he => (h' e he).trans (h e he)
section Lg
variable {R : Int} {S S' : qN} {n : Int} {L : qL}
theorem lg_lp (h : lgEq S S' n) {i : Int} : lpS S' n i = lpS S n i := by unfold lpS; rw [h 4 (by omega)]
theorem lg_last (h : lgEq S S' n) : lastS S' n = lastS S n := by unfold lastS; rw [h 4 (by omega), h 8 (by omega)]
theorem lg_en (h : lgEq S S' n) (hn : nOk S n) {i k : Int} (h1 : nd S n 4 < i) (h2 : i ≤ nd S n 4 + nd S n 8) (hk : 0 ≤ k ∧ k < 4) : S' (lpS S n i + k) = S (lpS S n i + k) := by
  obtain ⟨-, n3, n4, n5, n6⟩ := hn
  have := h (52 + 4 * (i - nd S n 4 - 1) + k) (by omega)
  unfold nd at this
  rw [show lpS S n i + k = 244 * n + (52 + 4 * (i - nd S n 4 - 1) + k) by unfold lpS; omega]
  exact this
theorem lg_cfgS (h : lgEq S S' n) : ∀ k : Nat, k ≤ 48 → cfgS S' n k = cfgS S n k
  | 0, _ => rfl
  | k + 1, hk => by
    unfold cfgS
    rw [lg_cfgS h k (by omega), h 4 (by omega)]
    have := h (52 + 4 * k + 1) (by omega)
    unfold nd at this
    rw [show 244 * n + 52 + 4 * (k : Int) + 1 = 244 * n + (52 + 4 * k + 1) by omega, this]
theorem lg_cfg (h : lgEq S S' n) (hn : nOk S n) {u : Int} : cfgAt S' n u = cfgAt S n u := by
  unfold cfgAt
  rw [lg_last h, h 4 (by omega)]
  refine lg_cfgS h _ ?_
  obtain ⟨-, n3, n4, n5, n6⟩ := hn
  unfold lastS; omega
theorem lg_old (h : lgEq S S' n) (hn : nOk S n) : oldS S' n = oldS S n := by
  have hc := cfgAt_rng (u := 999) hn
  unfold oldS
  rw [lg_cfg h hn, h 6 (by omega), lg_lp h]
  split
  · rfl
  · exact lg_en h hn (by omega) (by omega) (by omega)
theorem lg_new (h : lgEq S S' n) (hn : nOk S n) : newS S' n = newS S n := by
  have hc := cfgAt_rng (u := 999) hn
  unfold newS
  rw [lg_cfg h hn, h 7 (by omega), lg_lp h]
  split
  · rfl
  · exact lg_en h hn (by omega) (by omega) (by omega)
theorem lg_mem (h : lgEq S S' n) (hn : nOk S n) : memS S' n = memS S n := by unfold memS; rw [lg_old h hn, lg_new h hn]
theorem lg_most (h : lgEq S S' n) (hn : nOk S n) {x : Int} : mostS S' n x = mostS S n x := by unfold mostS; rw [lg_old h hn, lg_new h hn]
theorem lg_tA (h : lgEq S S' n) (hn : nOk S n) {i : Int} (h1 : nd S n 4 ≤ i) (h2 : i ≤ nd S n 4 + nd S n 8) : tAS S' n i = tAS S n i := by
  unfold tAS
  rw [h 4 (by omega), h 5 (by omega), lg_lp h]
  split
  · rfl
  · have := lg_en h hn (i := i) (k := 0) (by omega) h2 (by omega)
    rw [Int.add_zero] at this
    exact this
/-- what the posts leave of the nodes -/
theorem poS_nd {F : qN} {m e : Int} (g : GOK S) (hm : 0 ≤ m ∧ m ≤ 6) (he : 0 ≤ e ∧ e < 244) : nd (poS L S F) m e = nd S m e := by
  have := g.2.2.1
  have e0 : ∀ j, j < 1708 → rnS S j = S j := fun j hj => u1_ne (by omega)
  unfold nd
  by_cases hp : (L (fcS S (F 0) (F 1) (F 2))).2.2.2 ∨ rndS S % 10 < (L (fcS S (F 0) (F 1) (F 2))).2.1 ∨ S 11133 = 160
  · rw [poS_y hp, u1_ne (by omega)]; exact e0 _ (by omega)
  · rw [poS_n hp, u1_ne (by omega)]
    unfold cpN
    rw [if_neg (by omega)]; exact e0 _ (by omega)
theorem saF_nd {m e : Int} (hn : 0 ≤ n ∧ n ≤ 6) (hl : LwOK L) (hm : 0 ≤ m ∧ m ≤ 6) (he : 0 ≤ e ∧ e < 244) : ∀ (j : Nat) (to : Int) (S : qN), 0 ≤ to → to + j ≤ 7 → OK R S → nd (saF L n j to S) m e = nd S m e
  | 0, _, _, _, _, _ => rfl
  | j + 1, to, S, h0, hj, h => by
    rw [saF]
    have hd := saF_nd hn hl hm he j (to + 1)
    split
    · rename_i q
      rw [hd _ (by omega) (by omega) (OK_sd h hn (by omega) q.1 hl)]
      exact poS_nd (OK_g h) hm he
    · exact hd _ (by omega) (by omega) h
theorem saS_nd {m e : Int} (h : OK R S) (hn : 0 ≤ n ∧ n ≤ 6) (hl : LwOK L) (hm : 0 ≤ m ∧ m ≤ 6) (he : 0 ≤ e ∧ e < 244) : nd (saS L S n) m e = nd S m e := saF_nd hn hl hm he 7 0 S (by omega) (by omega) h
theorem saS_lg {m : Int} (h : OK R S) (hn : 0 ≤ n ∧ n ≤ 6) (hl : LwOK L) (hm : 0 ≤ m ∧ m ≤ 6) : lgEq S (saS L S n) m := fun e he => saS_nd h hn hl hm (by omega)
theorem gro_lg (h : OK R S) (hn : 0 ≤ n ∧ n ≤ 6) {w : Int} : lgEq S (groS S n w) n := fun e he => gro_nd h hn (by omega) (by omega)
theorem u1_lg {e v : Int} (he : e < 4 ∨ 8 < e ∧ e < 52 ∨ 244 ≤ e) : lgEq S (u1 S (244 * n + e) v) n := fun k hk => nd_u1 (by omega)
/-- laying -/
theorem rm_last (h : OK R S) (hn : 0 ≤ n ∧ n ≤ 6) : lastS (rmS S n) n = lastS S n := by
  have hk := OK_kOk h hn
  have hb := (OK_n h hn).2.1.1
  obtain ⟨k1, k2⟩ := hk
  unfold rmS; split
  · unfold lastS; rw [cmS_4, cmS_8]; omega
  · rfl
theorem OK_rm (h : OK R S) (hn : 0 ≤ n ∧ n ≤ 6) : OK R (rmS S n) := by
  unfold rmS; split
  · exact OK_cm h hn
  · exact h
theorem rm_nd (h : OK R S) (hn : 0 ≤ n ∧ n ≤ 6) {e : Int} (he : (0 ≤ e ∧ e < 4) ∨ (9 ≤ e ∧ e < 23) ∨ (31 ≤ e ∧ e < 52)) : nd (rmS S n) n e = nd S n e := by
  unfold rmS; split
  · exact cmS_nd (OK_nOk h hn) (OK_kOk h hn) (by omega)
  · rfl
theorem rm_ne (h : OK R S) (hn : 0 ≤ n ∧ n ≤ 6) {j : Int} (hj : j < 244 * n ∨ 244 * n + 244 ≤ j) : rmS S n j = S j := by
  unfold rmS; split
  · exact cmS_ne (OK_nOk h hn) (OK_kOk h hn) (by omega)
  · rfl
theorem rm_4 : nd (rmS S n) n 4 = nd S n 4 ∨ nd (rmS S n) n 4 = nd S n 9 := by
  unfold rmS; split
  · exact Or.inr cmS_4
  · exact Or.inl rfl
theorem rm_e (h : OK R S) (hn : 0 ≤ n ∧ n ≤ 6) {i k : Int} (h1 : nd (rmS S n) n 4 < i) (h2 : i ≤ nd S n 4 + nd S n 8) (hk4 : 0 ≤ k ∧ k < 4) : rmS S n (lpS (rmS S n) n i + k) = S (lpS S n i + k) := by
  unfold rmS at h1 ⊢; split
  · rename_i q
    rw [if_pos q, cmS_4] at h1
    exact cmS_e (OK_nOk h hn) (OK_kOk h hn) h1 h2 hk4
  · rfl
theorem ly1_nd {t k a b e : Int} (hb : nd S n 8 ≤ 48 ∧ 0 ≤ nd S n 8) (he : 0 ≤ e ∧ e < 52) (h8 : e ≠ 8) : nd (ly1 S n t k a b) n e = nd S n e := by
  unfold ly1
  unfold nd at *
  rw [u1_ne (by omega), u1_ne (by omega), u1_ne (by omega), u1_ne (by omega), u1_ne (by omega)]
theorem ly1_8 {t k a b : Int} (hb : nd S n 8 ≤ 48 ∧ 0 ≤ nd S n 8) : nd (ly1 S n t k a b) n 8 = nd S n 8 + 1 := by
  unfold ly1
  unfold nd at *
  rw [u1_ne (by omega), u1_ne (by omega), u1_ne (by omega), u1_ne (by omega), u1_same]
theorem ly1_ne {t k a b j : Int} (hb : nd S n 8 < 48 ∧ 0 ≤ nd S n 8) (hj : j < 244 * n ∨ 244 * n + 244 ≤ j) : ly1 S n t k a b j = S j := by
  unfold ly1
  rw [u1_ne (by omega), u1_ne (by omega), u1_ne (by omega), u1_ne (by omega), u1_ne (by omega)]
theorem ly1_lp {t k a b i : Int} (hb : nd S n 8 ≤ 48 ∧ 0 ≤ nd S n 8) : lpS (ly1 S n t k a b) n i = lpS S n i := by
  unfold lpS; rw [ly1_nd hb (by omega) (by omega)]
theorem ly1_old {t k a b j : Int} (hj : 244 * n + 52 ≤ j) (hj2 : j < 244 * n + 52 + 4 * nd S n 8) : ly1 S n t k a b j = S j := by
  unfold ly1
  rw [u1_ne (by omega), u1_ne (by omega), u1_ne (by omega), u1_ne (by omega), u1_ne (by omega)]
theorem ly1_new {t k a b : Int} (q : Int) (hq : q = 244 * n + 52 + 4 * nd S n 8) : ly1 S n t k a b q = t ∧ ly1 S n t k a b (q + 1) = k ∧ ly1 S n t k a b (q + 2) = a ∧ ly1 S n t k a b (q + 3) = b := by
  subst hq
  unfold ly1
  refine ⟨?_, ?_, ?_, ?_⟩
  · rw [u1_ne (by omega), u1_ne (by omega), u1_ne (by omega), u1_same]
  · rw [u1_ne (by omega), u1_ne (by omega), u1_same]
  · rw [u1_ne (by omega), u1_same]
  · rw [u1_same]
def eT (t k a b : Int) : Prop := (1 ≤ t ∧ t ≤ 999) ∧ (0 ≤ k ∧ k ≤ 2) ∧ (0 ≤ a ∧ a ≤ 127) ∧ (0 ≤ b ∧ b ≤ 127) ∧ (k = 0 → a ≤ 7)
theorem OK_ly1 {t k a b : Int} (h : OK R S) (hn : 0 ≤ n ∧ n ≤ 6) (he : eT t k a b) (hr : nd S n 8 < 48 ∧ nd S n 4 + nd S n 8 < 999) : OK R (ly1 S n t k a b) := by
  obtain ⟨A, ⟨B1, B2, B3, B4, B5⟩, C, ⟨d1, d2, d3, d4⟩, e1, e2⟩ := OK_n h hn
  have hb : nd S n 8 ≤ 48 ∧ 0 ≤ nd S n 8 := by omega
  have hm := OK_sm h
  refine OK_off h hn (fun j hj => ly1_ne (by omega) hj) ?_ ?_
  · have sc : ∀ e, 0 ≤ e → e < 52 → e ≠ 8 → nd (ly1 S n t k a b) n e = nd S n e := fun e x y z => ly1_nd hb ⟨x, y⟩ z
    have w8 := ly1_8 (t := t) (k := k) (a := a) (b := b) hb
    refine ⟨?_, ⟨?_, ?_, ?_, ?_, ?_⟩, ?_, ⟨fun k k1 k2 => ?_, fun k k1 k2 => ?_, fun k k1 k2 => ?_, fun k k1 k2 => ?_⟩, fun q k1 k2 => ?_, ?_⟩
    · unfold NOKa; rw [sc 0 (by omega) (by omega) (by omega), sc 1 (by omega) (by omega) (by omega), sc 2 (by omega) (by omega) (by omega), sc 3 (by omega) (by omega) (by omega)]; exact A
    · rw [sc 4 (by omega) (by omega) (by omega), w8]; omega
    · rw [sc 5 (by omega) (by omega) (by omega)]; exact B2
    · rw [sc 6 (by omega) (by omega) (by omega)]; exact B3
    · rw [sc 7 (by omega) (by omega) (by omega)]; exact B4
    · rw [sc 4 (by omega) (by omega) (by omega), sc 9 (by omega) (by omega) (by omega), w8]; omega
    · unfold NOKc; rw [sc 10 (by omega) (by omega) (by omega), sc 11 (by omega) (by omega) (by omega), sc 12 (by omega) (by omega) (by omega), sc 13 (by omega) (by omega) (by omega), sc 14 (by omega) (by omega) (by omega)]; exact C
    · rw [sc k (by omega) (by omega) (by omega)]; exact d1 k k1 k2
    · rw [sc k (by omega) (by omega) (by omega)]; exact d2 k k1 k2
    · rw [sc k (by omega) (by omega) (by omega)]; exact d3 k k1 k2
    · rw [sc k (by omega) (by omega) (by omega)]; exact d4 k k1 k2
    · rw [w8] at k2
      by_cases z : q = nd S n 8
      · obtain ⟨z0, z1, z2, z3⟩ := ly1_new (S := S) (n := n) (t := t) (k := k) (a := a) (b := b) (244 * n + (52 + 4 * q)) (by omega)
        unfold EOK nd
        rw [z0, show 244 * n + (52 + 4 * q + 1) = 244 * n + (52 + 4 * q) + 1 by omega, z1, show 244 * n + (52 + 4 * q + 2) = 244 * n + (52 + 4 * q) + 2 by omega, z2, show 244 * n + (52 + 4 * q + 3) = 244 * n + (52 + 4 * q) + 3 by omega, z3]
        exact he
      · refine (EOK_c (fun i i1 i2 => ?_)).mpr (e1 q k1 (by omega))
        unfold nd
        unfold nd at k2
        exact ly1_old (by omega) (by unfold nd; unfold nd at z; omega)
    · unfold NOKf; rw [sc 3 (by omega) (by omega) (by omega), sc 1 (by omega) (by omega) (by omega)]; exact ⟨fun q k k1 k2 => by rw [sc k (by omega) (by omega) (by omega)]; exact e2.1 q k k1 k2, e2.2⟩
  · obtain ⟨x1, x2, x3, x4, -⟩ := he
    unfold ly1
    exact smS_u1 (smS_u1 (smS_u1 (smS_u1 (smS_u1 hm (by omega) (by omega)) (by omega) (by omega)) (by omega) (by omega)) (by omega) (by omega)) (by omega) (by omega)
theorem hasRoom_lt (h : OK R S) (hn : 0 ≤ n ∧ n ≤ 6) (q : hasRoom S n) : nd (rmS S n) n 8 < 48 ∧ nd (rmS S n) n 4 + nd (rmS S n) n 8 < 999 := by
  have := (OK_n (OK_rm h hn) hn).2.1.1
  unfold hasRoom at q; omega
theorem OK_ly {t k a b : Int} (h : OK R S) (hn : 0 ≤ n ∧ n ≤ 6) (he : eT t k a b) : OK R (lyS S n t k a b) := by
  unfold lyS; split
  · rename_i q
    exact OK_ly1 (OK_rm h hn) hn he (hasRoom_lt h hn q)
  · exact OK_rm h hn
theorem ly_nd {t k a b e : Int} (h : OK R S) (hn : 0 ≤ n ∧ n ≤ 6) (he : (0 ≤ e ∧ e < 4) ∨ (9 ≤ e ∧ e < 23) ∨ (31 ≤ e ∧ e < 52)) : nd (lyS S n t k a b) n e = nd S n e := by
  have hb := (OK_n (OK_rm h hn) hn).2.1.1
  unfold lyS; split
  · rw [ly1_nd (by omega) (by omega) (by omega)]; exact rm_nd h hn he
  · exact rm_nd h hn he
theorem ly_ne {t k a b j : Int} (h : OK R S) (hn : 0 ≤ n ∧ n ≤ 6) (hj : j < 244 * n ∨ 244 * n + 244 ≤ j) : lyS S n t k a b j = S j := by
  unfold lyS; split
  · rename_i q
    have := hasRoom_lt h hn q
    have hb := (OK_n (OK_rm h hn) hn).2.1.1
    rw [ly1_ne (by omega) hj]; exact rm_ne h hn hj
  · exact rm_ne h hn hj
end Lg
