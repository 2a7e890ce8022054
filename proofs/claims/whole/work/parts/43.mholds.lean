/-! a node follows; it holds -/
noncomputable def finH (L : qL) (S : qN) (n : Int) : qN := @ite _ (newS S n ≠ 0 ∨ ¬ heldCfg S n ∨ hsZ (memS S n) n) (Classical.propDecidable _) S (tmS L (foS S n (-1)) n)
/-- laid once more, sent, and held -/
noncomputable def hoB (L : qL) (S : qN) (n : Int) : qN := saS L (u1 S (244 * n + (38 + n)) (lastS S n)) n
noncomputable def hoS (L : qL) (S : qN) (n : Int) : qN :=
  @ite _ (newS (groS S n (mhS S n)) n ≠ 0 ∧ heldCfg (groS S n (mhS S n)) n) (Classical.propDecidable _)
    (@ite _ (hasRoom (groS S n (mhS S n)) n) (Classical.propDecidable _)
      (finH L (groS (hoB L (lyS (groS S n (mhS S n)) n (nd S n 1) 1 (newS (groS S n (mhS S n)) n) 0) n) n (mhS (hoB L (lyS (groS S n (mhS S n)) n (nd S n 1) 1 (newS (groS S n (mhS S n)) n) 0) n) n)) n)
      (finH L (lyS (groS S n (mhS S n)) n (nd S n 1) 1 (newS (groS S n (mhS S n)) n) 0) n))
    (finH L (groS S n (mhS S n)) n)
noncomputable def lbS (L : qL) (S : qN) (n : Int) : qN := hoS L (hoB L S n) n
section OKs
variable {R : Int} {S : qN} {n : Int} {L : qL}
theorem OK_lr (h : OK R S) : OK R (lrF S n (S 11135)) := by
  have g := OK_g h
  have e : ∀ j, j < 11028 ∨ 11028 + 6 * S 11135 ≤ j → lrF S n (S 11135) j = S j := fun j hj => hj.elim lrF_lt lrF_ge
  have g5 := g.2.2.2.2.1
  obtain ⟨⟨a1, a2⟩, b, c, d, -, f1, f2, f3⟩ := h
  refine ⟨⟨smS_lrF a1, a2⟩, fun m m1 m2 => NOK_c (fun e' e1 e2 => e _ (by omega)) (b m m1 m2), fun m m1 m2 => ?_, fun m m1 m2 => ?_, ?_, fun m m1 m2 => ?_, fun m m1 m2 => ?_, fun m m1 m2 => ?_⟩
  · have := g.2.2.1
    rw [e _ (by omega)] at m2
    exact MOK_c (fun e' e1 e2 _ => e _ (by omega)) (c m m1 m2)
  · rw [e 11135 (by omega)] at m2
    have D := d m m1 m2
    obtain ⟨D0, D1, D2, D3, D4, D5⟩ := D
    have v : ∀ k, 0 ≤ k → k < 6 → k ≠ 4 → rdv (lrF S n (S 11135)) m k = rdv S m k := by
      intro k k0 k6 k4
      unfold rdv lrF
      rw [if_neg (by omega)]
    have v4 : 0 ≤ rdv (lrF S n (S 11135)) m 4 ∧ rdv (lrF S n (S 11135)) m 4 ≤ 2 := by
      unfold rdv lrF; split
      · omega
      · exact D4
    unfold ROK
    rw [v 0 (by omega) (by omega) (by omega), v 1 (by omega) (by omega) (by omega), v 2 (by omega) (by omega) (by omega), v 3 (by omega) (by omega) (by omega), v 5 (by omega) (by omega) (by omega)]
    exact ⟨D0, D1, D2, D3, v4, D5⟩
  · unfold GOK; rw [e 11131 (by omega), e 11132 (by omega), e 11133 (by omega), e 11134 (by omega), e 11135 (by omega), e 11137 (by omega)]; exact g
  · rw [e _ (by omega)]; exact f1 m m1 m2
  · rw [e _ (by omega)]
    exact (f2 m m1 m2).imp id (fun q => (EOK_c (fun i i1 i2 => e _ (by omega))).mpr q)
  · rw [e _ (by omega)]; exact f3 m m1 m2
theorem OK_fo (h : OK R S) (hn : 0 ≤ n ∧ n ≤ 6) {w : Int} (hw : -1 ≤ w ∧ w ≤ 6) : OK R (foS S n w) := by
  have h1 : OK R (if nd S n 3 = 2 then lrF S n (S 11135) else S) := by
    split
    · exact OK_lr h
    · exact h
  unfold foS
  have h2 := OK_cell h1 hn (e := 3) (v := 0) (by omega) (by unfold cOKv; omega)
  exact OK_cell h2 hn (e := 11) (v := w) (by omega) (by unfold cOKv; omega)
theorem fo_nd {w m e : Int} (hn : 0 ≤ n ∧ n ≤ 6) (hm : 0 ≤ m ∧ m ≤ 6) (he : 0 ≤ e ∧ e < 244) (h : m ≠ n ∨ e ≠ 3 ∧ e ≠ 11) : nd (foS S n w) m e = nd S m e := by
  unfold foS
  rw [nd_u1 (by omega), nd_u1 (by omega)]
  split
  · exact lrF_lt (by omega)
  · rfl
theorem tm_nd {m e : Int} (hn : 0 ≤ n ∧ n ≤ 6) (hm : 0 ≤ m ∧ m ≤ 6) (he : 0 ≤ e ∧ e < 244) (h : m ≠ n ∨ e ≠ 10) : nd (tmS L S n) m e = nd S m e := by
  unfold tmS rnS
  rw [nd_u1 (by omega)]
  exact u1_ne (by omega)
theorem OK_fin (h : OK R S) (hn : 0 ≤ n ∧ n ≤ 6) (hl : LwOK L) : OK R (finH L S n) := by
  unfold finH; split
  · exact h
  · exact OK_tm (OK_fo h hn (by omega)) hn hl
theorem mh_rng (h : OK R S) (hn : 0 ≤ n ∧ n ≤ 6) : nd S n 9 ≤ mhS S n ∧ mhS S n ≤ nd S n 4 + nd S n 8 := by
  have hk := OK_kOk h hn
  obtain ⟨k1, k2⟩ := hk
  have := mhF_rng (S := S) (n := n) (lastS S n - nd S n 9).toNat (lastS S n) (by unfold lastS; omega)
  unfold mhS
  unfold lastS at *
  exact this
theorem OK_gm (h : OK R S) (hn : 0 ≤ n ∧ n ≤ 6) : OK R (groS S n (mhS S n)) := OK_gro h hn (mh_rng h hn).2
theorem OK_hoB (h : OK R S) (hn : 0 ≤ n ∧ n ≤ 6) (hl : LwOK L) : OK R (hoB L S n) := by
  have := (OK_n h hn).2.1.1
  unfold hoB
  refine OK_sa (OK_cell h hn (by omega) ?_) hn hl
  unfold cOKv lastS; omega
theorem new_rng (h : OK R S) (hn : 0 ≤ n ∧ n ≤ 6) : 0 ≤ newS S n ∧ newS S n ≤ 127 := (OK_cOk h hn).2
theorem eT_cfg (h : OK R S) (hn : 0 ≤ n ∧ n ≤ 6) (ht : 1 ≤ nd S n 1) : eT (nd S n 1) 1 (newS (groS S n (mhS S n)) n) 0 := by
  have := new_rng (OK_gm h hn) hn
  have := (OK_n h hn).1.2.1
  unfold eT; omega
theorem OK_ho (h : OK R S) (hn : 0 ≤ n ∧ n ≤ 6) (hl : LwOK L) (ht : 1 ≤ nd S n 1) : OK R (hoS L S n) := by
  have h1 := OK_gm h hn
  have h2 := OK_ly h1 hn (eT_cfg h hn ht)
  unfold hoS; split
  · split
    · exact OK_fin (OK_gm (OK_hoB h2 hn hl) hn) hn hl
    · exact OK_fin h2 hn hl
  · exact OK_fin h1 hn hl
theorem hoB_nd {m e : Int} (h : OK R S) (hn : 0 ≤ n ∧ n ≤ 6) (hl : LwOK L) (hm : 0 ≤ m ∧ m ≤ 6) (he : 0 ≤ e ∧ e < 244) (h9 : m ≠ n ∨ e ≠ 38 + n) : nd (hoB L S n) m e = nd S m e := by
  have := (OK_n h hn).2.1.1
  have h2 : OK R (u1 S (244 * n + (38 + n)) (lastS S n)) := OK_cell h hn (by omega) (by unfold cOKv lastS; omega)
  unfold hoB
  rw [saS_nd h2 hn hl hm he, nd_u1 (by omega)]
theorem OK_lb (h : OK R S) (hn : 0 ≤ n ∧ n ≤ 6) (hl : LwOK L) (ht : 1 ≤ nd S n 1) : OK R (lbS L S n) := by
  unfold lbS
  exact OK_ho (OK_hoB h hn hl) hn hl (by rw [hoB_nd h hn hl hn (by omega) (by omega)]; exact ht)
/-- the config that was laid last -/
theorem ly_new {t a b : Int} (h : OK R S) (hn : 0 ≤ n ∧ n ≤ 6) (q : hasRoom S n) : newS (lyS S n t 1 a b) n = b ∧ oldS (lyS S n t 1 a b) n = a ∧ cfgAt (lyS S n t 1 a b) n 999 = lastS (lyS S n t 1 a b) n := by
  have hr := hasRoom_lt h hn q
  have hb := (OK_n (OK_rm h hn) hn).2.1.1
  rw [lyS, if_pos q]
  have w4 : nd (ly1 (rmS S n) n t 1 a b) n 4 = nd (rmS S n) n 4 := ly1_nd (by omega) (by omega) (by omega)
  have w8 : nd (ly1 (rmS S n) n t 1 a b) n 8 = nd (rmS S n) n 8 + 1 := ly1_8 (by omega)
  obtain ⟨z0, z1, z2, z3⟩ := ly1_new (S := rmS S n) (n := n) (t := t) (k := 1) (a := a) (b := b) (244 * n + 52 + 4 * nd (rmS S n) n 8) rfl
  have hc : cfgAt (ly1 (rmS S n) n t 1 a b) n 999 = nd (rmS S n) n 4 + nd (rmS S n) n 8 + 1 := by
    unfold cfgAt lastS
    rw [w4, w8, show (min 999 (nd (rmS S n) n 4 + (nd (rmS S n) n 8 + 1)) - nd (rmS S n) n 4).toNat = (nd (rmS S n) n 8).toNat + 1 by omega]
    unfold cfgS
    rw [if_pos (by rw [← z1]; congr 1; omega), w4]; omega
  have hlp : lpS (ly1 (rmS S n) n t 1 a b) n (nd (rmS S n) n 4 + nd (rmS S n) n 8 + 1) = 244 * n + 52 + 4 * nd (rmS S n) n 8 := by
    unfold lpS; rw [w4]; omega
  refine ⟨?_, ?_, ?_⟩
  · unfold newS; rw [hc, if_neg (by omega), hlp]; exact z3
  · unfold oldS; rw [hc, if_neg (by omega), hlp]; exact z2
  · rw [hc]; unfold lastS; rw [w4, w8]; omega
end OKs
section MS
variable {l : Launch} {V : qV} {d : Nat} {s : qS} {c r : qI} {R n : Int}
theorem gcR_S (hn : 0 ≤ n ∧ n ≤ 6) : ∀ (j : Nat) (i : Int) (r : qI), OK R (r 2199) → gcR n j i r 2199 = gcS n j i (r 2199) ∧ Rx r (gcR n j i r)
  | 0, i, r, h => ⟨rfl, Rx_rf r⟩
  | j + 1, i, r, h => by
    rw [gcR, gcS]
    by_cases q : hasE (r 2199) n i
    · rw [if_pos q, if_pos q]
      have hb := (OK_n h hn).2.1.1
      have he := OK_E h hn q.1 q.2
      obtain ⟨a, b⟩ := gcR_S hn j (i + 1) (seR r n i) (by rw [seR_now]; exact OK_se h hn q.1 q.2)
      rw [seR_now] at a
      exact ⟨a, Rx_tr (seR_x (OK_eOk h hn q.1 q.2) hn (by unfold hasE at q; omega) (by have := he.1; omega)) b⟩
    · rw [if_neg q, if_neg q]
      exact gcR_S hn j (i + 1) r h
theorem groR_S (hn : 0 ≤ n ∧ n ≤ 6) {w : Int} (h : OK R (r 2199)) : groR r n w 2199 = groS (r 2199) n w ∧ Rx r (groR r n w) := by
  obtain ⟨a, b⟩ := gcR_S hn (w - nd (r 2199) n 9).toNat (nd (r 2199) n 9 + 1) r h
  unfold groR groS
  dsimp only
  refine ⟨by rw [uA_same, a], Rx_tr b (Rx_2199 (fun j j1 j2 => u1_ne (by omega)))⟩
theorem T_grows (hd : 9 ≤ d) (hs : ShMs s) (hn : 0 ≤ n ∧ n ≤ 6) (h : OK R (r 2199)) {w : Int} (hw : 0 ≤ w ∧ w ≤ 999) : TR l V d mi_M_growsCommit [.ref 2198, .int (Int32.ofInt n), .int (Int32.ofInt w)] s c r none (groS (r 2199) n w) :=
  TR_of (T_M_growsCommit hd hs (OK_gOk h hn) (by have := (OK_kOk h hn).1; have := (OK_n h hn).2.1.1; omega) hw) (groR_S hn h).1 (groR_S hn h).2
theorem ly_off {S : qN} {t k a b : Int} (h : OK R S) (hn : 0 ≤ n ∧ n ≤ 6) : ∀ j, 6028 ≤ j → j < 10028 → lyS S n t k a b j = S j := fun j j1 j2 => ly_ne h hn (by omega)
theorem T_lays (hd : 7 ≤ d) (hs : ShMs s) (hn : 0 ≤ n ∧ n ≤ 6) (h : OK R (r 2199)) {t k a b : Int} : TR l V d mi_M_lays [.ref 2198, .int (Int32.ofInt n), .int (Int32.ofInt t), .int (Int32.ofInt k), .int (Int32.ofInt a), .int (Int32.ofInt b)] s c r (some (.int (bI (hasRoom (r 2199) n)))) (lyS (r 2199) n t k a b) :=
  TR_of (T_M_lays hd hs (OK_nOk h hn) (OK_sm h) (OK_kOk h hn)) uA_same (Rx_2199 (ly_off h hn))
theorem fo_off {S : qN} {w : Int} (hn : 0 ≤ n ∧ n ≤ 6) : ∀ j, 6028 ≤ j → j < 10028 → foS S n w j = S j := by
  intro j j1 j2
  unfold foS
  rw [u1_ne (by omega), u1_ne (by omega)]
  split
  · exact lrF_lt (by omega)
  · rfl
theorem T_follows (hd : 5 ≤ d) (hs : ShMs s) (hn : 0 ≤ n ∧ n ≤ 6) (h : OK R (r 2199)) {w : Int} : TR l V d mi_M_follows [.ref 2198, .int (Int32.ofInt n), .int (Int32.ofInt w)] s c r none (foS (r 2199) n w) :=
  TR_of (T_M_follows hd hs hn (OK_sm h) (OK_aOk h)) uA_same (Rx_2199 (fo_off hn))
end MS
