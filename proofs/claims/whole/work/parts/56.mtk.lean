/-! timers and hearts stay in their bounds -/
def Tk (S S' : qN) : Prop := ∀ m, 0 ≤ m → m ≤ 6 → nd S' m 0 = nd S m 0 ∧ (nd S' m 10 = nd S m 10 ∨ 1 ≤ nd S' m 10) ∧ (nd S' m 14 = nd S m 14 ∨ nd S' m 14 ≤ 2)
theorem Tk_rf {S : qN} : Tk S S := fun _ _ _ => ⟨rfl, Or.inl rfl, Or.inl rfl⟩
theorem Tk_tr {S S' S'' : qN} (h : Tk S S') (h' : Tk S' S'') : Tk S S'' := fun m m1 m2 => by
  obtain ⟨a, b, c⟩ := h m m1 m2
  obtain ⟨d, e, f⟩ := h' m m1 m2
  exact ⟨d.trans a, by omega, by omega⟩
theorem Tk_off {S S' : qN} (h : ∀ m e, 0 ≤ m → m ≤ 6 → e = 0 ∨ e = 10 ∨ e = 14 → nd S' m e = nd S m e) : Tk S S' := fun m m1 m2 => ⟨h m 0 m1 m2 (by omega), Or.inl (h m 10 m1 m2 (by omega)), Or.inl (h m 14 m1 m2 (by omega))⟩
theorem Tk_lo {S S' : qN} (h : ∀ j, j < 1708 → S' j = S j) : Tk S S' := Tk_off (fun m e m1 m2 he => h _ (by omega))
section Tks
variable {R : Int} {S M F : qN} {n : Int} {L : qL}
theorem Tk_u1 (hn : 0 ≤ n ∧ n ≤ 6) {e v : Int} (he : 0 ≤ e ∧ e < 244 ∧ e ≠ 0 ∧ e ≠ 10 ∧ e ≠ 14) : Tk S (u1 S (244 * n + e) v) := Tk_off (fun m e' m1 m2 he' => nd_u1 (by omega))
theorem Tk_po (h : OK R S) : Tk S (poS L S F) := Tk_off (fun m e m1 m2 he => poS_nd (OK_g h) ⟨m1, m2⟩ (by omega))
theorem Tk_tm (hn : 0 ≤ n ∧ n ≤ 6) (hl : LwOK L) : Tk S (tmS L S n) := by
  intro m m1 m2
  refine ⟨tm_nd hn ⟨m1, m2⟩ (by omega) (by omega), ?_, Or.inl (tm_nd hn ⟨m1, m2⟩ (by omega) (by omega))⟩
  by_cases q : m = n
  · subst q
    right
    have := (hl (fcS S m m 6)).2.2
    have := rnd_rng (S := S)
    unfold tmS; rw [nd_u1s]; omega
  · exact Or.inl (tm_nd hn ⟨m1, m2⟩ (by omega) (by omega))
theorem tm_10 (hl : LwOK L) : 1 ≤ nd (tmS L S n) n 10 := by
  have := (hl (fcS S n n 6)).2.2
  have := rnd_rng (S := S)
  unfold tmS; rw [nd_u1s]; omega
theorem Tk_sa (h : OK R S) (hn : 0 ≤ n ∧ n ≤ 6) (hl : LwOK L) : Tk S (saS L S n) := Tk_off (fun m e m1 m2 he => saS_nd h hn hl ⟨m1, m2⟩ (by omega))
theorem Tk_fo (hn : 0 ≤ n ∧ n ≤ 6) {w : Int} : Tk S (foS S n w) := Tk_off (fun m e m1 m2 he => fo_nd hn ⟨m1, m2⟩ (by omega) (by omega))
theorem gc_nd2 (hn : 0 ≤ n ∧ n ≤ 6) {j : Int} (hj : j < 244 * n ∨ 244 * n + 244 ≤ j) (h6 : j < 1708) : ∀ (k : Nat) (i : Int) (S : qN), OK R S → gcS n k i S j = S j
  | 0, _, _, _ => rfl
  | k + 1, i, S, h => by
    rw [gcS]; split
    · rename_i q
      rw [gc_nd2 hn hj h6 k (i + 1) _ (OK_se h hn q.1 q.2)]
      have hb := (OK_n h hn).2.1.1
      exact seS_ne (OK_eOk h hn q.1 q.2) (by have := q.1; omega) (by omega) (by omega)
    · exact gc_nd2 hn hj h6 k (i + 1) S h
theorem gro_ne (h : OK R S) (hn : 0 ≤ n ∧ n ≤ 6) {w j : Int} (hj : j < 244 * n ∨ 244 * n + 244 ≤ j) (h6 : j < 1708) : groS S n w j = S j := by
  unfold groS
  rw [u1_ne (by omega)]
  exact gc_nd2 hn hj h6 _ _ S h
theorem Tk_gro (h : OK R S) (hn : 0 ≤ n ∧ n ≤ 6) {w : Int} : Tk S (groS S n w) := by
  refine Tk_off (fun m e m1 m2 he => ?_)
  by_cases q : m = n
  · subst q; exact gro_nd h hn (by omega) (by omega)
  · exact gro_ne h hn (by omega) (by omega)
theorem Tk_ly (h : OK R S) (hn : 0 ≤ n ∧ n ≤ 6) {t k a b : Int} : Tk S (lyS S n t k a b) := by
  refine Tk_off (fun m e m1 m2 he => ?_)
  by_cases q : m = n
  · subst q; exact ly_nd h hn (by omega)
  · exact ly_ne h hn (by omega)
theorem Tk_fin (hn : 0 ≤ n ∧ n ≤ 6) (hl : LwOK L) : Tk S (finH L S n) := by
  unfold finH; split
  · exact Tk_rf
  · exact Tk_tr (Tk_fo hn) (Tk_tm hn hl)
theorem Tk_hoB (h : OK R S) (hn : 0 ≤ n ∧ n ≤ 6) (hl : LwOK L) : Tk S (hoB L S n) := Tk_off (fun m e m1 m2 he => hoB_nd h hn hl ⟨m1, m2⟩ (by omega) (by omega))
theorem Tk_ho (h : OK R S) (hn : 0 ≤ n ∧ n ≤ 6) (hl : LwOK L) (ht : 1 ≤ nd S n 1) : Tk S (hoS L S n) := by
  have h1 := OK_gm h hn
  have h2 := OK_ly h1 hn (eT_cfg h hn ht)
  have h3 := OK_hoB h2 hn hl
  have a1 : Tk S (groS S n (mhS S n)) := Tk_gro h hn
  unfold hoS; split
  · split
    · exact Tk_tr (Tk_tr (Tk_tr (Tk_tr a1 (Tk_ly h1 hn)) (Tk_hoB h2 hn hl)) (Tk_gro h3 hn)) (Tk_fin hn hl)
    · exact Tk_tr (Tk_tr a1 (Tk_ly h1 hn)) (Tk_fin hn hl)
  · exact Tk_tr a1 (Tk_fin hn hl)
theorem Tk_lb (h : OK R S) (hn : 0 ≤ n ∧ n ≤ 6) (hl : LwOK L) (ht : 1 ≤ nd S n 1) : Tk S (lbS L S n) := Tk_tr (Tk_hoB h hn hl) (Tk_ho (OK_hoB h hn hl) hn hl (by rw [hoB_nd h hn hl hn (by omega) (by omega)]; exact ht))
theorem Tk_ld5 (hn : 0 ≤ n ∧ n ≤ 6) : Tk S (ld5 S n) := by
  intro m m1 m2
  by_cases q : m = n
  · subst q
    refine ⟨?_, Or.inl ?_, Or.inr ?_⟩
    · rw [ld5_e (by omega)]; simp only [show ¬ (0 : Int) = 3 by omega, show ¬ (0 : Int) = 11 by omega, show ¬ (0 : Int) = 14 by omega, show ¬ (0 : Int) = 13 by omega, show ¬ (31 ≤ (0 : Int) ∧ (0 : Int) < 38) by omega, show ¬ (38 ≤ (0 : Int) ∧ (0 : Int) < 52) by omega, if_false]
    · rw [ld5_e (by omega)]; simp only [show ¬ (10 : Int) = 3 by omega, show ¬ (10 : Int) = 11 by omega, show ¬ (10 : Int) = 14 by omega, show ¬ (10 : Int) = 13 by omega, show ¬ (31 ≤ (10 : Int) ∧ (10 : Int) < 38) by omega, show ¬ (38 ≤ (10 : Int) ∧ (10 : Int) < 52) by omega, if_false]
    · rw [ld5_e (by omega)]; simp only [show ¬ (14 : Int) = 3 by omega, show ¬ (14 : Int) = 11 by omega, if_true, if_false]; omega
  · have e : ∀ e, 0 ≤ e → e < 244 → nd (ld5 S n) m e = nd S m e := fun e e0 e1 => ld5_off (by omega)
    exact ⟨e 0 (by omega) (by omega), Or.inl (e 10 (by omega) (by omega)), Or.inl (e 14 (by omega) (by omega))⟩
theorem Tk_ld (h : OK R S) (hn : 0 ≤ n ∧ n ≤ 6) (hl : LwOK L) (ht : 1 ≤ nd S n 1) : Tk S (ldS L S n) := by
  have h1 := (OK_n h hn).1.2.1
  have hc := OK_cr h hn
  have h5 := OK_ld5 hc hn (by rw [cr_nd h hn hn (by omega)]; exact ht)
  obtain ⟨a, b⟩ := OK_ld6 h hn ht
  have c1 : Tk S (crS S n) := Tk_off (fun m e m1 m2 he => cr_nd h hn ⟨m1, m2⟩ (by omega))
  exact Tk_tr (Tk_tr (Tk_tr c1 (Tk_ld5 hn)) (Tk_ly h5 hn)) (Tk_lb a hn hl (by rw [b]; exact ht))
theorem Tk_cvF (hn : 0 ≤ n ∧ n ≤ 6) (hl : LwOK L) : ∀ (j : Nat) (to : Int) (S : qN), 0 ≤ to → to + j ≤ 7 → OK R S → Tk S (cvF L n j to S)
  | 0, _, _, _, _, _ => Tk_rf
  | j + 1, to, S, h0, hj, h => by
    rw [cvF]; split
    · rename_i q
      have := cvM_ok h hn (to := to) (by omega) q.1
      exact Tk_tr (Tk_po h) (Tk_cvF hn hl j (to + 1) _ (by omega) (by omega) (OK_po h this.1 this.2 hl))
    · exact Tk_cvF hn hl j (to + 1) _ (by omega) (by omega) h
theorem Tk_cd {v : Int} (hn : 0 ≤ n ∧ n ≤ 6) : Tk S (cdS S n v) := Tk_off (fun m e m1 m2 he => by unfold cdS; rw [nd_u1 (by omega), nd_u1 (by omega), nd_u1 (by omega), nd_u1 (by omega), nd_u1 (by omega)])
theorem st_10 (h : OK R S) (hn : 0 ≤ n ∧ n ≤ 6) (hl : LwOK L) : Tk S (stS L S n) ∧ 1 ≤ nd (stS L S n) n 10 := by
  have h1 := (OK_n h hn).1.2.1
  unfold stS; split
  · exact ⟨Tk_tm hn hl, tm_10 hl⟩
  · rename_i q
    have hc := OK_cd h hn (fun z => q (Or.inr z))
    have h2 := OK_tm hc hn hl
    have a2 : Tk S (tmS L (cdS S n (shZ 1 n)) n) := Tk_tr (Tk_cd hn) (Tk_tm hn hl)
    have t := tm_10 (S := cdS S n (shZ 1 n)) (n := n) hl
    split
    · have b := Tk_ld h2 hn hl (by rw [cd_1 hn]; omega)
      exact ⟨Tk_tr a2 b, by have := (b n hn.1 hn.2).2.1; omega⟩
    · have b := Tk_cvF (R := R) hn hl 7 0 _ (by omega) (by omega) h2
      exact ⟨Tk_tr a2 b, by have := (b n hn.1 hn.2).2.1; omega⟩
theorem Tk_ar (h : OK R S) (hn : 0 ≤ n ∧ n ≤ 6) : Tk S (arS S n) := Tk_lo (fun j hj => (OK_ar h hn).2 j (by omega))
theorem Tk_an {k a b w : Int} (h : OK R S) : Tk S (anS L S M k a b w) := Tk_po h
theorem Tk_av (h : OK R S) (hn : 0 ≤ n ∧ n ≤ 6) (hM : MOK R M) (hl : LwOK L) : Tk S (avS L S M n) := by
  unfold avS; split
  · have h1 := OK_vt h hn hM
    exact Tk_tr (Tk_tr (Tk_u1 hn (by omega)) (Tk_tm hn hl)) (Tk_an (OK_tm h1 hn hl))
  · exact Tk_an h
theorem Tk_hv (h : OK R S) (hn : 0 ≤ n ∧ n ≤ 6) (hM : MOK R M) (hl : LwOK L) : Tk S (hvS L S M n) := by
  have h1 := OK_hv1 h hn hM
  have a1 : Tk S (hv1 S M n) := Tk_u1 hn (by omega)
  unfold hvS; split
  · rename_i q
    split
    · exact Tk_tr a1 (Tk_ld h1 hn hl ((OK_n h1 hn).2.2.2.2.2.2 (by unfold hv1; rw [nd_u1 (by omega)]; omega)))
    · exact a1
  · exact Tk_rf
theorem Tk_la (h : OK R S) (hn : 0 ≤ n ∧ n ≤ 6) {i p : Int} : Tk S (laS S M n i p) := by
  unfold laS; split
  · exact Tk_rf
  · split
    · split
      · exact Tk_rf
      · rename_i q1 q2 q3
        unfold lastS at q2
        have ht := OK_tr h hn (i := i) (by omega) q2
        exact Tk_tr (Tk_off (fun m e m1 m2 he => tr_nd hn ⟨m1, m2⟩ (by omega) (by omega))) (Tk_ly ht hn)
    · exact Tk_ly h hn
theorem Tk_le (hn : 0 ≤ n ∧ n ≤ 6) {prev : Int} : ∀ (j : Nat) (k : Int) (S : qN), (∀ i, k ≤ i → i < k + j → EOK M (11 + 4 * i)) → OK R S → Tk S (leF M n prev j k S).1
  | 0, k, S, he, h => Tk_rf
  | j + 1, k, S, he, h => by
    have h2 := OK_la (M := M) h hn (i := prev + k + 1) (p := 11 + 4 * k) (he k (by omega) (by omega))
    rw [leF]; split
    · exact Tk_tr (Tk_la h hn) (Tk_le (prev := prev) hn j (k + 1) _ (fun i i1 i2 => he i (by omega) (by omega)) h2)
    · exact Tk_la h hn
theorem Tk_heT (hn : 0 ≤ n ∧ n ≤ 6) (hl : LwOK L) : Tk S (heT L S M n) := Tk_tr (Tk_fo hn) (Tk_tm hn hl)
theorem Tk_he (h : OK R S) (hn : 0 ≤ n ∧ n ≤ 6) (hM : MOK R M) (hk : M 2 = 2) (hl : LwOK L) : Tk S (heS L S M n) := by
  have hT := OK_heT (L := L) h hn hM hl
  have aT : Tk S (heT L S M n) := Tk_heT hn hl
  have hb := (OK_n hT hn).2.1.1
  obtain ⟨M0, M1, M2, M3, M4, M5, M6, M7⟩ := hM.1
  obtain ⟨k6, k65, k8, ke⟩ := hM.2.2.2.1 hk
  unfold heS; split
  · exact Tk_an h
  · split
    · exact Tk_tr aT (Tk_an hT)
    · rename_i q1 q2
      unfold lastS at q2
      split
      · exact Tk_tr aT (Tk_an hT)
      · obtain ⟨a, b, d⟩ := le_ok (M := M) (R := R) (prev := M 6) hn (M 5).toNat 0 (heT L S M n) (fun i i1 i2 => ke i i1 (by omega)) hT (by unfold lastS; omega)
        have e := Tk_le (M := M) (R := R) (prev := M 6) hn (M 5).toNat 0 (heT L S M n) (fun i i1 i2 => ke i i1 (by omega)) hT
        unfold lastS at d
        unfold heE
        exact Tk_tr (Tk_tr (Tk_tr aT e) (Tk_gro a hn)) (Tk_an (OK_gro a hn (by omega)))
theorem Tk_sn (h : OK R S) (hn : 0 ≤ n ∧ n ≤ 6) (hM : MOK R M) (hk : M 2 = 4) (hl : LwOK L) : Tk S (snS L S M n) := by
  have hT := OK_heT (L := L) h hn hM hl
  have aT : Tk S (heT L S M n) := Tk_heT hn hl
  obtain ⟨kk1, kk2⟩ := OK_kOk hT hn
  unfold snS; split
  · exact Tk_an h
  · split
    · exact Tk_tr aT (Tk_an hT)
    · refine Tk_tr (Tk_tr aT (Tk_off (fun m e m1 m2 he => ?_))) (Tk_an (OK_in hT hn hM hk (by omega)))
      by_cases q : m = n
      · subst q; exact inS_o (by omega) (by omega) (by omega)
      · exact inS_off hT hn (by omega) (by omega)
theorem Tk_iol (hn : 0 ≤ n ∧ n ≤ 6) (hM : MOK R M) : Tk S (iolS S M n) := by
  have h0 := hM.1.1
  unfold iolS; split
  · exact Tk_u1 hn (by omega)
  · exact Tk_rf
theorem Tk_ma (h : OK R S) (hn : 0 ≤ n ∧ n ≤ 6) (hM : MOK R M) (h3 : nd S n 3 = 2) {i : Int} (hi : 0 ≤ i ∧ i ≤ 999) (hl : LwOK L) : Tk S (maS L S M n i) := by
  have h0 := hM.1.1
  have h1 := OK_ma1 h hn hM hi
  have ht : 1 ≤ nd (ma1 S M n i) n 1 := by rw [ma1_3 hM (by omega)]; exact (OK_n h hn).2.2.2.2.2.2 (by omega)
  have h2 := OK_ho h1 hn hl ht
  have a1 : Tk S (ma1 S M n i) := Tk_off (fun m e m1 m2 he => by unfold ma1; rw [nd_u1 (by omega), nd_u1 (by omega)])
  unfold maS; split
  · exact Tk_tr (Tk_tr a1 (Tk_ho h1 hn hl ht)) (Tk_po h2)
  · exact Tk_tr a1 (Tk_ho h1 hn hl ht)
theorem Tk_hx (h : OK R S) (hn : 0 ≤ n ∧ n ≤ 6) (hM : MOK R M) (hne : M 0 ≠ n) (hk : M 2 = 3) (hl : LwOK L) : Tk S (hxS L S M n) := by
  have h0 := hM.1.1
  have h1 := OK_iol h hn hM
  have hb := hM.2.2.2.2.1 hk
  have a1 := Tk_iol (S := S) hn hM
  unfold hxS; split
  · rename_i q
    have q3 : nd (iolS S M n) n 3 = 2 := by rw [(iol_3 hM).1]; exact q.1
    split
    · exact Tk_tr (Tk_tr a1 (Tk_ma h1 hn hM q3 (by omega) hl)) (Tk_ar (OK_ma h1 hn hM hne q3 (by omega) hl) hn)
    · have h2 := OK_hn1 h1 hn hM
      have a2 : Tk (iolS S M n) (hn1 (iolS S M n) M n) := Tk_u1 hn (by omega)
      exact Tk_tr (Tk_tr (Tk_tr a1 a2) (Tk_po h2)) (Tk_ar (OK_sd h2 hn hM.1.1 hne hl) hn)
  · exact Tk_rf
theorem Tk_hz (h : OK R S) (hn : 0 ≤ n ∧ n ≤ 6) (hM : MOK R M) (hne : M 0 ≠ n) (hk : M 2 = 5) (hl : LwOK L) : Tk S (hzS L S M n) := by
  have h1 := OK_iol h hn hM
  have hb := hM.2.2.2.2.2.2 hk
  have a1 := Tk_iol (S := S) hn hM
  unfold hzS; split
  · rename_i q
    have q3 : nd (iolS S M n) n 3 = 2 := by rw [(iol_3 hM).1]; exact q.1
    exact Tk_tr (Tk_tr a1 (Tk_ma h1 hn hM q3 (by omega) hl)) (Tk_ar (OK_ma h1 hn hM hne q3 (by omega) hl) hn)
  · exact Tk_rf
theorem Tk_hd (h : OK R S) (hM : MOK R M) (hl : LwOK L) : Tk S (hdS L S M) := by
  have hn := hM.1.2.1
  have hne := hM.1.2.2.1
  have h2 := hM.1.2.2.2.1
  unfold hdS; split
  · exact Tk_lo (fun j hj => u1_ne (by omega))
  · have h1 := OK_hd1 h hM
    have a1 : Tk S (hd1 S M) := by
      unfold hd1; split
      · rename_i q
        exact Tk_tr (Tk_off (fun m e m1 m2 he => by rw [nd_u1 (by omega), nd_u1 (by omega)])) (Tk_fo hn)
      · exact Tk_rf
    refine Tk_tr a1 ?_
    unfold hd2
    split
    · exact Tk_av h1 hn hM hl
    · split
      · exact Tk_hv h1 hn hM hl
      · split
        · exact Tk_he h1 hn hM (by assumption) hl
        · split
          · exact Tk_hx h1 hn hM hne (by assumption) hl
          · split
            · exact Tk_sn h1 hn hM (by assumption) hl
            · exact Tk_hz h1 hn hM hne (by omega) hl
end Tks
