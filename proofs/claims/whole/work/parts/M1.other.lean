/-! safety: what the other nodes have stays when one node acts -/
def Ot (n : Int) (S S' : qN) : Prop := ∀ m e, 0 ≤ m → m ≤ 6 → m ≠ n ∧ 0 ≤ e ∧ e < 244 → nd S' m e = nd S m e
theorem Ot_rf {n : Int} {S : qN} : Ot n S S := fun _ _ _ _ _ => rfl
theorem Ot_tr {n : Int} {S S' S'' : qN} (h : Ot n S S') (h' : Ot n S' S'') : Ot n S S'' := fun m e m1 m2 he => (h' m e m1 m2 he).trans (h m e m1 m2 he)
theorem Ot_off {n : Int} {S S' : qN} (h : ∀ m e, 0 ≤ m → m ≤ 6 → m ≠ n ∧ 0 ≤ e ∧ e < 244 → nd S' m e = nd S m e) : Ot n S S' := h
theorem Ot_lo {n : Int} {S S' : qN} (h : ∀ j, j < 1708 → S' j = S j) : Ot n S S' := fun m e m1 m2 he => h _ (by omega)
section Ots
variable {R : Int} {S M F : qN} {n : Int} {L : qL}
theorem Ot_u1 (hn : 0 ≤ n ∧ n ≤ 6) {e v : Int} (he : 0 ≤ e ∧ e < 244) : Ot n S (u1 S (244 * n + e) v) := Ot_off (fun m e m1 m2 he => nd_u1 (by omega))
theorem Ot_po (h : OK R S) : Ot n S (poS L S F) := Ot_off (fun m e m1 m2 he => poS_nd (OK_g h) ⟨m1, m2⟩ (by omega))
theorem Ot_tm (hn : 0 ≤ n ∧ n ≤ 6) (hl : LwOK L) : Ot n S (tmS L S n) := Ot_off (fun m e m1 m2 he => tm_nd hn ⟨m1, m2⟩ (by omega) (by omega))
theorem Ot_sa (h : OK R S) (hn : 0 ≤ n ∧ n ≤ 6) (hl : LwOK L) : Ot n S (saS L S n) := Ot_off (fun m e m1 m2 he => saS_nd h hn hl ⟨m1, m2⟩ (by omega))
theorem Ot_fo (hn : 0 ≤ n ∧ n ≤ 6) {w : Int} : Ot n S (foS S n w) := Ot_off (fun m e m1 m2 he => fo_nd hn ⟨m1, m2⟩ (by omega) (by omega))
theorem Ot_gro (h : OK R S) (hn : 0 ≤ n ∧ n ≤ 6) {w : Int} : Ot n S (groS S n w) := by
  refine Ot_off (fun m e m1 m2 he => ?_)
  by_cases q : m = n
  · exact absurd q he.1
  · exact gro_ne h hn (by omega) (by omega)
theorem Ot_ly (h : OK R S) (hn : 0 ≤ n ∧ n ≤ 6) {t k a b : Int} : Ot n S (lyS S n t k a b) := by
  refine Ot_off (fun m e m1 m2 he => ?_)
  by_cases q : m = n
  · exact absurd q he.1
  · exact ly_ne h hn (by omega)
theorem Ot_fin (hn : 0 ≤ n ∧ n ≤ 6) (hl : LwOK L) : Ot n S (finH L S n) := by
  unfold finH; split
  · exact Ot_rf
  · exact Ot_tr (Ot_fo hn) (Ot_tm hn hl)
theorem Ot_hoB (h : OK R S) (hn : 0 ≤ n ∧ n ≤ 6) (hl : LwOK L) : Ot n S (hoB L S n) := Ot_off (fun m e m1 m2 he => hoB_nd h hn hl ⟨m1, m2⟩ (by omega) (by omega))
theorem Ot_ho (h : OK R S) (hn : 0 ≤ n ∧ n ≤ 6) (hl : LwOK L) (ht : 1 ≤ nd S n 1) : Ot n S (hoS L S n) := by
  have h1 := OK_gm h hn
  have h2 := OK_ly h1 hn (eT_cfg h hn ht)
  have h3 := OK_hoB h2 hn hl
  have a1 : Ot n S (groS S n (mhS S n)) := Ot_gro h hn
  unfold hoS; split
  · split
    · exact Ot_tr (Ot_tr (Ot_tr (Ot_tr a1 (Ot_ly h1 hn)) (Ot_hoB h2 hn hl)) (Ot_gro h3 hn)) (Ot_fin hn hl)
    · exact Ot_tr (Ot_tr a1 (Ot_ly h1 hn)) (Ot_fin hn hl)
  · exact Ot_tr a1 (Ot_fin hn hl)
theorem Ot_lb (h : OK R S) (hn : 0 ≤ n ∧ n ≤ 6) (hl : LwOK L) (ht : 1 ≤ nd S n 1) : Ot n S (lbS L S n) := Ot_tr (Ot_hoB h hn hl) (Ot_ho (OK_hoB h hn hl) hn hl (by rw [hoB_nd h hn hl hn (by omega) (by omega)]; exact ht))
theorem Ot_ld5 (hn : 0 ≤ n ∧ n ≤ 6) : Ot n S (ld5 S n) := Ot_off (fun m e m1 m2 he => ld5_off (by omega))
theorem Ot_ld (h : OK R S) (hn : 0 ≤ n ∧ n ≤ 6) (hl : LwOK L) (ht : 1 ≤ nd S n 1) : Ot n S (ldS L S n) := by
  have h1 := (OK_n h hn).1.2.1
  have hc := OK_cr h hn
  have h5 := OK_ld5 hc hn (by rw [cr_nd h hn hn (by omega)]; exact ht)
  obtain ⟨a, b⟩ := OK_ld6 h hn ht
  have c1 : Ot n S (crS S n) := Ot_off (fun m e m1 m2 he => cr_nd h hn ⟨m1, m2⟩ (by omega))
  exact Ot_tr (Ot_tr (Ot_tr c1 (Ot_ld5 hn)) (Ot_ly h5 hn)) (Ot_lb a hn hl (by rw [b]; exact ht))
theorem Ot_cvF (hn : 0 ≤ n ∧ n ≤ 6) (hl : LwOK L) : ∀ (j : Nat) (to : Int) (S : qN), 0 ≤ to → to + j ≤ 7 → OK R S → Ot n S (cvF L n j to S)
  | 0, _, _, _, _, _ => Ot_rf
  | j + 1, to, S, h0, hj, h => by
    rw [cvF]; split
    · rename_i q
      have := cvM_ok h hn (to := to) (by omega) q.1
      exact Ot_tr (Ot_po h) (Ot_cvF hn hl j (to + 1) _ (by omega) (by omega) (OK_po h this.1 this.2 hl))
    · exact Ot_cvF hn hl j (to + 1) _ (by omega) (by omega) h
theorem Ot_cd {v : Int} (hn : 0 ≤ n ∧ n ≤ 6) : Ot n S (cdS S n v) := Ot_off (fun m e m1 m2 he => by unfold cdS; rw [nd_u1 (by omega), nd_u1 (by omega), nd_u1 (by omega), nd_u1 (by omega), nd_u1 (by omega)])
theorem Ot_st (h : OK R S) (hn : 0 ≤ n ∧ n ≤ 6) (hl : LwOK L) : Ot n S (stS L S n) := by
  have h1 := (OK_n h hn).1.2.1
  unfold stS; split
  · exact Ot_tm hn hl
  · rename_i q
    have hc := OK_cd h hn (fun z => q (Or.inr z))
    have h2 := OK_tm hc hn hl
    have a2 : Ot n S (tmS L (cdS S n (shZ 1 n)) n) := Ot_tr (Ot_cd hn) (Ot_tm hn hl)
    split
    · exact Ot_tr a2 (Ot_ld h2 hn hl (by rw [cd_1 hn]; omega))
    · exact Ot_tr a2 (Ot_cvF (R := R) hn hl 7 0 _ (by omega) (by omega) h2)
theorem Ot_ar (h : OK R S) (hn : 0 ≤ n ∧ n ≤ 6) : Ot n S (arS S n) := Ot_lo (fun j hj => (OK_ar h hn).2 j (by omega))
theorem Ot_an {k a b w : Int} (h : OK R S) : Ot n S (anS L S M k a b w) := Ot_po h
theorem Ot_av (h : OK R S) (hn : 0 ≤ n ∧ n ≤ 6) (hM : MOK R M) (hl : LwOK L) : Ot n S (avS L S M n) := by
  unfold avS; split
  · have h1 := OK_vt h hn hM
    exact Ot_tr (Ot_tr (Ot_u1 hn (by omega)) (Ot_tm hn hl)) (Ot_an (OK_tm h1 hn hl))
  · exact Ot_an h
theorem Ot_hv (h : OK R S) (hn : 0 ≤ n ∧ n ≤ 6) (hM : MOK R M) (hl : LwOK L) : Ot n S (hvS L S M n) := by
  have h1 := OK_hv1 h hn hM
  have a1 : Ot n S (hv1 S M n) := Ot_u1 hn (by omega)
  unfold hvS; split
  · rename_i q
    split
    · exact Ot_tr a1 (Ot_ld h1 hn hl ((OK_n h1 hn).2.2.2.2.2.2 (by unfold hv1; rw [nd_u1 (by omega)]; omega)))
    · exact a1
  · exact Ot_rf
theorem Ot_la (h : OK R S) (hn : 0 ≤ n ∧ n ≤ 6) {i p : Int} : Ot n S (laS S M n i p) := by
  unfold laS; split
  · exact Ot_rf
  · split
    · split
      · exact Ot_rf
      · rename_i q1 q2 q3
        unfold lastS at q2
        have ht := OK_tr h hn (i := i) (by omega) q2
        exact Ot_tr (Ot_off (fun m e m1 m2 he => tr_nd hn ⟨m1, m2⟩ (by omega) (by omega))) (Ot_ly ht hn)
    · exact Ot_ly h hn
theorem Ot_le (hn : 0 ≤ n ∧ n ≤ 6) {prev : Int} : ∀ (j : Nat) (k : Int) (S : qN), (∀ i, k ≤ i → i < k + j → EOK M (11 + 4 * i)) → OK R S → Ot n S (leF M n prev j k S).1
  | 0, k, S, he, h => Ot_rf
  | j + 1, k, S, he, h => by
    have h2 := OK_la (M := M) h hn (i := prev + k + 1) (p := 11 + 4 * k) (he k (by omega) (by omega))
    rw [leF]; split
    · exact Ot_tr (Ot_la h hn) (Ot_le (prev := prev) hn j (k + 1) _ (fun i i1 i2 => he i (by omega) (by omega)) h2)
    · exact Ot_la h hn
theorem Ot_heT (hn : 0 ≤ n ∧ n ≤ 6) (hl : LwOK L) : Ot n S (heT L S M n) := Ot_tr (Ot_fo hn) (Ot_tm hn hl)
theorem Ot_he (h : OK R S) (hn : 0 ≤ n ∧ n ≤ 6) (hM : MOK R M) (hk : M 2 = 2) (hl : LwOK L) : Ot n S (heS L S M n) := by
  have hT := OK_heT (L := L) h hn hM hl
  have aT : Ot n S (heT L S M n) := Ot_heT hn hl
  have hb := (OK_n hT hn).2.1.1
  obtain ⟨M0, M1, M2, M3, M4, M5, M6, M7⟩ := hM.1
  obtain ⟨k6, k65, k8, ke⟩ := hM.2.2.2.1 hk
  unfold heS; split
  · exact Ot_an h
  · split
    · exact Ot_tr aT (Ot_an hT)
    · rename_i q1 q2
      unfold lastS at q2
      split
      · exact Ot_tr aT (Ot_an hT)
      · obtain ⟨a, b, d⟩ := le_ok (M := M) (R := R) (prev := M 6) hn (M 5).toNat 0 (heT L S M n) (fun i i1 i2 => ke i i1 (by omega)) hT (by unfold lastS; omega)
        have e := Ot_le (M := M) (R := R) (prev := M 6) hn (M 5).toNat 0 (heT L S M n) (fun i i1 i2 => ke i i1 (by omega)) hT
        unfold lastS at d
        unfold heE
        exact Ot_tr (Ot_tr (Ot_tr aT e) (Ot_gro a hn)) (Ot_an (OK_gro a hn (by omega)))
theorem Ot_sn (h : OK R S) (hn : 0 ≤ n ∧ n ≤ 6) (hM : MOK R M) (hk : M 2 = 4) (hl : LwOK L) : Ot n S (snS L S M n) := by
  have hT := OK_heT (L := L) h hn hM hl
  have aT : Ot n S (heT L S M n) := Ot_heT hn hl
  obtain ⟨kk1, kk2⟩ := OK_kOk hT hn
  unfold snS; split
  · exact Ot_an h
  · split
    · exact Ot_tr aT (Ot_an hT)
    · refine Ot_tr (Ot_tr aT (Ot_off (fun m e m1 m2 he => ?_))) (Ot_an (OK_in hT hn hM hk (by omega)))
      by_cases q : m = n
      · exact absurd q he.1
      · exact inS_off hT hn (by omega) (by omega)
theorem Ot_iol (hn : 0 ≤ n ∧ n ≤ 6) (hM : MOK R M) : Ot n S (iolS S M n) := by
  have h0 := hM.1.1
  unfold iolS; split
  · exact Ot_u1 hn (by omega)
  · exact Ot_rf
theorem Ot_ma (h : OK R S) (hn : 0 ≤ n ∧ n ≤ 6) (hM : MOK R M) (h3 : nd S n 3 = 2) {i : Int} (hi : 0 ≤ i ∧ i ≤ 999) (hl : LwOK L) : Ot n S (maS L S M n i) := by
  have h0 := hM.1.1
  have h1 := OK_ma1 h hn hM hi
  have ht : 1 ≤ nd (ma1 S M n i) n 1 := by rw [ma1_3 hM (by omega)]; exact (OK_n h hn).2.2.2.2.2.2 (by omega)
  have h2 := OK_ho h1 hn hl ht
  have a1 : Ot n S (ma1 S M n i) := Ot_off (fun m e m1 m2 he => by unfold ma1; rw [nd_u1 (by omega), nd_u1 (by omega)])
  unfold maS; split
  · exact Ot_tr (Ot_tr a1 (Ot_ho h1 hn hl ht)) (Ot_po h2)
  · exact Ot_tr a1 (Ot_ho h1 hn hl ht)
theorem Ot_hx (h : OK R S) (hn : 0 ≤ n ∧ n ≤ 6) (hM : MOK R M) (hne : M 0 ≠ n) (hk : M 2 = 3) (hl : LwOK L) : Ot n S (hxS L S M n) := by
  have h0 := hM.1.1
  have h1 := OK_iol h hn hM
  have hb := hM.2.2.2.2.1 hk
  have a1 := Ot_iol (S := S) hn hM
  unfold hxS; split
  · rename_i q
    have q3 : nd (iolS S M n) n 3 = 2 := by rw [(iol_3 hM).1]; exact q.1
    split
    · exact Ot_tr (Ot_tr a1 (Ot_ma h1 hn hM q3 (by omega) hl)) (Ot_ar (OK_ma h1 hn hM hne q3 (by omega) hl) hn)
    · have h2 := OK_hn1 h1 hn hM
      have a2 : Ot n (iolS S M n) (hn1 (iolS S M n) M n) := Ot_u1 hn (by omega)
      exact Ot_tr (Ot_tr (Ot_tr a1 a2) (Ot_po h2)) (Ot_ar (OK_sd h2 hn hM.1.1 hne hl) hn)
  · exact Ot_rf
theorem Ot_hz (h : OK R S) (hn : 0 ≤ n ∧ n ≤ 6) (hM : MOK R M) (hne : M 0 ≠ n) (hk : M 2 = 5) (hl : LwOK L) : Ot n S (hzS L S M n) := by
  have h1 := OK_iol h hn hM
  have hb := hM.2.2.2.2.2.2 hk
  have a1 := Ot_iol (S := S) hn hM
  unfold hzS; split
  · rename_i q
    have q3 : nd (iolS S M n) n 3 = 2 := by rw [(iol_3 hM).1]; exact q.1
    exact Ot_tr (Ot_tr a1 (Ot_ma h1 hn hM q3 (by omega) hl)) (Ot_ar (OK_ma h1 hn hM hne q3 (by omega) hl) hn)
  · exact Ot_rf
theorem Ot_hd (h : OK R S) (hM : MOK R M) (hl : LwOK L) : Ot (M 1) S (hdS L S M) := by
  have hn := hM.1.2.1
  have hne := hM.1.2.2.1
  have h2 := hM.1.2.2.2.1
  unfold hdS; split
  · exact Ot_lo (fun j hj => u1_ne (by omega))
  · have h1 := OK_hd1 h hM
    have a1 : Ot (M 1) S (hd1 S M) := by
      unfold hd1; split
      · rename_i q
        exact Ot_tr (Ot_off (fun m e m1 m2 he => by rw [nd_u1 (by omega), nd_u1 (by omega)])) (Ot_fo hn)
      · exact Ot_rf
    refine Ot_tr a1 ?_
    unfold hd2
    split
    · exact Ot_av h1 hn hM hl
    · split
      · exact Ot_hv h1 hn hM hl
      · split
        · exact Ot_he h1 hn hM (by assumption) hl
        · split
          · exact Ot_hx h1 hn hM hne (by assumption) hl
          · split
            · exact Ot_sn h1 hn hM (by assumption) hl
            · exact Ot_hz h1 hn hM hne (by omega) hl
end Ots
