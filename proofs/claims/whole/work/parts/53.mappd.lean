/-! mail is only laid behind, due later -/
def Ap (S S' : qN) : Prop := S' 11131 = S 11131 ∧ S 11133 ≤ S' 11133 ∧ (∀ j, 1708 ≤ j → j < 1708 + 27 * S 11133 → S' j = S j) ∧ (∀ m, 0 ≤ m → S 11133 ≤ m → m < S' 11133 → S 11131 < S' (1708 + 27 * m + 4)) ∧ S' 11135 = S 11135
theorem Ap_rf {S : qN} : Ap S S := ⟨rfl, Int.le_refl _, fun _ _ _ => rfl, fun m h0 h1 h2 => by omega, rfl⟩
theorem Ap_tr {S S' S'' : qN} (h : Ap S S') (h' : Ap S' S'') : Ap S S'' := by
  obtain ⟨a1, a2, a3, a4, a5⟩ := h
  obtain ⟨b1, b2, b3, b4, b5⟩ := h'
  refine ⟨by omega, by omega, fun j j1 j2 => by rw [b3 j j1 (by omega), a3 j j1 j2], fun m m0 m1 m2 => ?_, b5.trans a5⟩
  by_cases q : m < S' 11133
  · rw [b3 _ (by omega) (by omega)]; exact a4 m m0 m1 q
  · have := b4 m m0 (by omega) m2; omega
theorem Ap_off {S S' : qN} (g : GOK S) (h : ∀ j, (1708 ≤ j ∧ j < 6028) ∨ j = 11131 ∨ j = 11133 ∨ j = 11135 → S' j = S j) : Ap S S' := by
  have := g.2.2.1
  refine ⟨h _ (by omega), by rw [h 11133 (by omega)]; omega, fun j j1 j2 => h j (by omega), fun m m0 m1 m2 => ?_, h _ (by omega)⟩
  rw [h 11133 (by omega)] at m2; omega
section Aps
variable {R : Int} {S M F : qN} {n : Int} {L : qL}
theorem Ap_u1 (h : OK R S) (hn : 0 ≤ n ∧ n ≤ 6) {e v : Int} (he : 0 ≤ e ∧ e < 244) : Ap S (u1 S (244 * n + e) v) := Ap_off (OK_g h) (fun j hj => u1_ne (by omega))
theorem Ap_po (h : OK R S) (hl : LwOK L) : Ap S (poS L S F) := by
  have g := OK_g h
  have := g.2.2.1
  have q := hl (fcS S (F 0) (F 1) (F 2))
  have e0 : ∀ j, j ≠ 11132 → rnS S j = S j := fun j hj => u1_ne hj
  by_cases hp : (L (fcS S (F 0) (F 1) (F 2))).2.2.2 ∨ rndS S % 10 < (L (fcS S (F 0) (F 1) (F 2))).2.1 ∨ S 11133 = 160
  · rw [poS_y hp]
    exact Ap_off g (fun j hj => by rw [u1_ne (by omega)]; exact e0 j (by omega))
  · rw [poS_n hp]
    have h160 : S 11133 ≠ 160 := fun z => hp (Or.inr (Or.inr z))
    refine ⟨?_, by rw [u1_same]; omega, fun j j1 j2 => ?_, fun m m0 m1 m2 => ?_, ?_⟩
    · rw [u1_ne (by omega)]; unfold cpN; rw [if_neg (by omega)]; exact e0 _ (by omega)
    · rw [u1_ne (by omega)]; unfold cpN; rw [if_neg (by omega)]; exact e0 _ (by omega)
    · rw [u1_same] at m2
      rw [u1_ne (by omega)]
      unfold cpN
      rw [if_pos (by omega), show (0 : Int) + (1708 + 27 * m + 4 - (1708 + 27 * S 11133)) = 4 by omega, u1_same]
      omega
    · rw [u1_ne (by omega)]; unfold cpN; rw [if_neg (by omega)]; exact e0 _ (by omega)
theorem Ap_tm (h : OK R S) (hn : 0 ≤ n ∧ n ≤ 6) : Ap S (tmS L S n) := Ap_off (OK_g h) (fun j hj => by unfold tmS rnS; rw [u1_ne (by omega), u1_ne (by omega)])
theorem Ap_saF (hn : 0 ≤ n ∧ n ≤ 6) (hl : LwOK L) : ∀ (j : Nat) (to : Int) (S : qN), 0 ≤ to → to + j ≤ 7 → OK R S → Ap S (saF L n j to S)
  | 0, _, _, _, _, _ => Ap_rf
  | j + 1, to, S, h0, hj, h => by
    rw [saF]; split
    · rename_i q
      exact Ap_tr (Ap_po h hl) (Ap_saF hn hl j (to + 1) _ (by omega) (by omega) (OK_sd h hn (by omega) q.1 hl))
    · exact Ap_saF hn hl j (to + 1) _ (by omega) (by omega) h
theorem Ap_sa (h : OK R S) (hn : 0 ≤ n ∧ n ≤ 6) (hl : LwOK L) : Ap S (saS L S n) := Ap_saF hn hl 7 0 S (by omega) (by omega) h
theorem Ap_fo (h : OK R S) (hn : 0 ≤ n ∧ n ≤ 6) {w : Int} : Ap S (foS S n w) := by
  refine Ap_off (OK_g h) (fun j hj => ?_)
  have g5 := (OK_g h).2.2.2.2.1
  unfold foS
  rw [u1_ne (by omega), u1_ne (by omega)]
  split
  · rcases hj with hj | hj | hj | hj
    · exact lrF_lt (by omega)
    · exact lrF_ge (by omega)
    · exact lrF_ge (by omega)
    · exact lrF_ge (by omega)
  · rfl
theorem gc_off (hn : 0 ≤ n ∧ n ≤ 6) {j : Int} (hj : (1708 ≤ j ∧ j < 6028) ∨ 10028 ≤ j) (h1 : j ≠ 11134) (h2 : j ≠ 11136) : ∀ (k : Nat) (i : Int) (S : qN), OK R S → gcS n k i S j = S j
  | 0, _, _, _ => rfl
  | k + 1, i, S, h => by
    rw [gcS]; split
    · rename_i q
      rw [gc_off hn hj h1 h2 k (i + 1) _ (OK_se h hn q.1 q.2)]
      have he := OK_eOk h hn q.1 q.2
      have hb := (OK_n h hn).2.1.1
      have q1 := q.1
      have q2 := q.2
      unfold seS
      split
      · rw [u1_ne (by omega), u1_ne (by omega), u1_ne (by omega), u1_ne (by omega), u1_ne (by omega), seK_ne he (by omega)]
      · split
        · exact seK_ne he (by omega)
        · rw [u1_ne (by omega), seK_ne he (by omega)]
    · exact gc_off hn hj h1 h2 k (i + 1) S h
theorem gro_off (h : OK R S) (hn : 0 ≤ n ∧ n ≤ 6) {w j : Int} (hj : (1708 ≤ j ∧ j < 6028) ∨ 10028 ≤ j) (h1 : j ≠ 11134) (h2 : j ≠ 11136) : groS S n w j = S j := by
  unfold groS
  rw [u1_ne (by omega)]
  exact gc_off hn hj h1 h2 _ _ S h
theorem Ap_gro (h : OK R S) (hn : 0 ≤ n ∧ n ≤ 6) {w : Int} : Ap S (groS S n w) := Ap_off (OK_g h) (fun j hj => gro_off h hn (by omega) (by omega) (by omega))
theorem Ap_ly (h : OK R S) (hn : 0 ≤ n ∧ n ≤ 6) {t k a b : Int} : Ap S (lyS S n t k a b) := Ap_off (OK_g h) (fun j hj => ly_ne h hn (by omega))
theorem Ap_fin (h : OK R S) (hn : 0 ≤ n ∧ n ≤ 6) : Ap S (finH L S n) := by
  unfold finH; split
  · exact Ap_rf
  · exact Ap_tr (Ap_fo h hn) (Ap_tm (OK_fo h hn (by omega)) hn)
theorem Ap_hoB (h : OK R S) (hn : 0 ≤ n ∧ n ≤ 6) (hl : LwOK L) : Ap S (hoB L S n) := by
  have hb := (OK_n h hn).2.1.1
  unfold hoB
  exact Ap_tr (Ap_u1 h hn (by omega)) (Ap_sa (OK_cell h hn (by omega) (by unfold cOKv lastS; omega)) hn hl)
theorem Ap_ho (h : OK R S) (hn : 0 ≤ n ∧ n ≤ 6) (hl : LwOK L) (ht : 1 ≤ nd S n 1) : Ap S (hoS L S n) := by
  have h1 := OK_gm h hn
  have h2 := OK_ly h1 hn (eT_cfg h hn ht)
  have h3 := OK_hoB h2 hn hl
  have a1 : Ap S (groS S n (mhS S n)) := Ap_gro h hn
  unfold hoS; split
  · split
    · exact Ap_tr (Ap_tr (Ap_tr (Ap_tr a1 (Ap_ly h1 hn)) (Ap_hoB h2 hn hl)) (Ap_gro h3 hn)) (Ap_fin (OK_gm h3 hn) hn)
    · exact Ap_tr (Ap_tr a1 (Ap_ly h1 hn)) (Ap_fin h2 hn)
  · exact Ap_tr a1 (Ap_fin h1 hn)
theorem Ap_lb (h : OK R S) (hn : 0 ≤ n ∧ n ≤ 6) (hl : LwOK L) (ht : 1 ≤ nd S n 1) : Ap S (lbS L S n) := Ap_tr (Ap_hoB h hn hl) (Ap_ho (OK_hoB h hn hl) hn hl (by rw [hoB_nd h hn hl hn (by omega) (by omega)]; exact ht))
theorem Ap_ld (h : OK R S) (hn : 0 ≤ n ∧ n ≤ 6) (hl : LwOK L) (ht : 1 ≤ nd S n 1) : Ap S (ldS L S n) := by
  have h1 := (OK_n h hn).1.2.1
  have hc := OK_cr h hn
  have h5 := OK_ld5 hc hn (by rw [cr_nd h hn hn (by omega)]; exact ht)
  obtain ⟨a, b⟩ := OK_ld6 h hn ht
  have c1 : Ap S (crS S n) := Ap_off (OK_g h) (fun j hj => by
    unfold crS; split
    · rw [u1_ne (by omega)]
    · split
      · rfl
      · rw [u1_ne (by omega)])
  have c2 : Ap (crS S n) (ld5 (crS S n) n) := Ap_off (OK_g hc) (fun j hj => ld5_off (by omega))
  exact Ap_tr (Ap_tr (Ap_tr c1 c2) (Ap_ly h5 hn)) (Ap_lb a hn hl (by rw [b]; exact ht))
theorem Ap_cvF (hn : 0 ≤ n ∧ n ≤ 6) (hl : LwOK L) : ∀ (j : Nat) (to : Int) (S : qN), 0 ≤ to → to + j ≤ 7 → OK R S → Ap S (cvF L n j to S)
  | 0, _, _, _, _, _ => Ap_rf
  | j + 1, to, S, h0, hj, h => by
    rw [cvF]; split
    · rename_i q
      have := cvM_ok h hn (to := to) (by omega) q.1
      exact Ap_tr (Ap_po h hl) (Ap_cvF hn hl j (to + 1) _ (by omega) (by omega) (OK_po h this.1 this.2 hl))
    · exact Ap_cvF hn hl j (to + 1) _ (by omega) (by omega) h
theorem Ap_st (h : OK R S) (hn : 0 ≤ n ∧ n ≤ 6) (hl : LwOK L) : Ap S (stS L S n) := by
  have h1 := (OK_n h hn).1.2.1
  unfold stS; split
  · exact Ap_tm h hn
  · rename_i q
    have hc := OK_cd h hn (fun z => q (Or.inr z))
    have h2 := OK_tm hc hn hl
    have a1 : Ap S (cdS S n (shZ 1 n)) := Ap_off (OK_g h) (fun j hj => by unfold cdS; rw [u1_ne (by omega), u1_ne (by omega), u1_ne (by omega), u1_ne (by omega), u1_ne (by omega)])
    have a2 := Ap_tr a1 (Ap_tm (L := L) hc hn)
    split
    · exact Ap_tr a2 (Ap_ld h2 hn hl (by rw [cd_1 hn]; omega))
    · exact Ap_tr a2 (Ap_cvF hn hl 7 0 _ (by omega) (by omega) h2)
theorem Ap_ar (h : OK R S) (hn : 0 ≤ n ∧ n ≤ 6) : Ap S (arS S n) := by
  have g5 := (OK_g h).2.2.2.2.1
  have key : ∀ (j : Nat) (m : Int) (S : qN), 0 ≤ m → m + j ≤ S 11135 → OK R S → arF n j m S 11131 = S 11131 ∧ arF n j m S 11133 = S 11133 ∧ arF n j m S 11135 = S 11135 := by
    intro j
    induction j with
    | zero => intro m S _ _ _; exact ⟨rfl, rfl, rfl⟩
    | succ j ih =>
      intro m S m0 mj h
      have g5 := (OK_g h).2.2.2.2.1
      obtain ⟨a, b, c⟩ := OK_ar1 h hn (m := m) (by omega)
      obtain ⟨d, e, f⟩ := ih (m + 1) (ar1 S n m) (by omega) (by rw [b]; omega) a
      rw [arF, d, e, f, b]
      refine ⟨?_, ?_, rfl⟩
      all_goals
       unfold ar1
       split
       · split
         · rw [u1_ne (by omega), u1_ne (by omega), u1_ne (by omega)]
         · rw [u1_ne (by omega), u1_ne (by omega)]
       · rfl
  have k2 : arS S n 11131 = S 11131 ∧ arS S n 11133 = S 11133 ∧ arS S n 11135 = S 11135 := by
    unfold arS; split
    · exact key _ 0 S (by omega) (by omega) h
    · exact ⟨rfl, rfl, rfl⟩
  refine Ap_off (OK_g h) (fun j hj => ?_)
  rcases hj with hj | rfl | rfl | rfl
  · exact (OK_ar h hn).2 j (by omega)
  · exact k2.1
  · exact k2.2.1
  · exact k2.2.2
theorem Ap_an {k a b w : Int} (h : OK R S) (hl : LwOK L) : Ap S (anS L S M k a b w) := Ap_po h hl
theorem Ap_av (h : OK R S) (hn : 0 ≤ n ∧ n ≤ 6) (hM : MOK R M) (hl : LwOK L) : Ap S (avS L S M n) := by
  unfold avS; split
  · have h1 := OK_vt h hn hM
    exact Ap_tr (Ap_tr (Ap_u1 h hn (by omega)) (Ap_tm h1 hn)) (Ap_an (OK_tm h1 hn hl) hl)
  · exact Ap_an h hl
theorem Ap_hv (h : OK R S) (hn : 0 ≤ n ∧ n ≤ 6) (hM : MOK R M) (hl : LwOK L) : Ap S (hvS L S M n) := by
  have h1 := OK_hv1 h hn hM
  have a1 : Ap S (hv1 S M n) := Ap_u1 h hn (by omega)
  unfold hvS; split
  · rename_i q
    split
    · exact Ap_tr a1 (Ap_ld h1 hn hl ((OK_n h1 hn).2.2.2.2.2.2 (by unfold hv1; rw [nd_u1 (by omega)]; omega)))
    · exact a1
  · exact Ap_rf
theorem Ap_la (h : OK R S) (hn : 0 ≤ n ∧ n ≤ 6) {i p : Int} : Ap S (laS S M n i p) := by
  unfold laS; split
  · exact Ap_rf
  · split
    · split
      · exact Ap_rf
      · rename_i q1 q2 q3
        unfold lastS at q2
        have ht := OK_tr h hn (i := i) (by omega) q2
        exact Ap_tr (Ap_off (OK_g h) (fun j hj => tr_ne (by omega) (by omega))) (Ap_ly ht hn)
    · exact Ap_ly h hn
theorem Ap_le (hn : 0 ≤ n ∧ n ≤ 6) {prev : Int} : ∀ (j : Nat) (k : Int) (S : qN), (∀ i, k ≤ i → i < k + j → EOK M (11 + 4 * i)) → OK R S → Ap S (leF M n prev j k S).1
  | 0, k, S, he, h => Ap_rf
  | j + 1, k, S, he, h => by
    have h2 := OK_la (M := M) h hn (i := prev + k + 1) (p := 11 + 4 * k) (he k (by omega) (by omega))
    rw [leF]; split
    · exact Ap_tr (Ap_la h hn) (Ap_le (prev := prev) hn j (k + 1) _ (fun i i1 i2 => he i (by omega) (by omega)) h2)
    · exact Ap_la h hn
theorem Ap_heT (h : OK R S) (hn : 0 ≤ n ∧ n ≤ 6) (hM : MOK R M) : Ap S (heT L S M n) := Ap_tr (Ap_fo h hn) (Ap_tm (OK_fo h hn (by have := hM.1.1; omega)) hn)
theorem Ap_he (h : OK R S) (hn : 0 ≤ n ∧ n ≤ 6) (hM : MOK R M) (hk : M 2 = 2) (hl : LwOK L) : Ap S (heS L S M n) := by
  have hT := OK_heT (L := L) h hn hM hl
  have aT : Ap S (heT L S M n) := Ap_heT h hn hM
  have hb := (OK_n hT hn).2.1.1
  obtain ⟨M0, M1, M2, M3, M4, M5, M6, M7⟩ := hM.1
  obtain ⟨k6, k65, k8, ke⟩ := hM.2.2.2.1 hk
  unfold heS; split
  · exact Ap_an h hl
  · split
    · exact Ap_tr aT (Ap_an hT hl)
    · rename_i q1 q2
      unfold lastS at q2
      split
      · exact Ap_tr aT (Ap_an hT hl)
      · obtain ⟨a, b, d⟩ := le_ok (M := M) (R := R) (prev := M 6) hn (M 5).toNat 0 (heT L S M n) (fun i i1 i2 => ke i i1 (by omega)) hT (by unfold lastS; omega)
        have e := Ap_le (M := M) (R := R) (prev := M 6) hn (M 5).toNat 0 (heT L S M n) (fun i i1 i2 => ke i i1 (by omega)) hT
        unfold lastS at d
        unfold heE
        exact Ap_tr (Ap_tr (Ap_tr aT e) (Ap_gro a hn)) (Ap_an (OK_gro a hn (by omega)) hl)
theorem Ap_sn (h : OK R S) (hn : 0 ≤ n ∧ n ≤ 6) (hM : MOK R M) (hk : M 2 = 4) (hl : LwOK L) : Ap S (snS L S M n) := by
  have hT := OK_heT (L := L) h hn hM hl
  have aT : Ap S (heT L S M n) := Ap_heT h hn hM
  obtain ⟨kk1, kk2⟩ := OK_kOk hT hn
  unfold snS; split
  · exact Ap_an h hl
  · split
    · exact Ap_tr aT (Ap_an hT hl)
    · exact Ap_tr (Ap_tr aT (Ap_off (OK_g hT) (fun j hj => inS_off hT hn (by omega) (by omega)))) (Ap_an (OK_in hT hn hM hk (by omega)) hl)
theorem Ap_iol (h : OK R S) (hn : 0 ≤ n ∧ n ≤ 6) (hM : MOK R M) : Ap S (iolS S M n) := by
  have h0 := hM.1.1
  unfold iolS; split
  · exact Ap_u1 h hn (by omega)
  · exact Ap_rf
theorem Ap_ma (h : OK R S) (hn : 0 ≤ n ∧ n ≤ 6) (hM : MOK R M) (h3 : nd S n 3 = 2) {i : Int} (hi : 0 ≤ i ∧ i ≤ 999) (hl : LwOK L) : Ap S (maS L S M n i) := by
  have h0 := hM.1.1
  have h1 := OK_ma1 h hn hM hi
  have ht : 1 ≤ nd (ma1 S M n i) n 1 := by rw [ma1_3 hM (by omega)]; exact (OK_n h hn).2.2.2.2.2.2 (by omega)
  have h2 := OK_ho h1 hn hl ht
  have a1 : Ap S (ma1 S M n i) := Ap_off (OK_g h) (fun j hj => by unfold ma1; rw [u1_ne (by omega), u1_ne (by omega)])
  unfold maS; split
  · exact Ap_tr (Ap_tr a1 (Ap_ho h1 hn hl ht)) (Ap_po h2 hl)
  · exact Ap_tr a1 (Ap_ho h1 hn hl ht)
theorem Ap_hx (h : OK R S) (hn : 0 ≤ n ∧ n ≤ 6) (hM : MOK R M) (hne : M 0 ≠ n) (hk : M 2 = 3) (hl : LwOK L) : Ap S (hxS L S M n) := by
  have h0 := hM.1.1
  have h1 := OK_iol h hn hM
  have hb := hM.2.2.2.2.1 hk
  have a1 := Ap_iol h hn hM
  unfold hxS; split
  · rename_i q
    have q3 : nd (iolS S M n) n 3 = 2 := by rw [(iol_3 hM).1]; exact q.1
    split
    · exact Ap_tr (Ap_tr a1 (Ap_ma h1 hn hM q3 (by omega) hl)) (Ap_ar (OK_ma h1 hn hM hne q3 (by omega) hl) hn)
    · have h2 := OK_hn1 h1 hn hM
      have a2 : Ap (iolS S M n) (hn1 (iolS S M n) M n) := Ap_u1 h1 hn (by omega)
      exact Ap_tr (Ap_tr (Ap_tr a1 a2) (Ap_po h2 hl)) (Ap_ar (OK_sd h2 hn hM.1.1 hne hl) hn)
  · exact Ap_rf
theorem Ap_hz (h : OK R S) (hn : 0 ≤ n ∧ n ≤ 6) (hM : MOK R M) (hne : M 0 ≠ n) (hk : M 2 = 5) (hl : LwOK L) : Ap S (hzS L S M n) := by
  have h1 := OK_iol h hn hM
  have hb := hM.2.2.2.2.2.2 hk
  have a1 := Ap_iol h hn hM
  unfold hzS; split
  · rename_i q
    have q3 : nd (iolS S M n) n 3 = 2 := by rw [(iol_3 hM).1]; exact q.1
    exact Ap_tr (Ap_tr a1 (Ap_ma h1 hn hM q3 (by omega) hl)) (Ap_ar (OK_ma h1 hn hM hne q3 (by omega) hl) hn)
  · exact Ap_rf
end Aps
