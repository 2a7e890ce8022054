/-! safety: only leaders hold open READS, and what a leader sends next is in its log or behind its last -/
def RX (S : qN) (n : Int) : Prop := RI S ∧ (nd S n 3 = 2 → NX S n)
section Su
variable {z n : Int} {R x x' u t i m p q e c v r w y k b c' b' to a f prev : Int} {S S' S'' T M F : qN} {L : qL}
theorem RX_c (ok : OK R S) (h : RX S n) (h5 : S' 11135 = S 11135) (hr : ∀ j, 11028 ≤ j → j < 11124 → S' j = S j) (h3 : ∀ m, 0 ≤ m → m ≤ 6 → nd S' m 3 = nd S m 3) (hn : 0 ≤ n ∧ n ≤ 6) (hx : ∀ k, 0 ≤ k → k ≤ 6 → nd S' n (31 + k) = nd S n (31 + k)) (hl : nd S n 4 + nd S n 8 ≤ nd S' n 4 + nd S' n 8) : RX S' n :=
  ⟨RI_c ok h.1 h5 hr h3, fun q => NX_c (h.2 (by rw [← h3 n hn.1 hn.2]; exact q)) hx hl⟩
theorem po_hi (hl : LwOK L) (ok : OK R S) (j : Int) (hj : 11028 ≤ j ∧ j < 11124 ∨ j = 11135) : poS L S F j = S j := by
  have g := (OK_g ok).2.2.1
  by_cases hp : (L (fcS S (F 0) (F 1) (F 2))).2.2.2 ∨ rndS S % 10 < (L (fcS S (F 0) (F 1) (F 2))).2.1 ∨ S 11133 = 160
  · rw [poS_y hp, u1_ne (by omega)]; exact u1_ne (by omega)
  · have h160 : S 11133 ≠ 160 := fun z => hp (Or.inr (Or.inr z))
    rw [poS_n hp, u1_ne (by omega)]
    unfold cpN
    rw [if_neg (by omega)]
    exact u1_ne (by omega)
theorem RX_po (ok : OK R S) (hn : 0 ≤ n ∧ n ≤ 6) (hl : LwOK L) (h : RX S n) : RX (poS L S F) n := by
  have e : ∀ m e, 0 ≤ m → m ≤ 6 → 0 ≤ e → e < 244 → nd (poS L S F) m e = nd S m e := fun m e m0 m1 e0 e1 => poS_nd (OK_g ok) ⟨m0, m1⟩ ⟨e0, e1⟩
  exact RX_c ok h (po_hi hl ok _ (by omega)) (fun j j0 j1 => po_hi hl ok _ (by omega)) (fun m m0 m1 => e m 3 m0 m1 (by omega) (by omega)) hn (fun k k0 k6 => e n _ hn.1 hn.2 (by omega) (by omega)) (by rw [e n 4 hn.1 hn.2 (by omega) (by omega), e n 8 hn.1 hn.2 (by omega) (by omega)]; omega)
theorem RX_tm (ok : OK R S) (hn : 0 ≤ n ∧ n ≤ 6) (h : RX S n) : RX (tmS L S n) n :=
  ⟨RI_tm ok hn h.1, fun q => NX_c (h.2 (by rw [tm_nd hn hn (by omega) (by omega)] at q; exact q)) (fun k k0 k6 => tm_nd hn hn (by omega) (by omega)) (by rw [tm_nd hn hn (by omega) (by omega), tm_nd hn hn (by omega) (by omega)]; omega)⟩
theorem fo_3 : nd (foS S n w) n 3 = 0 := by unfold foS; rw [nd_u1 (by omega), nd_u1s]
theorem RX_fo (ok : OK R S) (hn : 0 ≤ n ∧ n ≤ 6) (h : RX S n) : RX (foS S n w) n := ⟨RI_fo ok hn h.1, fun q => by rw [fo_3] at q; omega⟩
theorem RX_u1 (ok : OK R S) (hn : 0 ≤ n ∧ n ≤ 6) (he : (0 ≤ e ∧ e < 31) ∨ (38 ≤ e ∧ e < 52)) (h3 : e ≠ 3 ∧ e ≠ 4 ∧ e ≠ 8) (h : RX S n) : RX (u1 S (244 * n + e) v) n :=
  ⟨RI_cell ok hn (by omega) h.1, fun q => NX_c (h.2 (by rw [nd_u1 (by omega)] at q; exact q)) (fun k k0 k6 => nd_u1 (by omega)) (by rw [nd_u1 (by omega), nd_u1 (by omega)]; omega)⟩
theorem RX_saF (hn : 0 ≤ n ∧ n ≤ 6) (hl : LwOK L) : ∀ (j : Nat) (to : Int) (S : qN), 0 ≤ to → to + j ≤ 7 → OK R S → RX S n → RX (saF L n j to S) n
  | 0, _, _, _, _, _, h => h
  | j + 1, to, S, t0, tj, ok, h => by
    rw [saF]
    split
    · rename_i q
      exact RX_saF hn hl j (to + 1) _ (by omega) (by omega) (OK_sd ok hn ⟨t0, by omega⟩ q.1 hl) (RX_po ok hn hl h)
    · exact RX_saF hn hl j (to + 1) _ (by omega) (by omega) ok h
theorem RX_sa (ok : OK R S) (hn : 0 ≤ n ∧ n ≤ 6) (hl : LwOK L) (h : RX S n) : RX (saS L S n) n := RX_saF hn hl 7 0 S (by omega) (by omega) ok h
theorem RX_hoB (ok : OK R S) (hn : 0 ≤ n ∧ n ≤ 6) (hl : LwOK L) (h : RX S n) : RX (hoB L S n) n := by
  have b := (OK_n ok hn).2.1.1
  unfold hoB
  exact RX_sa (OK_cell ok hn (by omega) (by unfold cOKv lastS; omega)) hn hl (RX_u1 ok hn (by omega) (by omega) h)
theorem RX_ho (ok : OK R S) (hn : 0 ≤ n ∧ n ≤ 6) (hl : LwOK L) (h3 : nd S n 3 = 2) (h : RX S n) : RX (hoS L S n) n := by
  have t1 := (OK_n ok hn).2.2.2.2.2.2 (by omega)
  have := ho_inv ok hn hl t1 h.1 (h.2 h3)
  exact ⟨this.1, fun _ => this.2⟩
theorem RX_lb (ok : OK R S) (hn : 0 ≤ n ∧ n ≤ 6) (hl : LwOK L) (h3 : nd S n 3 = 2) (h : RX S n) : RX (lbS L S n) n :=
  RX_ho (OK_hoB ok hn hl) hn hl (by rw [hoB_nd ok hn hl hn (by omega) (by omega)]; exact h3) (RX_hoB ok hn hl h)
theorem RX_ly (ok : OK R S) (hn : 0 ≤ n ∧ n ≤ 6) (h : RX S n) : RX (lyS S n t k a b) n := ⟨RI_ly ok hn h.1, fun q => NX_ly ok hn (h.2 (by rw [ly_nd ok hn (by omega)] at q; exact q))⟩
theorem RX_ld (ok : OK R S) (hn : 0 ≤ n ∧ n ≤ 6) (hl : LwOK L) (ht : 1 ≤ nd S n 1) (h : RX S n) : RX (ldS L S n) n := by
  have okc := OK_cr ok hn
  have c : ∀ e, 0 ≤ e → e < 244 → nd (crS S n) n e = nd S n e := fun e e0 e1 => cr_nd ok hn hn ⟨e0, e1⟩
  have ok5 := OK_ld5 okc hn (by rw [c 1 (by omega) (by omega)]; exact ht)
  obtain ⟨ok6, e6⟩ := OK_ld6 ok hn ht
  have y3 : nd (ld5 (crS S n) n) n 3 = 2 := by rw [ld5_e (by omega), if_pos rfl]
  have r5 : RX (ld5 (crS S n) n) n := ⟨RI_ld5 okc hn (RI_cr ok hn h.1), fun _ => NX_ld5 hn⟩
  unfold ldS
  exact RX_lb ok6 hn hl (by rw [ly_nd ok5 hn (by omega)]; exact y3) (RX_ly ok5 hn r5)
theorem RX_cvF (hn : 0 ≤ n ∧ n ≤ 6) (hl : LwOK L) : ∀ (j : Nat) (to : Int) (S : qN), 0 ≤ to → to + j ≤ 7 → OK R S → RX S n → RX (cvF L n j to S) n
  | 0, _, _, _, _, _, h => h
  | j + 1, to, S, t0, tj, ok, h => by
    rw [cvF]; split
    · rename_i q
      have := cvM_ok ok hn (to := to) (by omega) q.1
      exact RX_cvF hn hl j (to + 1) _ (by omega) (by omega) (OK_po ok this.1 this.2 hl) (RX_po ok hn hl h)
    · exact RX_cvF hn hl j (to + 1) _ (by omega) (by omega) ok h
theorem RX_cd (ok : OK R S) (hn : 0 ≤ n ∧ n ≤ 6) (h3 : nd S n 3 ≠ 2) (h : RX S n) : RX (cdS S n v) n := by
  have h16 := OK_aOk ok
  unfold aOk at h16
  have o : ∀ j, 1708 ≤ j → cdS S n v j = S j := fun j hj => by unfold cdS; rw [u1_ne (by omega), u1_ne (by omega), u1_ne (by omega), u1_ne (by omega), u1_ne (by omega)]
  have e3 : nd (cdS S n v) n 3 = 1 := by unfold cdS; rw [nd_u1 (by omega), nd_u1 (by omega), nd_u1 (by omega), nd_u1s]
  refine ⟨fun m m0 m1 e => ?_, fun q => by omega⟩
  rw [o _ (by omega)] at m1 e ⊢
  have q := OK_q ok m m0 m1
  have y := h.1 m m0 m1 e
  by_cases hm : S (11028 + 6 * m) = n
  · rw [hm] at y; exact absurd y h3
  · rw [← y]
    exact Ot_cd hn _ 3 q.1.1 q.1.2 ⟨hm, by omega⟩
theorem RX_st (ok : OK R S) (hn : 0 ≤ n ∧ n ≤ 6) (hl : LwOK L) (h3 : nd S n 3 ≠ 2) (h : RX S n) : RX (stS L S n) n := by
  unfold stS; split
  · exact RX_tm ok hn h
  · rename_i q
    have okd := OK_cd ok hn (fun e => q (Or.inr e))
    have okt := OK_tm (L := L) okd hn hl
    have rt := RX_tm (L := L) okd hn (RX_cd ok hn h3 h)
    have t0 := (OK_n ok hn).1.2.1
    split
    · exact RX_ld okt hn hl (by rw [cd_1 hn]; omega) rt
    · exact RX_cvF hn hl 7 0 _ (by omega) (by omega) okt rt
theorem RX_av (ok : OK R S) (hn : 0 ≤ n ∧ n ≤ 6) (hM : MOK R M) (hl : LwOK L) (h : RX S n) : RX (avS L S M n) n := by
  unfold avS; split
  · have okv := OK_vt ok hn hM
    exact RX_po (OK_tm okv hn hl) hn hl (RX_tm okv hn (RX_u1 ok hn (by omega) (by omega) h))
  · exact RX_po ok hn hl h
theorem RX_hv (ok : OK R S) (hn : 0 ≤ n ∧ n ≤ 6) (hM : MOK R M) (hl : LwOK L) (h : RX S n) : RX (hvS L S M n) n := by
  unfold hvS; split
  · rename_i q
    have okh := OK_hv1 ok hn hM
    have r1 : RX (hv1 S M n) n := RX_u1 ok hn (by omega) (by omega) h
    have t1 := (OK_n ok hn).2.2.2.2.2.2 (by omega)
    split
    · exact RX_ld okh hn hl (by unfold hv1; rw [nd_u1 (by omega)]; exact t1) r1
    · exact r1
  · exact h
/-- of a follower -/
def R0 (S : qN) (n : Int) : Prop := RI S ∧ nd S n 3 = 0
theorem R0_X (h : R0 S n) : RX S n := ⟨h.1, fun q => by rw [h.2] at q; omega⟩
theorem R0_po (ok : OK R S) (hn : 0 ≤ n ∧ n ≤ 6) (hl : LwOK L) (h : R0 S n) : R0 (poS L S F) n := ⟨(RX_po ok hn hl (R0_X h)).1, by rw [poS_nd (OK_g ok) hn (by omega)]; exact h.2⟩
theorem R0_ly (ok : OK R S) (hn : 0 ≤ n ∧ n ≤ 6) (h : R0 S n) : R0 (lyS S n t k a b) n := ⟨RI_ly ok hn h.1, by rw [ly_nd ok hn (by omega)]; exact h.2⟩
theorem R0_gro (ok : OK R S) (hn : 0 ≤ n ∧ n ≤ 6) (h : R0 S n) : R0 (groS S n w) n := ⟨RI_gro ok hn h.1, by rw [gro_nd ok hn (by omega) (by omega)]; exact h.2⟩
theorem R0_la (ok : OK R S) (hn : 0 ≤ n ∧ n ≤ 6) (h : R0 S n) : R0 (laS S M n i p) n := by
  unfold laS; split
  · exact h
  · rename_i q1
    split
    · rename_i q2
      split
      · exact h
      · have okt := OK_tr ok hn (i := i) (by omega) (by unfold lastS at q2; omega)
        exact R0_ly okt hn ⟨RI_c ok h.1 (tr_ne (by omega) (by omega)) (fun j j0 j1 => tr_ne (by omega) (by omega)) (fun m m0 m1 => tr_nd hn ⟨m0, m1⟩ (by omega) (by omega)), by rw [tr_nd hn hn (by omega) (by omega)]; exact h.2⟩
    · exact R0_ly ok hn h
theorem R0_le (hn : 0 ≤ n ∧ n ≤ 6) : ∀ (j : Nat) (k : Int) (S : qN), (∀ i, k ≤ i → i < k + j → EOK M (11 + 4 * i)) → OK R S → R0 S n → R0 (leF M n prev j k S).1 n ∧ OK R (leF M n prev j k S).1
  | 0, _, _, _, ok, h => ⟨h, ok⟩
  | j + 1, k, S, hE, ok, h => by
    have okl := OK_la ok hn (M := M) (i := prev + k + 1) (p := 11 + 4 * k) (hE k (by omega) (by omega))
    rw [leF]
    split
    · exact R0_le hn j (k + 1) _ (fun i i1 i2 => hE i (by omega) (by omega)) okl (R0_la ok hn h)
    · exact ⟨R0_la ok hn h, okl⟩
theorem R0_heT (ok : OK R S) (hn : 0 ≤ n ∧ n ≤ 6) (hM : MOK R M) (h : RX S n) : R0 (heT L S M n) n := by
  have m0 := hM.1.1
  exact ⟨(RX_tm (OK_fo ok hn (by omega)) hn (RX_fo ok hn h)).1, by unfold heT; rw [tm_nd hn hn (by omega) (by omega)]; exact fo_3⟩
theorem RX_he (ok : OK R S) (hn : 0 ≤ n ∧ n ≤ 6) (hM : MOK R M) (hk : M 2 = 2) (hl : LwOK L) (h : RX S n) : RX (heS L S M n) n := by
  have hm := hM.1
  unfold MOKa at hm
  have hE := (hM.2.2.2.1 hk).2.2.2
  have okT := OK_heT (L := L) ok hn hM hl
  have rT := R0_heT (L := L) ok hn hM h
  unfold heS; split
  · exact RX_po ok hn hl h
  · split
    · exact RX_po okT hn hl (R0_X rT)
    · split
      · exact RX_po okT hn hl (R0_X rT)
      · rename_i c1 c2
        obtain ⟨a, b⟩ := R0_le (prev := M 6) hn (M 5).toNat 0 _ (fun i i1 i2 => hE i i1 (by omega)) okT rT
        have y := le_ok (prev := M 6) hn (M 5).toNat 0 _ (fun i i1 i2 => hE i i1 (by omega)) okT (by omega)
        unfold heE
        exact RX_po (OK_gro b hn (by have := y.2; unfold lastS at this; omega)) hn hl (R0_X (R0_gro b hn a))
theorem RX_sn (ok : OK R S) (hn : 0 ≤ n ∧ n ≤ 6) (hM : MOK R M) (hk : M 2 = 4) (hl : LwOK L) (h : RX S n) : RX (snS L S M n) n := by
  have okT := OK_heT (L := L) ok hn hM hl
  have rT := R0_heT (L := L) ok hn hM h
  unfold snS; split
  · exact RX_po ok hn hl h
  · split
    · exact RX_po okT hn hl (R0_X rT)
    · rename_i c
      have hi : nd (heT L S M n) n 4 ≤ M 6 := by have := (OK_kOk okT hn).1; omega
      have o := fun j hj => inS_off (M := M) okT hn hi (j := j) hj
      have r1 : R0 (inS (heT L S M n) M n) n := ⟨RI_c okT rT.1 (o _ (by omega)) (fun j j0 j1 => o _ (by omega)) (fun m m0 m1 => by
        by_cases y : m = n
        · rw [y]; exact inS_o (by omega) (by omega) (by omega)
        · exact o _ (by omega)), by rw [inS_o (by omega) (by omega) (by omega)]; exact rT.2⟩
      exact RX_po (OK_in okT hn hM hk hi) hn hl (R0_X r1)
theorem RX_ar (ok : OK R S) (hn : 0 ≤ n ∧ n ≤ 6) (h : RX S n) : RX (arS S n) n := by
  have e := (OK_ar ok hn).2
  have g5 := (OK_g ok).2.2.2.2.1
  have key : ∀ (j : Nat) (m : Int) (S : qN), 0 ≤ m → m + j ≤ S 11135 → OK R S → RI S → RI (arF n j m S) := by
    intro j
    induction j with
    | zero => intro m S _ _ _ h; exact h
    | succ j ih =>
      intro m S m0 mj ok h
      obtain ⟨a, b, c⟩ := OK_ar1 ok hn (m := m) (by omega)
      rw [arF]
      exact ih (m + 1) _ (by omega) (by rw [b]; omega) a (RI_ar1 ok hn h (by omega))
  have f : ∀ k, 0 ≤ k → k < 244 → nd (arS S n) n k = nd S n k := fun k k0 k1 => e _ (by omega)
  refine ⟨?_, fun q => NX_c (h.2 (by rw [f 3 (by omega) (by omega)] at q; exact q)) (fun k k0 k6 => f _ (by omega) (by omega)) (by rw [f 4 (by omega) (by omega), f 8 (by omega) (by omega)]; omega)⟩
  unfold arS; split
  · exact key _ 0 S (by omega) (by omega) ok h.1
  · exact h.1
end Su
