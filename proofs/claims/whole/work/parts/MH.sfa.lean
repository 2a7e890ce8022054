/-! safety: what the law's loop asks of the invariant -/
section Su
variable {n : Int} {R x u t i m p q e c v r w y k b a : Int} {S S' T M F : qN} {L : qL}
theorem sfV_lay (hr : RSt S) (hl : LwOK L) (hn : 0 ≤ n ∧ n ≤ 6) (q : isL S n) (he : (0 ≤ k ∧ k ≤ 2) ∧ (0 ≤ a ∧ a ≤ 127) ∧ (0 ≤ b ∧ b ≤ 127) ∧ (k = 0 → a ≤ 7)) (hc : k = 1 → (set7 a ∧ set7 b) ∧ heldCfg S n ∧ sfS (oldS S n) (newS S n) a b) (h : sfV S) : sfV (layS L S n k a b) := by
  have ok := hr.1
  obtain ⟨h2, h3⟩ := lay_ok ok hn q he
  have o := lay_0 ok hn hl q he
  have tk : Tk S (layS L S n k a b) := Tk_tr (Tk_ly ok hn) (Tk_lb h2 hn hl h3)
  exact sfV_s hn h (RSt_lay hr hl hn q he).1 o (RX_lay ok hn hl q he (sfV_X h hn)) (hdN_o h.2.2.1 (fun m m0 m1 => (tk m m0 m1).1) o q.1) (sfI_lay ok hn hl q he hc (h.2.1.2 n hn.1 hn.2 q.2) h.2.2.2)
theorem sfV_wr (hr : RSt S) (hl : LwOK L) (h : sfV S) : sfV (wrS L S n k x) := by
  unfold wrS; split
  · rename_i q
    obtain ⟨⟨q1, q2, q3⟩, q4, q5⟩ := q
    exact sfV_lay hr hl q1 q4 (by omega) (fun e => by omega) h
  · exact h
theorem sfV_ch (hr : RSt S) (hl : LwOK L) (h : sfV S) : sfV (chS L S n x) := by
  unfold chS; split
  · rename_i q
    obtain ⟨⟨q1, q2⟩, q4, q5, q6⟩ := q
    have h7 := (OK_cOk hr.1 q1).1
    have h7' := h7
    unfold set7 at h7'
    refine sfV_lay hr hl q1 q4 (by omega) (fun _ => ⟨⟨h7, by unfold set7; omega⟩, Classical.byContradiction (fun z => q6 (Or.inr (Or.inl z))), Or.inl ⟨Classical.byContradiction (fun z => q6 (Or.inl z)), rfl, by omega⟩⟩) h
  · exact h
theorem sfI_hi (ok : OK R S) (h : ∀ j, j < 6028 ∨ j = 11133 ∨ (10028 ≤ j ∧ j < 11028) → S' j = S j) (g : sfI S M) : sfI S' M := by
  have b := (OK_g ok).2.2.1
  exact sfI_cg ok (fun m e m0 m1 he => h _ (by unfold sfR at he; omega)) (h _ (by omega)) (fun j hj => h _ (by omega)) g
theorem sfV_ak (hr : RSt S) (hl : LwOK L) (h : sfV S) : sfV (akS L S n k) := by
  have ok' := (RSt_ak (n := n) (k := k) hr hl).1
  unfold akS at *
  split
  · rename_i q
    simp only [if_pos q] at ok'
    obtain ⟨⟨hn, hk⟩, q1, q2, q3⟩ := q
    have ok := hr.1
    have hR := RSt_R hr
    have g5 := (OK_g ok).2.2.2.2.1
    have ok1 := OK_ak1 ok hn hl (by omega) hk q2
    have okA := OK_ask ok hn hl (by omega)
    have an : ∀ m e, 0 ≤ m → m ≤ 6 → 0 ≤ e → e < 244 → nd (askS L S n) m e = nd (u1 (u1 S (244 * n + 14) 0) (244 * n + 13) (nd S n 13 + 1)) m e := fun m e m0 m1 e0 e1 => ask_nd ok hn hl (by omega) ⟨m0, m1⟩ ⟨e0, e1⟩
    have rA := RX_ask ok hn hl (by omega) (sfV_X h hn)
    have fr := ask_fr ok hn hl (by omega)
    have a3 : nd (askS L S n) n 3 = 2 := by rw [an n 3 hn.1 hn.2 (by omega) (by omega), nd_u1 (by omega), nd_u1 (by omega)]; exact q1.2
    have lo : ∀ j, j < 11028 ∨ j = 11133 → ak1 L S n k j = askS L S n j := fun j hj => by unfold ak1; exact rd6_off (by omega) (by omega)
    have r1 : RX (ak1 L S n k) n := by
      refine ⟨?_, fun z => NX_c (rA.2 a3) (fun k' k0 k6 => lo _ (by omega)) ?_⟩
      · unfold ak1
        rw [← fr.2]
        exact RI_rd6 okA hn rA.1 a3
      · have f4 : nd (ak1 L S n k) n 4 = nd (askS L S n) n 4 := lo _ (by omega)
        have f8 : nd (ak1 L S n k) n 8 = nd (askS L S n) n 8 := lo _ (by omega)
        rw [f4, f8]; omega
    have j1 : sfJ (ak1 L S n k) := sfI_hi okA (fun j hj => lo j (by omega)) (sfI_ask ok hn hl (by omega) q1.2 (h.2.1.2 n hn.1 hn.2 q1.2) h.2.2.2)
    have o1 : Ot n S (ak1 L S n k) := fun m e m0 m1 he => by
      rw [show nd (ak1 L S n k) m e = nd (askS L S n) m e from lo _ (by omega), an m e m0 m1 he.2.1 he.2.2, nd_u1 (by omega), nd_u1 (by omega)]
    have o2 := Ot_tr o1 (Ot_ar ok1 hn)
    refine sfV_s hn h ok' o2 (RX_ar ok1 hn r1) (hdN_up h.2.2.1 hn o2 ?_) (sfI_ar ok1 hn j1)
    have e0 : nd (arS (ak1 L S n k) n) n 0 = nd (ak1 L S n k) n 0 := (OK_ar ok1 hn).2 _ (by omega)
    rw [e0, show nd (ak1 L S n k) n 0 = nd (askS L S n) n 0 from lo _ (by omega), an n 0 hn.1 hn.2 (by omega) (by omega), nd_u1 (by omega), nd_u1 (by omega)]
    exact q1.1
  · exact h
theorem sfV_fd (hw : 0 ≤ w ∧ w ≤ 127) (hx : 0 ≤ S 11132 ∧ S 11132 ≤ 65535) (hs : smS S) (hl : LwOK L) : sfV (fdS L S w) := by
  have ok := OK_fd0 hw hx hs
  have okf := (RSt_fd hw hx hs hl).1
  have e : ∀ m, 0 ≤ m → m ≤ 6 → nd (fdF (fd0 S) w 7) m 3 = 0 ∧ nd (fdF (fd0 S) w 7) m 0 = 1 := fun m m0 m1 => by
    rw [fd_nd ⟨m0, m1⟩ (by omega), fd_nd ⟨m0, m1⟩ (by omega), if_neg (by omega), if_neg (by omega), if_neg (by omega), if_neg (by omega), if_pos rfl]
    exact ⟨rfl, rfl⟩
  obtain ⟨a, b, c⟩ := tf_all hl 7 0 _ (by omega) (by omega) ok (sfJ_fd0 hw) (fun m m0 m1 => by rw [fd_hi (by omega) (by omega)] at m1; omega) e
  refine ⟨sfB_ok okf, ⟨b, fun n n0 n6 h3 => ?_⟩, fun n n0 n6 h0 => ?_, a⟩
  · have := (c n n0 n6).1
    unfold fdS at h3
    omega
  · exact absurd (c n n0 n6).2 h0
theorem sfV_do {z : Int} (hr : RSt S) (hl : LwOK L) (h : sfV S) : sfV (doS L S a x y z) := by
  unfold doS
  split
  · exact sfV_ot hr hl h
  · split
    · exact sfV_cr hr h
    · split
      · exact sfV_up hr hl h
      · split
        · exact sfV_cm hr h
        · split
          · exact sfV_wr hr hl h
          · split
            · exact sfV_ak hr hl h
            · exact sfV_ct h
/-- the invariant is safe -/
theorem SfA_V : SfA sfV := by
  refine ⟨fun S S' e h => sfV_c h (fun j j0 j1 => e j j0 (by omega)), fun r hL => ?_, fun r S hL hr h => ?_, sfV_fd (by omega) (by decide) smS_t (lwR_ok (r := z0I))⟩
  · have hl := lwR_ok (r := r)
    refine ⟨⟨fun S h => h.2.1.1, fun S n h n0 n6 h3 => sfV_ldr h ⟨n0, n6⟩ h3, fun S m h m0 m1 => sfV_mb h ⟨m0, m1⟩, fun S R h ok q => sfV_hd ok q hl h, fun S R n h ok ht hR n0 n6 u => sfV_ng ok ht hR ⟨n0, n6⟩ u hl h, fun S h => sfV_ck h, fun S R h ok q => sfV_hcw ok q h, fun S R n h ok n0 n6 u h3 => sfV_stw ok ⟨n0, n6⟩ hl h⟩, fun S h hr => ⟨h.2.1, fun n n0 n6 q => ?_, h.2.2.1⟩, fun S a x y z h hr => sfV_do hr hl h⟩
    have hn : 0 ≤ n ∧ n ≤ 6 := ⟨n0, n6⟩
    have hR := RSt_R hr
    exact ⟨(RX_ask hr.1 hn hl (by omega) (sfV_X h hn)).1, by rw [ask_nd hr.1 hn hl (by omega) hn (by omega), nd_u1 (by omega), nd_u1 (by omega)]; exact q.2⟩
  · have hl := lwR_ok (r := r)
    refine ⟨fun x => ?_, fun n => sfV_cr hr h, fun n => sfV_up hr hl h, fun a b y => sfV_ct h, fun n => sfV_cm hr h, fun x => sfV_sd h, fun n k x => sfV_wr hr hl h, fun n k => sfV_ak hr hl h, fun n x => sfV_ch hr hl h⟩
    unfold rfd
    split
    · exact sfV_fd (by omega) (OK_g hr.1).2.1 (OK_sm hr.1) hl
    · exact h
end Su
