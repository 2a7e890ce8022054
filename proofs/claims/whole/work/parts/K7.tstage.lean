/-! constructors: the class's object, stage by stage -/
section Nm
variable {m : qI} {a b : Nat} {n k : Int}
theorem nodM_o : ∀ (j : Nat) (n : Int) (a : Nat) (m : qI), (∀ i : Nat, i < j → ¬ (b = a + 8 * i ∧ k = 0)) → nodM a j n m b k = m b k
  | 0, _, _, _, _ => rfl
  | j + 1, n, a, m, h => by
    rw [nodM, nodM_o j (n + 1) (a + 8) _ (fun i hi z => h (i + 1) (by omega) ⟨by omega, z.2⟩)]
    unfold up
    rw [if_neg (fun z => h 0 (by omega) ⟨by omega, z.2⟩)]
theorem nodM_n : ∀ (j : Nat) (n : Int) (a : Nat) (m : qI) (i : Nat), i < j → nodM a j n m (a + 8 * i) 0 = n + i
  | 0, _, _, _, i, h => absurd h (by omega)
  | j + 1, n, a, m, 0, _ => by
    rw [nodM, nodM_o j (n + 1) (a + 8) _ (fun i hi z => by omega)]
    unfold up
    rw [if_pos ⟨by omega, rfl⟩]; omega
  | j + 1, n, a, m, i + 1, h => by
    rw [nodM, show a + 8 * (i + 1) = a + 8 + 8 * i by omega, nodM_n j (n + 1) (a + 8) _ i (by omega)]; omega
end Nm
section CS
variable {l : Launch} {V : qV} {d mc ms : Nat} {s : qS} {m : qI} {n : Int} {Q : Option Value → qH → Prop}
theorem ti_1 (h : TiF s m 3) : TiF (upR (kLw (nwS s (0, 0)) 3) 2 0 3) m 8 := by
  obtain ⟨⟨⟨g1, g2⟩, g3⟩, -⟩ := h
  have hs : s.1 = 1 := by omega
  have e1 : Ext s (kLw (nwS s (0, 0)) 3) 2 := Ext_tr (Ext_nw Ext_rf) Ext_Lw (Or.inr (by omega))
  have L := Lw_shape (s := nwS s (0, 0)) (x := 3) (by rw [nw_1]; omega)
  rw [nw_1, hs] at L
  have e3 : kd (kLw (nwS s (0, 0)) 3) 3 = (0, 0) := by
    rw [Ext_Lw.2.1 3 (by rw [nw_1]; omega), kd_nw, if_pos (by omega)]
  refine TiF_e (N := 3) (N' := 8) ⟨⟨⟨g1, g2⟩, g3⟩, fun q => by omega, fun q => by omega, fun q => by omega, fun q => by omega, fun q => by omega, fun q => by omega⟩ (Ext_x e1) ⟨by rw [up_1, Lw_1, nw_1, hs], Zr_up (Zr_Lw (Zr_nw g2))⟩ (by omega) (fun k hk => by omega) (fun _ _ => ⟨rf_ups, ?_⟩) (fun _ q => by omega) (fun _ q => by omega) (fun _ q => by omega) (fun _ q => by omega) (fun _ q => by omega)
  unfold ShL
  rw [kd_upR, kd_upR, kd_upR, kd_upR, kd_upR, rf_upn (by omega), rf_upn (by omega), rf_upn (by omega), rf_upn (by omega)]
  exact ⟨e3, L⟩
theorem ti_w {N : Nat} {f : Int} (hN : (N = 8 ∧ f = 1) ∨ (N = 735 ∧ f = 2) ∨ (N = 1462 ∧ f = 3)) (h : TiF s m N) : TiF (upR (kWd (nwS s (7, 0)) N 3) 2 f N) (nodM (N + 11) 7 0 m) (N + 727) := by
  have h' := h
  obtain ⟨⟨⟨g1, g2⟩, g3⟩, gL, -⟩ := h'
  have hk : kd (nwS s (7, 0)) N = (7, 0) := by rw [kd_nw, if_pos (by omega)]
  obtain ⟨w1, w2, w3, w4, w5⟩ := Wd_shape (s := nwS s (7, 0)) (w := N) (y := 3) (by rw [nw_1]; omega) hk
  rw [nw_1] at w1
  have w3 := w3 rfl
  have e1 : Ext s (kWd (nwS s (7, 0)) N 3) 2 := Ext_tr (Ext_nw Ext_rf) w2 (Or.inr (by omega))
  have hh : ShV (upR (kWd (nwS s (7, 0)) N 3) 2 f N) N ∧ ShB (upR (kWd (nwS s (7, 0)) N 3) 2 f N) N :=
    ShVB_c (fun a h1 h2 => ⟨kd_upR, fun k => rf_upn (by omega)⟩) ⟨w3, w4⟩
  refine TiF_e h (Ext_x e1) ⟨by rw [up_1, w1]; omega, fun a k ha => ?_⟩ (by omega) (fun k hk => ?_) (fun q1 q2 => by omega) (fun q1 q2 => ?_) (fun q1 q2 => ?_) (fun q1 q2 => ?_) (fun q1 q2 => by omega) (fun q1 q2 => by omega)
  · rw [up_1, w1] at ha
    rw [nodM_o 7 0 (N + 11) m (fun i hi z => by omega)]
    exact g2 a k (by omega)
  · rw [rf_upn (by omega), w2.2.2 2 (by rw [nw_1]; omega) (by omega), rf_nws (by omega)]
  · have e : N = 8 ∧ f = 1 := by omega
    obtain ⟨rfl, rfl⟩ := e
    exact ⟨rf_ups, hh⟩
  · have e : N = 735 ∧ f = 2 := by omega
    obtain ⟨rfl, rfl⟩ := e
    exact ⟨rf_ups, hh⟩
  · have e : N = 1462 ∧ f = 3 := by omega
    obtain ⟨rfl, rfl⟩ := e
    exact ⟨rf_ups, hh⟩
theorem ti_5 (h : TiF s m 2189) : TiF (upR (nwS s (100, 260)) 2 5 2189) m 2190 := by
  have h' := h
  obtain ⟨⟨⟨g1, g2⟩, g3⟩, -⟩ := h'
  refine TiF_e h (Ext_x (Ext_nw Ext_rf)) ⟨by rw [up_1, nw_1]; omega, Zr_up (Zr_nw g2)⟩ (by omega) (fun k hk => ?_) (fun q1 q2 => by omega) (fun q1 q2 => by omega) (fun q1 q2 => by omega) (fun q1 q2 => by omega) (fun q1 q2 => ⟨rf_ups, by rw [kd_upR, kd_nw, if_pos (by omega)]⟩) (fun q1 q2 => by omega)
  rw [rf_upn (by omega), rf_nws (by omega)]
theorem ti_7 (h : TiF s m 2190) : TiF (upR (kLr (nwS s (1, 0)) 2190 2189) 2 7 2190) m 2196 := by
  have h' := h
  obtain ⟨⟨⟨g1, g2⟩, g3⟩, -, -, -, -, gT, -⟩ := h'
  have gT := gT (by omega)
  have hs : s.1 = 2188 := by omega
  have e0 : Ext (nwS s (1, 0)) (kLr (nwS s (1, 0)) 2190 2189) 2190 := Ext_x (Ext_x (Ext_tr (s' := nwS (nwS s (1, 0)) (0, 0)) (Ext_nw Ext_rf) Ext_Lw (Or.inr (by omega))))
  have e1 : Ext s (kLr (nwS s (1, 0)) 2190 2189) 2 := Ext_tr (Ext_nw Ext_rf) e0 (Or.inr (by omega))
  have L := Lw_shape (s := nwS (nwS s (1, 0)) (0, 0)) (x := 2191) (by rw [nw_1, nw_1]; omega)
  rw [nw_1, nw_1, hs] at L
  have n0 : (nwS s (1, 0)).1 + 2 = 2191 := by rw [nw_1]; omega
  have eK : kLr (nwS s (1, 0)) 2190 2189 = upR (upR (kLw (nwS (nwS s (1, 0)) (0, 0)) 2191) 2190 0 2191) 2190 1 2189 := by unfold kLr; rw [n0]
  have e2 : kd (kLr (nwS s (1, 0)) 2190 2189) 2190 = (1, 0) := by rw [e0.2.1 2190 (by rw [nw_1]; omega), kd_nw, if_pos (by omega)]
  have e3 : kd (kLr (nwS s (1, 0)) 2190 2189) 2191 = (0, 0) := by
    rw [eK, kd_upR, kd_upR, Ext_Lw.2.1 2191 (by rw [nw_1, nw_1]; omega), kd_nw, if_pos (by rw [nw_1]; omega)]
  refine TiF_e h (Ext_x e1) ⟨by rw [up_1]; show s.1 + 1 + 1 + 4 + 2 = 2196; omega, fun a k ha => g2 a k ?_⟩ (by omega) (fun k hk => ?_) (fun q1 q2 => by omega) (fun q1 q2 => by omega) (fun q1 q2 => by omega) (fun q1 q2 => by omega) (fun q1 q2 => by omega) (fun q1 q2 => ⟨rf_ups, ?_⟩)
  · have ha : s.1 + 1 + 1 + 4 + 2 ≤ a := ha
    omega
  · rw [rf_upn (by omega), e0.2.2 2 (by rw [nw_1]; omega) (by omega), rf_nws (by omega)]
  · unfold ShR
    rw [kd_upR, kd_upR, kd_upR, kd_upR, kd_upR, rf_upn (by omega), rf_upn (by omega), rf_upn (by omega), rf_upn (by omega), e2, e3, e1.2.1 2189 (by omega), gT.2]
    rw [eK, rf_upn (by omega), rf_ups, rf_ups, rf_upn (by omega), rf_upn (by omega), rf_upn (by omega), rf_upn (by omega), kd_upR, kd_upR, kd_upR, kd_upR]
    exact ⟨⟨rfl, rfl, rfl⟩, rfl, ⟨rfl, L.1.1, L.2.1.1⟩, L.1.2, L.2.1.2⟩
/-- all of the class's object -/
def TiA (s : qS) : Prop := s.1 + 2 = 2198 ∧ ShT s 8 ∧ ShP s ∧ ShR s ∧ ShW s 8 ∧ ShW s 735 ∧ ShW s 1462
theorem ti_8 (h : TiF s m 2196) : TiA (upR (kPr (nwS s (4, 0)) 2196 2189) 2 8 2196) ∧ Zr (upR (kPr (nwS s (4, 0)) 2196 2189) 2 8 2196) m := by
  have h' := h
  obtain ⟨⟨⟨g1, g2⟩, g3⟩, gA, gB, gC, gD, gE, gF⟩ := h'
  have gA := gA (by omega)
  have gB := gB (by omega)
  have gC := gC (by omega)
  have gD := gD (by omega)
  have gE := gE (by omega)
  have gF := gF (by omega)
  have hs : s.1 = 2194 := by omega
  have n0 : (nwS s (4, 0)).1 + 2 = 2197 := by rw [nw_1]; omega
  have eK : kPr (nwS s (4, 0)) 2196 2189 = upR (upR (nwS (nwS s (4, 0)) (100, 200)) 2196 0 2197) 2196 2 2189 := by unfold kPr; rw [n0]
  have e0 : Ext s (kPr (nwS s (4, 0)) 2196 2189) 2 := by
    rw [eK]; exact Ext_n (Ext_n (Ext_nw (Ext_nw Ext_rf)) (by omega)) (by omega)
  have e1 : Ext s (upR (kPr (nwS s (4, 0)) 2196 2189) 2 8 2196) 2 := Ext_x e0
  have r2 : ∀ k : Int, k ≠ 8 → rf (upR (kPr (nwS s (4, 0)) 2196 2189) 2 8 2196) 2 k = rf s 2 k := fun k hk => by
    rw [rf_upn (by omega), eK, rf_upn (by omega), rf_upn (by omega), rf_nws (by rw [nw_1]; omega), rf_nws (by omega)]
  have hL := ShL_ex e1 (by omega) (by omega) gA.2
  refine ⟨⟨by rw [up_1]; show s.1 + 1 + 1 + 2 = 2198; omega, ?_, ?_, ShR_e e1 (by omega) (by omega) gF.2, ?_, ?_, ?_⟩, fun a k ha => g2 a k ?_⟩
  · unfold ShT
    rw [e1.2.1 2 (by omega), r2 0 (by omega), r2 1 (by omega), r2 2 (by omega), r2 3 (by omega), r2 5 (by omega), r2 7 (by omega), e1.2.1 2189 (by omega), rf_ups]
    exact ⟨g3, ⟨gA.1, gB.1⟩, ⟨gC.1, gD.1⟩, gE, gF.1, rfl⟩
  · unfold ShP
    rw [kd_upR, kd_upR, kd_upR, rf_upn (by omega), rf_upn (by omega), eK, kd_upR, kd_upR, kd_upR, kd_upR, kd_upR, kd_upR, rf_ups, rf_upn (by omega), rf_ups]
    refine ⟨⟨?_, rfl⟩, ⟨?_, rfl⟩, ?_⟩
    · rw [kd_nws (by rw [nw_1]; omega), kd_nw, if_pos (by omega)]
    · rw [kd_nw, if_pos (by rw [nw_1]; omega)]
    · rw [kd_nws (by rw [nw_1]; omega), kd_nws (by omega)]; exact gE.2
  · have := ShVB_e e1 (w := 8) (by omega) (by omega) gB.2
    exact ⟨this.1, this.2, hL⟩
  · have := ShVB_e e1 (w := 735) (by omega) (by omega) gC.2
    exact ⟨this.1, this.2, hL⟩
  · have := ShVB_e e1 (w := 1462) (by omega) (by omega) gD.2
    exact ⟨this.1, this.2, hL⟩
  · have ha : s.1 + 1 + 1 + 2 ≤ a := ha
    omega
end CS
