/-! constructors: the shape of a world -/
/-- a node's, a message's cells from c on -/
def ShC3 (s : qS) (c : Nat) : Prop := kd s c = (3, 0) ∧ (rf s c 4 = c + 1 ∧ kd s (c + 1) = (100, 48)) ∧ (rf s c 6 = c + 2 ∧ kd s (c + 2) = (6, 0)) ∧ (rf s (c + 2) 4 = c + 3 ∧ kd s (c + 3) = (100, 8)) ∧ (rf s c 9 = c + 4 ∧ kd s (c + 4) = (100, 8)) ∧ (rf s c 13 = c + 5 ∧ kd s (c + 5) = (100, 7)) ∧ (rf s c 14 = c + 6 ∧ kd s (c + 6) = (100, 7)) ∧ (rf s c 15 = c + 7 ∧ kd s (c + 7) = (100, 7))
section Sh
variable {s s' s'' : qS} {m : qI} {k : Nat × Nat} {a b c x y X v A : Nat} {i j n : Int}
theorem ShC3_e (h : ShC3 s c) (he : Ext s s' A) (hc : c + 7 < s.1 + 2) (hA : A < c ∨ c + 7 < A) : ShC3 s' c := by
  obtain ⟨h1, ⟨h2, h3⟩, ⟨h4, h5⟩, ⟨h6, h7⟩, ⟨h8, h9⟩, ⟨h10, h11⟩, ⟨h12, h13⟩, h14, h15⟩ := h
  obtain ⟨-, e2, e3⟩ := he
  unfold ShC3
  rw [e2 c (by omega), e2 (c + 1) (by omega), e2 (c + 2) (by omega), e2 (c + 3) (by omega), e2 (c + 4) (by omega), e2 (c + 5) (by omega), e2 (c + 6) (by omega), e2 (c + 7) (by omega), e3 c (by omega) (by omega), e3 c (by omega) (by omega), e3 (c + 2) (by omega) (by omega), e3 c (by omega) (by omega), e3 c (by omega) (by omega), e3 c (by omega) (by omega), e3 c (by omega) (by omega)]
  exact ⟨h1, ⟨h2, h3⟩, ⟨h4, h5⟩, ⟨h6, h7⟩, ⟨h8, h9⟩, ⟨h10, h11⟩, ⟨h12, h13⟩, h14, h15⟩
theorem ShG_e (h : ShG s c) (he : Ext s s' A) (hc : c + 3 < s.1 + 2) (hA : A < c ∨ c + 3 < A) : ShG s' c := by
  obtain ⟨h1, ⟨h2, h3⟩, ⟨h4, h5⟩, h6, h7⟩ := h
  obtain ⟨-, e2, e3⟩ := he
  unfold ShG
  rw [e2 c (by omega), e2 (c + 1) (by omega), e2 (c + 2) (by omega), e2 (c + 3) (by omega), e3 c (by omega) (by omega), e3 c (by omega) (by omega), e3 (c + 2) (by omega) (by omega)]
  exact ⟨h1, ⟨h2, h3⟩, ⟨h4, h5⟩, h6, h7⟩
theorem ShC3_n : ShC3 (kNd (nwS s (3, 0)) (s.1 + 2)) (s.1 + 2) := by
  unfold ShC3 kNd kSn
  refine ⟨?_, ⟨?_, ?_⟩, ⟨?_, ?_⟩, ⟨?_, ?_⟩, ⟨?_, ?_⟩, ⟨?_, ?_⟩, ⟨?_, ?_⟩, ?_, ?_⟩
  all_goals simp (disch := first | omega | (simp only [nw_1, up_1]; omega)) only [kd_upR, kd_nws, rf_upn, rf_nws, rf_ups, nw_1, up_1, Nat.add_assoc, Nat.reduceAdd]
  all_goals exact kd_nwn
theorem ShG_n : ShG (kMg (nwS s (2, 0)) (s.1 + 2)) (s.1 + 2) := by
  unfold ShG kMg kSn
  refine ⟨?_, ⟨?_, ?_⟩, ⟨?_, ?_⟩, ?_, ?_⟩
  all_goals simp (disch := first | omega | (simp only [nw_1, up_1]; omega)) only [kd_upR, kd_nws, rf_upn, rf_nws, rf_ups, nw_1, up_1, Nat.add_assoc, Nat.reduceAdd]
  all_goals exact kd_nwn
theorem nod_F : ∀ (j : Nat) (n : Int) (s : qS), A < s.1 + 2 → (nodS A j n s).1 = s.1 + 8 * j ∧ Ext s (nodS A j n s) A ∧ (∀ k, (k < n ∨ n + j ≤ k) → rf (nodS A j n s) A k = rf s A k) ∧ ∀ i : Nat, i < j → rf (nodS A j n s) A (n + i) = s.1 + 2 + 8 * i ∧ ShC3 (nodS A j n s) (s.1 + 2 + 8 * i)
  | 0, n, s, hA => ⟨rfl, Ext_rf, fun _ _ => rfl, fun i hi => absurd hi (by omega)⟩
  | j + 1, n, s, hA => by
    have e1 : Ext s (kNd (nwS s (3, 0)) (s.1 + 2)) A := Ext_tr (Ext_nw Ext_rf) Ext_Nd (Or.inr (by omega))
    have e2 : Ext s (upR (kNd (nwS s (3, 0)) (s.1 + 2)) A n (s.1 + 2)) A := Ext_x e1
    have n1 : (upR (kNd (nwS s (3, 0)) (s.1 + 2)) A n (s.1 + 2)).1 = s.1 + 8 := rfl
    have e0 : Ext (kNd (nwS s (3, 0)) (s.1 + 2)) (upR (kNd (nwS s (3, 0)) (s.1 + 2)) A n (s.1 + 2)) A := Ext_x Ext_rf
    have n0 : (kNd (nwS s (3, 0)) (s.1 + 2)).1 = s.1 + 8 := rfl
    have c0 : ShC3 (upR (kNd (nwS s (3, 0)) (s.1 + 2)) A n (s.1 + 2)) (s.1 + 2) := ShC3_e ShC3_n e0 (by omega) (by omega)
    have rA : ∀ k, rf (kNd (nwS s (3, 0)) (s.1 + 2)) A k = rf s A k := fun k => by
      rw [Ext_Nd.2.2 A (by rw [nw_1]; omega) (by omega) k, rf_nws (by omega)]
    obtain ⟨h1, h2, h3, h4⟩ := nod_F j (n + 1) (upR (kNd (nwS s (3, 0)) (s.1 + 2)) A n (s.1 + 2)) (by omega)
    rw [nodS]
    rw [n1] at h1 h4
    refine ⟨by rw [h1]; omega, Ext_tr e2 h2 (Or.inl rfl), fun k hk => ?_, fun i hi => ?_⟩
    · rw [h3 k (by omega), rf_upn (by omega)]; exact rA k
    · cases i with
      | zero =>
        refine ⟨?_, ?_⟩
        · rw [h3 _ (by omega)]
          show rf (upR _ A n (s.1 + 2)) A (n + 0) = s.1 + 2 + 8 * 0
          rw [Int.add_zero, rf_ups]
        · exact ShC3_e c0 h2 (by omega) (by omega)
      | succ i =>
        obtain ⟨g1, g2⟩ := h4 i (by omega)
        refine ⟨?_, ?_⟩
        · rw [show n + ((i + 1 : Nat) : Int) = n + 1 + i by omega, g1]; omega
        · rw [show s.1 + 2 + 8 * (i + 1) = s.1 + 8 + 2 + 8 * i by omega]; exact g2
theorem msg_F : ∀ (j : Nat) (n : Int) (s : qS), A < s.1 + 2 → (msgS A j n s).1 = s.1 + 4 * j ∧ Ext s (msgS A j n s) A ∧ (∀ k, (k < n ∨ n + j ≤ k) → rf (msgS A j n s) A k = rf s A k) ∧ ∀ i : Nat, i < j → rf (msgS A j n s) A (n + i) = s.1 + 2 + 4 * i ∧ ShG (msgS A j n s) (s.1 + 2 + 4 * i)
  | 0, n, s, hA => ⟨rfl, Ext_rf, fun _ _ => rfl, fun i hi => absurd hi (by omega)⟩
  | j + 1, n, s, hA => by
    have e1 : Ext s (kMg (nwS s (2, 0)) (s.1 + 2)) A := Ext_tr (Ext_nw Ext_rf) Ext_Mg (Or.inr (by omega))
    have e2 : Ext s (upR (kMg (nwS s (2, 0)) (s.1 + 2)) A n (s.1 + 2)) A := Ext_x e1
    have n1 : (upR (kMg (nwS s (2, 0)) (s.1 + 2)) A n (s.1 + 2)).1 = s.1 + 4 := rfl
    have e0 : Ext (kMg (nwS s (2, 0)) (s.1 + 2)) (upR (kMg (nwS s (2, 0)) (s.1 + 2)) A n (s.1 + 2)) A := Ext_x Ext_rf
    have n0 : (kMg (nwS s (2, 0)) (s.1 + 2)).1 = s.1 + 4 := rfl
    have c0 : ShG (upR (kMg (nwS s (2, 0)) (s.1 + 2)) A n (s.1 + 2)) (s.1 + 2) := ShG_e ShG_n e0 (by omega) (by omega)
    have rA : ∀ k, rf (kMg (nwS s (2, 0)) (s.1 + 2)) A k = rf s A k := fun k => by
      rw [Ext_Mg.2.2 A (by rw [nw_1]; omega) (by omega) k, rf_nws (by omega)]
    obtain ⟨h1, h2, h3, h4⟩ := msg_F j (n + 1) (upR (kMg (nwS s (2, 0)) (s.1 + 2)) A n (s.1 + 2)) (by omega)
    rw [msgS]
    rw [n1] at h1 h4
    refine ⟨by rw [h1]; omega, Ext_tr e2 h2 (Or.inl rfl), fun k hk => ?_, fun i hi => ?_⟩
    · rw [h3 k (by omega), rf_upn (by omega)]; exact rA k
    · cases i with
      | zero =>
        refine ⟨?_, ?_⟩
        · rw [h3 _ (by omega)]
          show rf (upR _ A n (s.1 + 2)) A (n + 0) = s.1 + 2 + 4 * 0
          rw [Int.add_zero, rf_ups]
        · exact ShG_e c0 h2 (by omega) (by omega)
      | succ i =>
        obtain ⟨g1, g2⟩ := h4 i (by omega)
        refine ⟨?_, ?_⟩
        · rw [show n + ((i + 1 : Nat) : Int) = n + 1 + i by omega, g1]; omega
        · rw [show s.1 + 2 + 4 * (i + 1) = s.1 + 4 + 2 + 4 * i by omega]; exact g2
theorem red_F : ∀ (j : Nat) (n : Int) (s : qS), A < s.1 + 2 → (redS A j n s).1 = s.1 + j ∧ Ext s (redS A j n s) A ∧ (∀ k, (k < n ∨ n + j ≤ k) → rf (redS A j n s) A k = rf s A k) ∧ ∀ i : Nat, i < j → rf (redS A j n s) A (n + i) = s.1 + 2 + i ∧ kd (redS A j n s) (s.1 + 2 + i) = (5, 0)
  | 0, n, s, hA => ⟨rfl, Ext_rf, fun _ _ => rfl, fun i hi => absurd hi (by omega)⟩
  | j + 1, n, s, hA => by
    have e2 : Ext s (upR (nwS s (5, 0)) A n (s.1 + 2)) A := Ext_x (Ext_nw Ext_rf)
    have n1 : (upR (nwS s (5, 0)) A n (s.1 + 2)).1 = s.1 + 1 := rfl
    have c0 : kd (upR (nwS s (5, 0)) A n (s.1 + 2)) (s.1 + 2) = (5, 0) := by rw [kd_upR]; exact kd_nwn
    obtain ⟨h1, h2, h3, h4⟩ := red_F j (n + 1) (upR (nwS s (5, 0)) A n (s.1 + 2)) (by omega)
    rw [redS]
    rw [n1] at h1 h4
    refine ⟨by rw [h1]; omega, Ext_tr e2 h2 (Or.inl rfl), fun k hk => ?_, fun i hi => ?_⟩
    · rw [h3 k (by omega), rf_upn (by omega), rf_nws (by omega)]
    · cases i with
      | zero =>
        refine ⟨?_, ?_⟩
        · rw [h3 _ (by omega)]
          show rf (upR _ A n (s.1 + 2)) A (n + 0) = s.1 + 2 + 0
          rw [Int.add_zero, rf_ups]
        · rw [h2.2.1 _ (by omega)]; exact c0
      | succ i =>
        obtain ⟨g1, g2⟩ := h4 i (by omega)
        refine ⟨?_, ?_⟩
        · rw [show n + ((i + 1 : Nat) : Int) = n + 1 + i by omega, g1]; omega
        · rw [show s.1 + 2 + (i + 1) = s.1 + 1 + 2 + i by omega]; exact g2
theorem ShN_c {w : Nat} (hn : 0 ≤ n ∧ n ≤ 6) (h : ShC3 s (w + 11 + 8 * n.toNat)) : ShN s w n := by
  have e : ∀ p : Nat, ndA w n p = w + 11 + 8 * n.toNat + p := fun p => by unfold ndA; omega
  unfold ShN
  rw [e 0, e 1, e 2, e 3, e 4, e 5, e 6, e 7, Nat.add_zero]
  exact h
/-- a world's shape, just made at w -/
theorem Wd_shape {w y : Nat} (hw : w = s.1 + 1) (hk : kd s w = (7, 0)) : (kWd s w y).1 = s.1 + 726 ∧ Ext s (kWd s w y) w ∧ (y = 3 → ShV (kWd s w y) w) ∧ ShB (kWd s w y) w ∧ rf (kWd s w y) w 0 = y := by
  have hx : w < s.1 + 2 := by omega
  have n0 : (kW0 s w y).1 = s.1 + 10 := rfl
  have x0 : Ext s (kW0 s w y) w := by
    unfold kW0
    refine Ext_x (Ext_x (Ext_nw (Ext_x (Ext_nw (Ext_x (Ext_nw (Ext_x (Ext_nw (Ext_x (Ext_tr (s' := nwS (upR (nwS (upR (nwS s (102, 7)) w 1 (s.1 + 2)) (103, 161)) w 2 (s.1 + 3)) (2, 0)) (Ext_nw (Ext_x (Ext_nw (Ext_x (Ext_nw Ext_rf))))) Ext_Mg (Or.inr (by omega))))))))))))
  have W := W0_I (m := fun _ _ => 0) (y := y) hk hx (fun _ _ _ => rfl)
  obtain ⟨⟨⟨w1, w2⟩, ⟨w3, w4⟩, w5⟩, ⟨⟨w6, w7⟩, ⟨w8, w9⟩, w10, w11⟩, -, -⟩ := W
  have v0 : rf (kW0 s w y) w 0 = y := by unfold kW0; rw [rf_ups]
  have v4 : rf (kW0 s w y) w 4 = s.1 + 4 := by
    unfold kW0
    simp (disch := first | omega | (simp only [nw_1, up_1, Mg_1]; omega)) only [rf_upn, rf_nws, rf_Mg, rf_ups]
  have v7 : rf (kW0 s w y) w 7 = s.1 + 9 := by
    unfold kW0
    simp (disch := first | omega | (simp only [nw_1, up_1, Mg_1]; omega)) only [rf_upn, rf_nws, rf_Mg, rf_ups]
  have v10 : rf (kW0 s w y) w 10 = s.1 + 10 := by
    unfold kW0
    simp (disch := first | omega | (simp only [nw_1, up_1, Mg_1]; omega)) only [rf_upn, rf_nws, rf_Mg, rf_ups]
  have v11 : rf (kW0 s w y) w 11 = s.1 + 11 := by
    unfold kW0
    simp (disch := first | omega | (simp only [nw_1, up_1, Mg_1]; omega)) only [rf_upn, rf_nws, rf_Mg, rf_ups]
  have u9 : kd (kW0 s w y) (s.1 + 9) = (100, 1000) := by
    unfold kW0
    simp (disch := first | omega | (simp only [nw_1, up_1, Mg_1]; omega)) only [kd_upR, kd_nws, kd_Mg]
    exact kd_nwn
  have u10 : kd (kW0 s w y) (s.1 + 10) = (100, 1000) := by
    unfold kW0
    simp (disch := first | omega | (simp only [nw_1, up_1, Mg_1]; omega)) only [kd_upR, kd_nws, kd_Mg]
    exact kd_nwn
  have u11 : kd (kW0 s w y) (s.1 + 11) = (100, 7) := by
    unfold kW0
    simp (disch := first | omega | (simp only [nw_1, up_1, Mg_1]; omega)) only [kd_upR, kd_nws, kd_Mg]
    exact kd_nwn
  have uG : ShG (kW0 s w y) (s.1 + 4) := by
    have g0 : ShG (kMg (nwS (upR (nwS (upR (nwS s (102, 7)) w 1 (s.1 + 2)) (103, 161)) w 2 (s.1 + 3)) (2, 0)) (s.1 + 4)) (s.1 + 4) := ShG_n
    refine ShG_e (A := w) g0 ?_ (by rw [Mg_1, nw_1, up_1, nw_1, up_1, nw_1]; omega) (by omega)
    unfold kW0
    exact Ext_x (Ext_x (Ext_nw (Ext_x (Ext_nw (Ext_x (Ext_nw (Ext_x (Ext_nw (Ext_x Ext_rf)))))))))
  obtain ⟨a1, a2, a3, a4⟩ := nod_F (A := s.1 + 2) 7 0 (kW0 s w y) (by omega)
  have eN : kWd s w y = redS (s.1 + 8) 16 0 (msgS (s.1 + 3) 161 0 (nodS (s.1 + 2) 7 0 (kW0 s w y))) := rfl
  generalize nodS (s.1 + 2) 7 0 (kW0 s w y) = sN at *
  obtain ⟨b1, b2, b3, b4⟩ := msg_F (A := s.1 + 3) 161 0 sN (by omega)
  generalize msgS (s.1 + 3) 161 0 sN = sM at *
  obtain ⟨c1, c2, c3, c4⟩ := red_F (A := s.1 + 8) 16 0 sM (by omega)
  rw [eN]
  generalize redS (s.1 + 8) 16 0 sM = sR at *
  rw [n0] at a1 a4
  rw [a1] at b1 b4
  rw [b1] at c1 c4
  have xN : Ext (kW0 s w y) sM (s.1 + 3) ∨ True := Or.inr trivial
  have kk : ∀ a, a < s.1 + 12 → kd sR a = kd (kW0 s w y) a := fun a ha => by
    rw [c2.2.1 a (by omega), b2.2.1 a (by omega), a2.2.1 a (by omega)]
  have rr : ∀ a, a < s.1 + 12 → a ≠ s.1 + 2 → a ≠ s.1 + 3 → a ≠ s.1 + 8 → ∀ k, rf sR a k = rf (kW0 s w y) a k := fun a ha h1 h2 h3 k => by
    rw [c2.2.2 a (by omega) h3 k, b2.2.2 a (by omega) h2 k, a2.2.2 a (by omega) h1 k]
  have rn : ∀ i : Nat, i < 7 → rf sR (s.1 + 2) i = s.1 + 12 + 8 * i ∧ ShC3 sR (s.1 + 12 + 8 * i) := fun i hi => by
    obtain ⟨g1, g2⟩ := a4 i hi
    rw [Int.zero_add] at g1
    refine ⟨by rw [c2.2.2 _ (by omega) (by omega), b2.2.2 _ (by omega) (by omega), g1], ?_⟩
    have g2 : ShC3 sN (s.1 + 12 + 8 * i) := g2
    exact ShC3_e (ShC3_e g2 b2 (by omega) (by omega)) c2 (by omega) (by omega)
  have rm' : ∀ i : Nat, i < 161 → rf sR (s.1 + 3) i = s.1 + 68 + 4 * i ∧ ShG sR (s.1 + 68 + 4 * i) := fun i hi => by
    obtain ⟨g1, g2⟩ := b4 i hi
    rw [Int.zero_add] at g1
    refine ⟨by rw [c2.2.2 _ (by omega) (by omega), g1], ?_⟩
    have g2 : ShG sM (s.1 + 68 + 4 * i) := by rw [show s.1 + 68 + 4 * i = s.1 + 10 + 8 * 7 + 2 + 4 * i by omega]; exact g2
    exact ShG_e g2 c2 (by omega) (by omega)
  have rd' : ∀ i : Nat, i < 16 → rf sR (s.1 + 8) i = s.1 + 712 + i ∧ kd sR (s.1 + 712 + i) = (5, 0) := fun i hi => by
    obtain ⟨g1, g2⟩ := c4 i hi
    rw [Int.zero_add] at g1
    exact ⟨by rw [g1], by rw [show s.1 + 712 + i = s.1 + 10 + 8 * 7 + 4 * 161 + 2 + i by omega]; exact g2⟩
  have hG4 : ShG sR (s.1 + 4) := ShG_e (ShG_e (ShG_e uG a2 (by omega) (by omega)) b2 (by omega) (by omega)) c2 (by omega) (by omega)
  have hb : ∀ i : Int, 0 ≤ i → i ≤ 160 → bx sR w i = w + 67 + 4 * i.toNat := fun i i0 i1 => by
    unfold bx
    rw [show w + 2 = s.1 + 3 by omega, show i = ((i.toNat : Nat) : Int) by omega, (rm' i.toNat (by omega)).1]
    omega
  have hi : inh sR w = w + 3 := by
    unfold inh
    rw [rr w (by omega) (by omega) (by omega) (by omega), v4]; omega
  refine ⟨by rw [c1], ?_, fun hy => ?_, ⟨fun i i0 i1 => ?_, ?_, fun i j i0 ij j1 => ?_⟩, ?_⟩
  · refine ⟨by rw [c1]; omega, fun a ha => ?_, fun a ha hX k => ?_⟩
    · rw [kk a (by omega), x0.2.1 a ha]
    · rw [rr a (by omega) (by omega) (by omega) (by omega), x0.2.2 a ha hX k]
  · unfold ShV
    rw [kk w (by omega), rr w (by omega) (by omega) (by omega) (by omega), rr w (by omega) (by omega) (by omega) (by omega), rr w (by omega) (by omega) (by omega) (by omega), rr w (by omega) (by omega) (by omega) (by omega), rr w (by omega) (by omega) (by omega) (by omega), rr w (by omega) (by omega) (by omega) (by omega), rr w (by omega) (by omega) (by omega) (by omega), v0, w3, w4, w5, v7, v10, v11, w1]
    rw [show w + 1 = s.1 + 2 by omega, show w + 2 = s.1 + 3 by omega, show w + 7 = s.1 + 8 by omega, show w + 8 = s.1 + 9 by omega, show w + 9 = s.1 + 10 by omega, show w + 10 = s.1 + 11 by omega, kk _ (by omega), kk _ (by omega), kk _ (by omega), kk _ (by omega), kk _ (by omega), kk _ (by omega), w6, w8, w10, u9, u10, u11]
    refine ⟨rfl, hy, ⟨rfl, rfl⟩, fun n n0 n1 => ?_, ⟨rfl, rfl⟩, ⟨rfl, rfl⟩, fun i i0 i1 => ?_, ⟨rfl, rfl⟩, ⟨rfl, rfl⟩, ⟨rfl, rfl⟩, fun n n0 n1 => ?_, fun o ho => ?_⟩
    · have := (rn n.toNat (by omega)).1
      rw [show ((n.toNat : Nat) : Int) = n by omega] at this
      rw [this]; unfold ndA; omega
    · have := rd' i.toNat (by omega)
      rw [show ((i.toNat : Nat) : Int) = i by omega] at this
      have er : rdA w i = s.1 + 712 + i.toNat := by unfold rdA; omega
      rw [er]
      exact this
    · refine ShN_c ⟨n0, n1⟩ ?_
      have := (rn n.toNat (by omega)).2
      rwa [show s.1 + 12 + 8 * n.toNat = w + 11 + 8 * n.toNat by omega] at this
    · rcases ho with rfl | ⟨i, i1, rfl⟩
      · rw [show w + 3 = s.1 + 4 by omega]; exact hG4
      · have := (rm' i (by omega)).2
        rwa [show s.1 + 68 + 4 * i = w + 67 + 4 * i by omega] at this
  · rw [hb i i0 i1, hi]
    exact ⟨Or.inr ⟨i.toNat, by omega, rfl⟩, by omega⟩
  · rw [hi]; exact Or.inl rfl
  · rw [hb i i0 (by omega), hb j (by omega) j1]; omega
  · rw [rr w (by omega) (by omega) (by omega) (by omega), v0]
end Sh
