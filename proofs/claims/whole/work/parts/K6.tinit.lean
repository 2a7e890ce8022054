/-! constructors: the whole class -/
section Sh
variable {s s' s'' : qS} {m : qI} {k : Nat × Nat} {a b c x y X v A w : Nat} {i j n : Int}
theorem ShN_c2 (h : ∀ a, w ≤ a → a < w + 727 → kd s' a = kd s a ∧ ∀ k, rf s' a k = rf s a k) (hn : 0 ≤ n ∧ n ≤ 6) (hs : ShN s w n) : ShN s' w n := by
  have e : ∀ p : Nat, p < 8 → w ≤ ndA w n p ∧ ndA w n p < w + 727 := fun p hp => by unfold ndA; omega
  unfold ShN at hs ⊢
  rw [(h _ (e 0 (by omega)).1 (e 0 (by omega)).2).1, (h _ (e 1 (by omega)).1 (e 1 (by omega)).2).1, (h _ (e 2 (by omega)).1 (e 2 (by omega)).2).1, (h _ (e 3 (by omega)).1 (e 3 (by omega)).2).1, (h _ (e 4 (by omega)).1 (e 4 (by omega)).2).1, (h _ (e 5 (by omega)).1 (e 5 (by omega)).2).1, (h _ (e 6 (by omega)).1 (e 6 (by omega)).2).1, (h _ (e 7 (by omega)).1 (e 7 (by omega)).2).1, (h _ (e 0 (by omega)).1 (e 0 (by omega)).2).2, (h _ (e 0 (by omega)).1 (e 0 (by omega)).2).2, (h _ (e 2 (by omega)).1 (e 2 (by omega)).2).2, (h _ (e 0 (by omega)).1 (e 0 (by omega)).2).2, (h _ (e 0 (by omega)).1 (e 0 (by omega)).2).2, (h _ (e 0 (by omega)).1 (e 0 (by omega)).2).2, (h _ (e 0 (by omega)).1 (e 0 (by omega)).2).2]
  exact hs
theorem ShG_c2 (h : ∀ a, w ≤ a → a < w + 727 → kd s' a = kd s a ∧ ∀ k, rf s' a k = rf s a k) {o : Nat} (ho : isMO w o) (hs : ShG s o) : ShG s' o := by
  have e : w ≤ o ∧ o + 3 < w + 727 := by rcases ho with rfl | ⟨i, i1, rfl⟩ <;> omega
  unfold ShG at hs ⊢
  rw [(h o (by omega) (by omega)).1, (h (o + 1) (by omega) (by omega)).1, (h (o + 2) (by omega) (by omega)).1, (h (o + 3) (by omega) (by omega)).1, (h o (by omega) (by omega)).2, (h o (by omega) (by omega)).2, (h (o + 2) (by omega) (by omega)).2]
  exact hs
theorem ShVB_c (h : ∀ a, w ≤ a → a < w + 727 → kd s' a = kd s a ∧ ∀ k, rf s' a k = rf s a k) (hs : ShV s w ∧ ShB s w) : ShV s' w ∧ ShB s' w := by
  obtain ⟨⟨h1, h2, ⟨h3, h4⟩, h5, ⟨h6, h7⟩, ⟨h8, h9⟩, h10, ⟨h11, h12⟩, ⟨h13, h14⟩, ⟨h15, h16⟩, h17, h18⟩, h19⟩ := hs
  have r0 := fun k => (h w (by omega) (by omega)).2 k
  have eb : ∀ i, bx s' w i = bx s w i := fun i => (h (w + 2) (by omega) (by omega)).2 i
  have ei : inh s' w = inh s w := r0 4
  refine ⟨⟨by rw [(h w (by omega) (by omega)).1]; exact h1, by rw [r0]; exact h2, ⟨by rw [r0]; exact h3, by rw [(h (w + 1) (by omega) (by omega)).1]; exact h4⟩, fun n n0 n1 => by rw [(h (w + 1) (by omega) (by omega)).2]; exact h5 n n0 n1, ⟨by rw [r0]; exact h6, by rw [(h (w + 2) (by omega) (by omega)).1]; exact h7⟩, ⟨by rw [r0]; exact h8, by rw [(h (w + 7) (by omega) (by omega)).1]; exact h9⟩, fun i i0 i1 => ?_, ⟨by rw [r0]; exact h11, by rw [(h (w + 8) (by omega) (by omega)).1]; exact h12⟩, ⟨by rw [r0]; exact h13, by rw [(h (w + 9) (by omega) (by omega)).1]; exact h14⟩, ⟨by rw [r0]; exact h15, by rw [(h (w + 10) (by omega) (by omega)).1]; exact h16⟩, fun n n0 n1 => ShN_c2 h ⟨n0, n1⟩ (h17 n n0 n1), fun o ho => ShG_c2 h ho (h18 o ho)⟩, ?_⟩
  · have er : w ≤ rdA w i ∧ rdA w i < w + 727 := by unfold rdA; omega
    rw [(h (w + 7) (by omega) (by omega)).2, (h _ er.1 er.2).1]
    exact h10 i i0 i1
  · unfold ShB
    rw [ei]
    exact ⟨fun i i0 i1 => by rw [eb]; exact h19.1 i i0 i1, h19.2.1, fun i j i0 ij j1 => by rw [eb, eb]; exact h19.2.2 i j i0 ij j1⟩
theorem ShVB_e (h : Ext s s' X) (hw : w + 727 ≤ s.1 + 2) (hX : X < w ∨ w + 727 ≤ X) (hs : ShV s w ∧ ShB s w) : ShV s' w ∧ ShB s' w :=
  ShVB_c (fun a h1 h2 => ⟨h.2.1 a (by omega), fun k => h.2.2 a (by omega) (by omega) k⟩) hs
theorem ShL_ex (h : Ext s s' X) (hw : 8 ≤ s.1 + 2) (hX : X < 3 ∨ 8 ≤ X) (hs : ShL s) : ShL s' := by
  obtain ⟨-, e2, e3⟩ := h
  unfold ShL at hs ⊢
  rw [e2 3 (by omega), e2 4 (by omega), e2 5 (by omega), e2 6 (by omega), e2 7 (by omega), e3 3 (by omega) (by omega), e3 3 (by omega) (by omega), e3 3 (by omega) (by omega), e3 3 (by omega) (by omega)]
  exact hs
theorem ShR_e (h : Ext s s' X) (hw : 2196 ≤ s.1 + 2) (hX : X < 2190) (hs : ShR s) : ShR s' := by
  obtain ⟨-, e2, e3⟩ := h
  unfold ShR at hs ⊢
  rw [e2 2190 (by omega), e2 2189 (by omega), e2 2191 (by omega), e2 2192 (by omega), e2 2193 (by omega), e3 2190 (by omega) (by omega), e3 2190 (by omega) (by omega), e3 2191 (by omega) (by omega), e3 2191 (by omega) (by omega)]
  exact hs
theorem Lw_1 : (kLw s x).1 = s.1 + 4 := rfl
theorem Ext_Lw : Ext s (kLw s x) x := Ext_x (Ext_nw (Ext_x (Ext_nw (Ext_x (Ext_nw (Ext_x (Ext_nw Ext_rf)))))))
theorem Lw_shape (hx : x < s.1 + 2) : (rf (kLw s x) x 2 = s.1 + 2 ∧ kd (kLw s x) (s.1 + 2) = (100, 320)) ∧ (rf (kLw s x) x 3 = s.1 + 3 ∧ kd (kLw s x) (s.1 + 3) = (100, 320)) ∧ (rf (kLw s x) x 4 = s.1 + 4 ∧ kd (kLw s x) (s.1 + 4) = (100, 8)) ∧ (rf (kLw s x) x 5 = s.1 + 5 ∧ kd (kLw s x) (s.1 + 5) = (100, 64)) := by
  unfold kLw
  refine ⟨⟨?_, ?_⟩, ⟨?_, ?_⟩, ⟨?_, ?_⟩, ?_, ?_⟩
  all_goals simp (disch := first | omega | (simp only [nw_1, up_1]; omega)) only [kd_upR, kd_nws, rf_upn, rf_nws, rf_ups]
  all_goals exact kd_nwn
theorem Zr_Lw (h : Zr s m) : Zr (kLw s x) m := fun a k ha => h a k (by rw [Lw_1] at ha; omega)
end Sh
/-- what stands of the class's object -/
def TiF (s : qS) (m : qI) (N : Nat) : Prop := ((s.1 + 2 = N ∧ Zr s m) ∧ kd s 2 = (8, 0)) ∧ (8 ≤ N → rf s 2 0 = 3 ∧ ShL s) ∧ (735 ≤ N → rf s 2 1 = 8 ∧ ShV s 8 ∧ ShB s 8) ∧ (1462 ≤ N → rf s 2 2 = 735 ∧ ShV s 735 ∧ ShB s 735) ∧ (2189 ≤ N → rf s 2 3 = 1462 ∧ ShV s 1462 ∧ ShB s 1462) ∧ (2190 ≤ N → rf s 2 5 = 2189 ∧ kd s 2189 = (100, 260)) ∧ (2196 ≤ N → rf s 2 7 = 2190 ∧ ShR s)
section Ti
variable {s s' s'' : qS} {m m' : qI} {N N' : Nat}
/-- a stage more: what stood stands -/
theorem TiF_e (h : TiF s m N) (he : Ext s s' 2) (hz : s'.1 + 2 = N' ∧ Zr s' m') (hN : N ≤ N' ∧ 3 ≤ N)
    (hr : ∀ k : Int, ((k = 0 ∧ 8 ≤ N) ∨ (k = 1 ∧ 735 ≤ N) ∨ (k = 2 ∧ 1462 ≤ N) ∨ (k = 3 ∧ 2189 ≤ N) ∨ (k = 5 ∧ 2190 ≤ N) ∨ (k = 7 ∧ 2196 ≤ N)) → rf s' 2 k = rf s 2 k)
    (h0 : ¬ 8 ≤ N → 8 ≤ N' → rf s' 2 0 = 3 ∧ ShL s') (h1 : ¬ 735 ≤ N → 735 ≤ N' → rf s' 2 1 = 8 ∧ ShV s' 8 ∧ ShB s' 8) (h2 : ¬ 1462 ≤ N → 1462 ≤ N' → rf s' 2 2 = 735 ∧ ShV s' 735 ∧ ShB s' 735) (h3 : ¬ 2189 ≤ N → 2189 ≤ N' → rf s' 2 3 = 1462 ∧ ShV s' 1462 ∧ ShB s' 1462) (h5 : ¬ 2190 ≤ N → 2190 ≤ N' → rf s' 2 5 = 2189 ∧ kd s' 2189 = (100, 260)) (h7 : ¬ 2196 ≤ N → 2196 ≤ N' → rf s' 2 7 = 2190 ∧ ShR s') : TiF s' m' N' := by
  obtain ⟨⟨⟨g1, g2⟩, g3⟩, g4, g5, g6, g7, g8, g9⟩ := h
  refine ⟨⟨hz, by rw [he.2.1 2 (by omega)]; exact g3⟩, fun q => ?_, fun q => ?_, fun q => ?_, fun q => ?_, fun q => ?_, fun q => ?_⟩
  · by_cases z : 8 ≤ N
    · exact ⟨by rw [hr 0 (by omega)]; exact (g4 z).1, ShL_ex he (by omega) (by omega) (g4 z).2⟩
    · exact h0 z q
  · by_cases z : 735 ≤ N
    · exact ⟨by rw [hr 1 (by omega)]; exact (g5 z).1, ShVB_e he (by omega) (by omega) (g5 z).2⟩
    · exact h1 z q
  · by_cases z : 1462 ≤ N
    · exact ⟨by rw [hr 2 (by omega)]; exact (g6 z).1, ShVB_e he (by omega) (by omega) (g6 z).2⟩
    · exact h2 z q
  · by_cases z : 2189 ≤ N
    · exact ⟨by rw [hr 3 (by omega)]; exact (g7 z).1, ShVB_e he (by omega) (by omega) (g7 z).2⟩
    · exact h3 z q
  · by_cases z : 2190 ≤ N
    · exact ⟨by rw [hr 5 (by omega)]; exact (g8 z).1, by rw [he.2.1 2189 (by omega)]; exact (g8 z).2⟩
    · exact h5 z q
  · by_cases z : 2196 ≤ N
    · exact ⟨by rw [hr 7 (by omega)]; exact (g9 z).1, ShR_e he (by omega) (by omega) (g9 z).2⟩
    · exact h7 z q
end Ti
