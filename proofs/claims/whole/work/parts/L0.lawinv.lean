/-! the law's loop: what holds at its head -/
section Lv
variable {s s' : qS} {c c' r r' : qI} {S S' : qN} {w : Nat} {I : qN → Prop}
theorem mkC_rg (h : ∀ a, w ≤ a → a < w + 727 → c' a = c a) (e : mkC w S c = c) : mkC w S c' = c' := by
  funext a k
  by_cases q : w ≤ a ∧ a < w + 727
  · rw [mkC_at (g := c) (by rw [h a q.1 q.2]), e, h a q.1 q.2]
  · exact mkC_o (by unfold offW; omega)
theorem ShMs_ag (k : ∀ a, 2198 ≤ a → kd s' a = kd s a) (f : ∀ (a : Nat) (i : Int), 2198 ≤ a → rf s' a i = rf s a i) (h : ShMs s) : ShMs s' := by
  obtain ⟨h0, ⟨a0, b0⟩, ⟨a1, b1⟩, ⟨a2, b2⟩, ⟨a3, b3⟩, ⟨a4, b4⟩, ⟨a5, b5⟩, ⟨a6, b6⟩, ⟨a7, b7⟩, ⟨a8, b8⟩, ⟨a9, b9⟩, ⟨a10, b10⟩, ⟨a11, b11⟩, ⟨a12, b12⟩, ⟨a13, b13⟩, ⟨a14, b14⟩, ⟨a15, b15⟩, ⟨a16, b16⟩, ⟨a17, b17⟩, ⟨a18, b18⟩, ⟨a19, b19⟩, ⟨a20, b20⟩, ⟨a21, b21⟩, ⟨a22, b22⟩, ⟨a23, b23⟩, ⟨a24, b24⟩, ⟨a25, b25⟩⟩ := h
  exact ⟨(k 2198 (by omega)).trans h0, ⟨(f 2198 0 (by omega)).trans a0, (k 2199 (by omega)).trans b0⟩, ⟨(f 2198 1 (by omega)).trans a1, (k 2200 (by omega)).trans b1⟩, ⟨(f 2198 2 (by omega)).trans a2, (k 2201 (by omega)).trans b2⟩, ⟨(f 2198 3 (by omega)).trans a3, (k 2202 (by omega)).trans b3⟩, ⟨(f 2198 4 (by omega)).trans a4, (k 2203 (by omega)).trans b4⟩, ⟨(f 2198 5 (by omega)).trans a5, (k 2204 (by omega)).trans b5⟩, ⟨(f 2198 16 (by omega)).trans a6, (k 2205 (by omega)).trans b6⟩, ⟨(f 2198 17 (by omega)).trans a7, (k 2206 (by omega)).trans b7⟩, ⟨(f 2198 18 (by omega)).trans a8, (k 2207 (by omega)).trans b8⟩, ⟨(f 2198 19 (by omega)).trans a9, (k 2208 (by omega)).trans b9⟩, ⟨(f 2198 20 (by omega)).trans a10, (k 2209 (by omega)).trans b10⟩, ⟨(f 2198 21 (by omega)).trans a11, (k 2210 (by omega)).trans b11⟩, ⟨(f 2198 22 (by omega)).trans a12, (k 2211 (by omega)).trans b12⟩, ⟨(f 2198 23 (by omega)).trans a13, (k 2212 (by omega)).trans b13⟩, ⟨(f 2198 24 (by omega)).trans a14, (k 2213 (by omega)).trans b14⟩, ⟨(f 2198 25 (by omega)).trans a15, (k 2214 (by omega)).trans b15⟩, ⟨(f 2198 26 (by omega)).trans a16, (k 2215 (by omega)).trans b16⟩, ⟨(f 2198 27 (by omega)).trans a17, (k 2216 (by omega)).trans b17⟩, ⟨(f 2198 28 (by omega)).trans a18, (k 2217 (by omega)).trans b18⟩, ⟨(f 2198 30 (by omega)).trans a19, (k 2218 (by omega)).trans b19⟩, ⟨(f 2198 31 (by omega)).trans a20, (k 2219 (by omega)).trans b20⟩, ⟨(f 2198 32 (by omega)).trans a21, (k 2220 (by omega)).trans b21⟩, ⟨(f 2198 33 (by omega)).trans a22, (k 2221 (by omega)).trans b22⟩, ⟨(f 2198 34 (by omega)).trans a23, (k 2222 (by omega)).trans b23⟩, ⟨(f 2198 35 (by omega)).trans a24, (k 2223 (by omega)).trans b24⟩, ⟨(f 2198 36 (by omega)).trans a25, (k 2224 (by omega)).trans b25⟩⟩
theorem FrS_k (h : FrS w s s') (a : Nat) : kd s' a = kd s a := by unfold kd; rw [h.2.1]
theorem FrS_f (h : FrS w s s') {a : Nat} (ha : a < w ∨ w + 727 ≤ a) (i : Int) : rf s' a i = rf s a i := h.2.2 a i (by omega) (Or.inl (by omega))
theorem ShR_fr (h : FrS w s s') (hw : w + 727 ≤ 1463) (hR : ShR s) : ShR s' := by
  unfold ShR at hR ⊢
  rw [FrS_k h, FrS_k h, FrS_k h, FrS_k h, FrS_k h, FrS_f h (by omega), FrS_f h (by omega), FrS_f h (by omega), FrS_f h (by omega)]
  exact hR
theorem ShP_fs (h : FrS w s s') (hw : w + 727 ≤ 1463) (hP : ShP s) : ShP s' := by
  unfold ShP at hP ⊢
  rw [FrS_k h, FrS_k h, FrS_k h, FrS_f h (by omega), FrS_f h (by omega)]
  exact hP
theorem ShMs_fr (h : FrS w s s') (hw : w + 727 ≤ 1463) (hM : ShMs s) : ShMs s' := ShMs_ag (fun a _ => FrS_k h a) (fun a i ha => FrS_f h (by omega) i) hM
/-- what both sides are, at rest -/
def LvS (s : qS) : Prop := (ShMs s ∧ ShT s 8 ∧ ShP s ∧ ShR s) ∧ ShW s 8 ∧ ShW s 735 ∧ ShW s 1462
def LvZ (c : qI) (w : Nat) : Prop := BG w c ∧ ∀ m, 0 ≤ m → m ≤ 6 → c (ndA w m 0) 0 = m
def LvW (I : qN → Prop) (s : qS) (w : Nat) (c : qI) (S : qN) : Prop := (mkC w S c = c ∧ MsC s w c S) ∧ RSt S ∧ I S
def LvT (c r : qI) : Prop := (0 ≤ c 2 6 ∧ c 2 6 ≤ 260) ∧ c 2 6 = r 2198 6 ∧ c 2189 = fT r
def LvK (I : qN → Prop) (s : qS) (c r : qI) : Prop := (c 2 4 = 0 ∨ c 2 4 = 1) ∧ c 2 4 = r 2198 44 ∧ (c 2 4 = 1 → LvW I s 1462 c (r 2201)) ∧ smS (r 2201)
def LvI (I : qN → Prop) (s : qS) (c r : qI) : Prop := LvS s ∧ LvW I s 8 c (r 2199) ∧ CLw c r ∧ (LvZ c 735 ∧ LvZ c 1462) ∧ LvT c r ∧ SBd (c 2192) ∧ LvK I s c r
theorem LvZ_c (h : LvZ c w) (hc : ∀ a, w ≤ a → a < w + 727 → c' a = c a) : LvZ c' w :=
  ⟨BG_c h.1 hc, fun m m0 m1 => by rw [hc _ (by unfold ndA; omega) (by unfold ndA; omega)]; exact h.2 m m0 m1⟩
theorem LvW_c (hS : ShW s w) (h : LvW I s w c S) (hc : ∀ a, w ≤ a → a < w + 727 → c' a = c a) (hb : ∀ i, bx s' w i = bx s w i) : LvW I s' w c' S :=
  ⟨⟨mkC_rg hc h.1.1, MsC_c hS h.2.1.1 hb h.1.2 hc⟩, h.2⟩
theorem LvK_c (hS : ShW s 1462) (h : LvK I s c r) (hc : ∀ a, 1462 ≤ a → a < 1462 + 727 → c' a = c a) (hb : ∀ i, bx s' 1462 i = bx s 1462 i) (h4 : c' 2 4 = c 2 4) (r4 : r' 2198 44 = r 2198 44) (r1 : r' 2201 = r 2201) : LvK I s' c' r' := by
  obtain ⟨k1, k2, k3, k4⟩ := h
  unfold LvK
  rw [h4, r4, r1]
  exact ⟨k1, k2, fun q => LvW_c hS (k3 q) hc hb, k4⟩
theorem LvT_c (h : LvT c r) (h6 : c' 2 6 = c 2 6) (ht : c' 2189 = c 2189) (r6 : r' 2198 6 = r 2198 6) (r4 : r' 2204 = r 2204) : LvT c' r' := by
  unfold LvT fT at h ⊢
  rw [h6, ht, r6, r4]
  exact h
theorem CLw_r (h : CLw c r) (r15 : r' 2198 15 = r 2198 15) (h1 : ∀ a, 2211 ≤ a → a ≤ 2215 → r' a = r a) : CLw c r' := by
  unfold CLw RuC at h ⊢
  rw [r15, h1 2211 (by omega) (by omega), h1 2212 (by omega) (by omega), h1 2213 (by omega) (by omega), h1 2214 (by omega) (by omega), h1 2215 (by omega) (by omega)]
  exact h
theorem LvS_fr (h : LvS s) (f : FrS 8 s s') (hW : ShW s' 8) : LvS s' :=
  ⟨⟨ShMs_fr f (by omega) h.1.1, ShT_fr f (by omega) h.1.2.1, ShP_fs f (by omega) h.1.2.2.1, ShR_fr f (by omega) h.1.2.2.2⟩, hW, ShW_fr f (by omega) (by omega) (by omega) h.2.2.1, ShW_fr f (by omega) (by omega) (by omega) h.2.2.2⟩
theorem LvS_f5 (h : LvS s) (f : FrS 735 s s') (hW : ShW s' 735) : LvS s' :=
  ⟨⟨ShMs_fr f (by omega) h.1.1, ShT_fr f (by omega) h.1.2.1, ShP_fs f (by omega) h.1.2.2.1, ShR_fr f (by omega) h.1.2.2.2⟩, ShW_fr f (by omega) (by omega) (by omega) h.2.1, hW, ShW_fr f (by omega) (by omega) (by omega) h.2.2.2⟩
/-- an act on both sides -/
theorem LvI_K (h : LvI I s c r) (k : KS s 8 c s' c' S') (e : r' 2199 = S') (z : Rz r r') (hr : RSt S') (hi : I S') : LvI I s' c' r' := by
  obtain ⟨hS, hW, hL, ⟨z5, z6⟩, hT, hB, hK⟩ := h
  obtain ⟨k1, k2, k3, k4, k5⟩ := k
  subst e
  have a2 : c' 2 = c 2 := k3 2 (by omega) (by omega) (by omega)
  refine ⟨LvS_fr hS k4 k5, ⟨⟨k1, k2⟩, hr, hi⟩, CLw_r (CLw_c hL (k3 3 (by omega) (by omega) (by omega)) (k3 4 (by omega) (by omega) (by omega)) (k3 5 (by omega) (by omega) (by omega))) (z.2 15 (by omega)) (fun a a1 a2 => z.1 a (by omega) (by omega) (by omega) (by omega) (by omega) (by omega)), ⟨LvZ_c z5 (fun a a1 a2 => k3 a (by omega) (by omega) (by omega)), LvZ_c z6 (fun a a1 a2 => k3 a (by omega) (by omega) (by omega))⟩, LvT_c hT (by rw [a2]) (k3 2189 (by omega) (by omega) (by omega)) (z.2 6 (by omega)) (z.1 2204 (by omega) (by omega) (by omega) (by omega) (by omega) (by omega)), by rw [k3 2192 (by omega) (by omega) (by omega)]; exact hB, LvK_c hS.2.2.2 hK (fun a a1 a2 => k3 a (by omega) (by omega) (by omega)) (fun i => FrS_f k4 (by omega) i) (by rw [a2]) (z.2 44 (by omega)) (z.1 2201 (by omega) (by omega) (by omega) (by omega) (by omega) (by omega))⟩
/-- a trial on the class's side -/
theorem LvI_TS (h : LvI I s c r) (k : TS s c s' c') : LvI I s' c' r := by
  obtain ⟨hS, hW, hL, ⟨z5, z6⟩, hT, hB, hK⟩ := h
  obtain ⟨k3, k4, k5, k6, k7⟩ := k
  have a2 : c' 2 = c 2 := k3 2 (by omega) (by omega) (by omega)
  refine ⟨LvS_f5 hS k4 k5, ?_, CLw_c hL (k3 3 (by omega) (by omega) (by omega)) (k3 4 (by omega) (by omega) (by omega)) (k3 5 (by omega) (by omega) (by omega)), ⟨⟨k6, k7⟩, LvZ_c z6 (fun a a1 a2 => k3 a (by omega) (by omega) (by omega))⟩, LvT_c hT (by rw [a2]) (k3 2189 (by omega) (by omega) (by omega)) rfl rfl, by rw [k3 2192 (by omega) (by omega) (by omega)]; exact hB, LvK_c hS.2.2.2 hK (fun a a1 a2 => k3 a (by omega) (by omega) (by omega)) (fun i => FrS_f k4 (by omega) i) (by rw [a2]) rfl rfl⟩
  exact LvW_c hS.2.1 hW (fun a a1 a2 => k3 a (by omega) (by omega) (by omega)) (fun i => FrS_f k4 (by omega) i)
end Lv
