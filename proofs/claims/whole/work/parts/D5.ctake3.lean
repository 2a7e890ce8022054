/-! the class: what is taken over in all -/
theorem MO_x {w o : Nat} (h : isMO w o) : (o = w + 3 ∨ w + 67 ≤ o) ∧ o + 4 ≤ w + 711 := by
  rcases h with z | ⟨j, _, z⟩ <;> omega
section Wt
variable {s : qS} {c X : qI} {w w' p : Nat} {n k i R : Int} {N M : Nat} {S : qN} {P : Nat → Int → Prop}
theorem bkO {o : Nat} : bcC c P w w' (w + o) k = @ite _ (P o k) (Classical.propDecidable _) (c (w' + o) k) (c (w + o) k) := by
  by_cases q : P o k
  · rw [if_pos q, bc_y q]
  · rw [if_neg q, bc_n q]
theorem bc0 : bcC c P w w' w k = @ite _ (P 0 k) (Classical.propDecidable _) (c w' k) (c w k) := bkO (o := 0)
theorem fN_o {x : Nat} {m : Int} (h : ∀ p, p < 8 → x ≠ ndA w m p) : bcC X (pN m) w w' x = X x := by
  refine bc_o ?_
  by_cases q : x < w
  · exact Or.inl q
  · refine Or.inr (fun k z => ?_)
    have e : x = ndA w m (x - w - 11 - 8 * m.toNat) := by unfold pN at z; unfold ndA; omega
    exact h _ (by unfold pN at z; omega) e
theorem fR_o {x : Nat} {m : Int} (h : x ≠ rdA w m) : bcC X (pR m) w w' x = X x := by
  refine bc_o ?_
  by_cases q : x < w
  · exact Or.inl q
  · exact Or.inr (fun k z => h (by unfold pR at z; unfold rdA; omega))
theorem bc_out {x : Nat} (hP : ∀ o k, P o k → o < 727) (h : x < w ∨ w + 727 ≤ x) : bcC X P w w' x = X x := by
  refine bc_o ?_
  rcases h with h | h
  · exact Or.inl h
  · exact Or.inr (fun k z => by have := hP _ _ z; omega)
theorem mo_bx (hS : ShW s w) (h : 0 ≤ i ∧ i < 160) : isMO w (bx s w i) := (hS.2.1.1 i h.1 (by omega)).1
theorem fM_o (hS : ShW s w) {x : Nat} (hi : 0 ≤ i ∧ i < 160) (h : ∀ j, j < 4 → x ≠ bx s w i + j) {b : Nat} : mtC X (bx s w i) b x = X x := mt_o h
/-- outside of the boxes -/
theorem wt3_o (hS : ShW s w) (hN : N ≤ 160) {x : Nat} (h : ∀ i : Int, 0 ≤ i → i < N → ∀ j, j < 4 → x ≠ bx s w i + j) : wt3 s c w w' N x = bcC (itC (fun n X => bcC X (pN n) w w') 7 0 c) (pO 3) w w' x := by
  unfold wt3
  exact it_o N 0 _ (fun m X a b => mt_o (h m a (by omega)))
theorem wt5_o {x : Nat} (h : ∀ i : Int, 0 ≤ i → i < M → x ≠ rdA w i) : wt5 s c w w' N M x = bcC (wt3 s c w w' N) (pO 6) w w' x := by
  unfold wt5
  exact it_o M 0 _ (fun m X a b => fR_o (h m a (by omega)))
theorem wtN_o {x : Nat} (h : ∀ m p, 0 ≤ m → m ≤ 6 → p < 8 → x ≠ ndA w m p) : itC (fun n X => bcC X (pN n) w w') 7 0 c x = c x :=
  it_o 7 0 _ (fun m X a b => fN_o (fun p hp => h m p a (by omega) hp))
theorem wtN_N (hww : w + 727 ≤ w' ∨ w' + 727 ≤ w) (hn : 0 ≤ n ∧ n ≤ 6) (hp : p < 8) : itC (fun n X => bcC X (pN n) w w') 7 0 c (ndA w n p) = bcC c (pN n) w w' (ndA w n p) := by
  refine it_at (f := fun n X => bcC X (pN n) w w') (y := ndA w' n p) (m := n) (fun X X' h1 h2 => ?_) 7 0 c (fun m' X a b q => fN_o (fun p' hp' => ndA_ne (by omega) (by omega) hp hp' (Or.inl (Ne.symm q)))) (fun m' X a b => fN_o (fun p' hp' => by unfold ndA; omega)) (by omega) (by omega)
  funext k
  by_cases q : cN p k
  · rw [bcN_y hp q, bcN_y hp q, h2]
  · rw [bcN_n hp q, bcN_n hp q, h1]
theorem wt_N (hS : ShW s w) (hN : N ≤ 160) (hM : M ≤ 16) (hww : w + 727 ≤ w' ∨ w' + 727 ≤ w) (hn : 0 ≤ n ∧ n ≤ 6) (hp : p < 8) : wtC s c w w' N M (ndA w n p) = bcC c (pN n) w w' (ndA w n p) := by
  have no : ∀ (P : Nat → Int → Prop) (X : qI), (∀ o k, P o k → o < 11) → bcC X P w w' (ndA w n p) = X (ndA w n p) := fun P X h => bc_o (Or.inr (fun k z => by have := h _ _ z; unfold ndA at this; omega))
  unfold wtC
  rw [no _ _ (fun o k z => by unfold pT at z; omega), wt5_o (fun i a b => by unfold ndA rdA; omega), no _ _ (fun o k z => by unfold pO at z; omega), wt3_o hS hN (fun i a b j hj => by have := MO_x (mo_bx hS (i := i) (by omega)); unfold ndA; omega), no _ _ (fun o k z => by unfold pO at z; omega)]
  exact wtN_N hww hn hp
theorem wt_R (hS : ShW s w) (hS' : ShW s w') (hN : N ≤ 160) (hM : M ≤ 16) (hww : w + 727 ≤ w' ∨ w' + 727 ≤ w) (hi : 0 ≤ i ∧ i < 16) (hk : 0 ≤ k ∧ k < 6) (h : i < M) : wtC s c w w' N M (rdA w i) k = c (rdA w' i) k := by
  have no : ∀ (P : Nat → Int → Prop) (X : qI), (∀ o k, P o k → o < 11) → bcC X P w w' (rdA w i) = X (rdA w i) := fun P X h => bc_o (Or.inr (fun k z => by have := h _ _ z; unfold rdA at this; omega))
  unfold wtC wt5
  rw [no _ _ (fun o k z => by unfold pT at z; omega), it_at (f := fun i X => bcC X (pR i) w w') (y := rdA w' i) (m := i) (fun X X' h1 h2 => by
    funext k
    have e : ∀ v : Nat, rdA v i = v + (711 + i.toNat) := fun v => by unfold rdA; omega
    rw [e w, e w'] at *
    by_cases q : pR i (711 + i.toNat) k
    · rw [bc_y q, bc_y q, h2]
    · rw [bc_n q, bc_n q, h1]) M 0 _ (fun m' X a b q => fR_o (by unfold rdA; omega)) (fun m' X a b => fR_o (by unfold rdA; omega)) hi.1 (by omega)]
  have e : ∀ v : Nat, rdA v i = v + (711 + i.toNat) := fun v => by unfold rdA; omega
  rw [e w, e w', bc_y ⟨rfl, hk⟩, ← e w', bc_out (fun o k z => by unfold pO at z; omega) (by unfold rdA; omega), wt3_o hS hN (fun i' a b j hj => by have := MO_in (mo_bx hS (i := i') (by omega)) hj; unfold rdA; omega), bc_out (fun o k z => by unfold pO at z; omega) (by unfold rdA; omega), wtN_o (fun m p a b q => by unfold ndA rdA; omega)]
theorem wt_R' (hS : ShW s w) (hN : N ≤ 160) (hM : M ≤ 16) (hi : 0 ≤ i ∧ i < 16) (h : ¬ i < M) : wtC s c w w' N M (rdA w i) = c (rdA w i) := by
  have no : ∀ (P : Nat → Int → Prop) (X : qI), (∀ o k, P o k → o < 11) → bcC X P w w' (rdA w i) = X (rdA w i) := fun P X h => bc_o (Or.inr (fun k z => by have := h _ _ z; unfold rdA at this; omega))
  unfold wtC
  rw [no _ _ (fun o k z => by unfold pT at z; omega), wt5_o (fun i' a b => by unfold rdA; omega), no _ _ (fun o k z => by unfold pO at z; omega), wt3_o hS hN (fun i' a b j hj => by have := MO_x (mo_bx hS (i := i') (by omega)); unfold rdA; omega), no _ _ (fun o k z => by unfold pO at z; omega), wtN_o (fun m p a b q => by unfold ndA rdA; omega)]
theorem wt_a (hS : ShW s w) (hN : N ≤ 160) (hM : M ≤ 16) (hww : w + 727 ≤ w' ∨ w' + 727 ≤ w) {o : Nat} (ho : o = 0 ∨ o = 8 ∨ o = 9 ∨ o = 10) : wtC s c w w' N M (w + o) k = @ite _ (pT o k ∨ pO 3 o k ∨ pO 6 o k) (Classical.propDecidable _) (c (w' + o) k) (c (w + o) k) := by
  have a3 : wt3 s c w w' N (w + o) = bcC c (pO 3) w w' (w + o) := by
    rw [wt3_o hS hN (fun i' a b j hj => by have := MO_x (mo_bx hS (i := i') (by omega)); omega)]
    funext k
    rw [bkO, bkO, wtN_o (fun m p a b q => by unfold ndA; omega), wtN_o (fun m p a b q => by unfold ndA; omega)]
  have a3' : wt3 s c w w' N (w' + o) = c (w' + o) := by
    rw [wt3_o hS hN (fun i' a b j hj => by have := MO_in (mo_bx hS (i := i') (by omega)) hj; omega), bc_out (fun o k z => by unfold pO at z; omega) (by omega), wtN_o (fun m p a b q => by unfold ndA; omega)]
  have a5' : wt5 s c w w' N M (w' + o) = c (w' + o) := by
    rw [wt5_o (fun i' a b => by unfold rdA; omega), bc_out (fun o k z => by unfold pO at z; omega) (by omega), a3']
  unfold wtC
  rw [bkO, a5', wt5_o (fun i' a b => by unfold rdA; omega), bkO, a3', a3, bkO]
  by_cases q1 : pT o k
  · rw [if_pos q1, if_pos (Or.inl q1)]
  · rw [if_neg q1]
    by_cases q2 : pO 6 o k
    · rw [if_pos q2, if_pos (Or.inr (Or.inr q2))]
    · rw [if_neg q2]
      by_cases q3 : pO 3 o k
      · rw [if_pos q3, if_pos (Or.inr (Or.inl q3))]
      · rw [if_neg q3, if_neg (by rintro (z | z | z); exact q1 z; exact q3 z; exact q2 z)]
theorem wt_out (hS : ShW s w) (hN : N ≤ 160) (hM : M ≤ 16) {x : Nat} (h : x < w ∨ w + 727 ≤ x) : wtC s c w w' N M x = c x := by
  unfold wtC
  rw [bc_out (fun o k z => by unfold pT at z; omega) h, wt5_o (fun i' a b => by unfold rdA; omega), bc_out (fun o k z => by unfold pO at z; omega) h, wt3_o hS hN (fun i' a b j hj => by have := MO_in (mo_bx hS (i := i') (by omega)) hj; omega), bc_out (fun o k z => by unfold pO at z; omega) h, wtN_o (fun m p a b q => by unfold ndA; omega)]
theorem wt_m (hS : ShW s w) (hN : N ≤ 160) (hM : M ≤ 16) {o j : Nat} (ho : isMO w o) (hj : j < 4) : wtC s c w w' N M (o + j) = wt3 s c w w' N (o + j) := by
  have no : ∀ (P : Nat → Int → Prop) (X : qI), (∀ o k, P o k → o = 0 ∨ o = 8 ∨ o = 9 ∨ o = 10) → bcC X P w w' (o + j) = X (o + j) := fun P X h => bc_o (Or.inr (fun k z => by have := h _ _ z; have hx := MO_x ho; omega))
  unfold wtC
  rw [no _ _ (fun o k z => by unfold pT at z; omega), wt5_o (fun i' a b => by have hx := MO_x ho; unfold rdA; omega), no _ _ (fun o k z => by unfold pO at z; omega)]
theorem wt_n (hS : ShW s w) (hN : N ≤ 160) (hM : M ≤ 16) {o j : Nat} (ho : isMO w o) (hj : j < 4) (h : ∀ i : Int, 0 ≤ i → i < N → o ≠ bx s w i) : wtC s c w w' N M (o + j) = c (o + j) := by
  have no : ∀ (P : Nat → Int → Prop) (X : qI), (∀ o k, P o k → o = 0 ∨ o = 8 ∨ o = 9 ∨ o = 10) → bcC X P w w' (o + j) = X (o + j) := fun P X h => bc_o (Or.inr (fun k z => by have := h _ _ z; have hx := MO_x ho; omega))
  rw [wt_m hS hN hM ho hj, wt3_o hS hN (fun i a b j' hj' => MO_ne ho (mo_bx hS (i := i) (by omega)) (h i a b) hj hj'), no _ _ (fun o k z => by unfold pO at z; omega), wtN_o (fun m p a b q => by have hx := MO_x ho; unfold ndA; omega)]
theorem wt_M (hS : ShW s w) (hS' : ShW s w') (hN : N ≤ 160) (hM : M ≤ 16) (hww : w + 727 ≤ w' ∨ w' + 727 ≤ w) (hi : 0 ≤ i ∧ i < N) {j : Nat} (hj : j < 4) : wtC s c w w' N M (bx s w i + j) = mtC c (bx s w i) (bx s w' i) (bx s w i + j) := by
  have ho := mo_bx hS (i := i) (by omega)
  have ho' := mo_bx hS' (i := i) (by omega)
  have no : ∀ (P : Nat → Int → Prop) (X : qI), (∀ o k, P o k → o = 0 ∨ o = 8 ∨ o = 9 ∨ o = 10) → bcC X P w w' (bx s w i + j) = X (bx s w i + j) := fun P X h => bc_o (Or.inr (fun k z => by have := h _ _ z; have hx := MO_x ho; omega))
  rw [wt_m hS hN hM ho hj]
  unfold wt3
  rw [it_at (f := fun i X => mtC X (bx s w i) (bx s w' i)) (y := bx s w' i + j) (m := i) (fun X X' h1 h2 => mt_c hj h1 h2) N 0 _ (fun m' X a b q => mt_o (fun j' hj' => MO_ne ho (mo_bx hS (i := m') (by omega)) (by
    rcases Int.lt_or_le m' i with z | z
    · exact Ne.symm (hS.2.1.2.2 m' i a z (by omega))
    · exact hS.2.1.2.2 i m' hi.1 (by omega) (by omega)) hj hj')) (fun m' X a b => mt_o (fun j' hj' => by
      have h1 := MO_in (mo_bx hS (i := m') (by omega)) hj'
      have h2 := MO_in ho' hj
      omega)) hi.1 (by omega)]
  refine mt_c hj ?_ ?_
  · rw [no _ _ (fun o k z => by unfold pO at z; omega), wtN_o (fun m p a b q => by have hx := MO_x ho; unfold ndA; omega)]
  · rw [bc_out (fun o k z => by unfold pO at z; omega) (by have := MO_in ho' hj; omega), wtN_o (fun m p a b q => by have := MO_in ho' hj; unfold ndA; omega)]
/-- what is not copied is not told -/
theorem ndC_ncp {f : qN} {x : Int} (hp : p < 8) (h : ¬ cN p k) (h0 : p = 0 → k = 0 → x = n) : ndC f n p k x = x := by
  have hp8 : p = 0 ∨ p = 1 ∨ p = 2 ∨ p = 3 ∨ p = 4 ∨ p = 5 ∨ p = 6 ∨ p = 7 := by omega
  unfold cN at h
  rcases hp8 with rfl | rfl | rfl | rfl | rfl | rfl | rfl | rfl <;> simp only [ndC] <;> grind (splits := 60)
theorem wt_mk (hS : ShW s w) (hS' : ShW s w') (hww : w + 727 ≤ w' ∨ w' + 727 ≤ w) (ho : OK R S) (hc : mkC w' S c = c) (h0 : ∀ m, 0 ≤ m → m ≤ 6 → c (ndA w m 0) 0 = m) : mkC w S (wtC s c w w' (S 11133).toNat (S 11135).toNat) = wtC s c w w' (S 11133).toNat (S 11135).toNat := by
  have h160 := OK_160 ho
  have h16 := (OK_g ho).2.2.2.2.1
  have hN : (S 11133).toNat ≤ 160 := by omega
  have hM : (S 11135).toNat ≤ 16 := by omega
  have src : ∀ a k, mkC w' S c a k = c a k := fun a k => by rw [hc]
  funext a k
  refine mk_cases (w := w) (P := fun a => mkC w S (wtC s c w w' (S 11133).toNat (S 11135).toNat) a k = wtC s c w w' (S 11133).toNat (S 11135).toNat a k) ?_ ?_ ?_ ?_ ?_ ?_ ?_ a
  · intro n p h1 h2 h3
    rw [mkC_N ⟨h1, h2⟩ h3, wt_N hS hN hM hww ⟨h1, h2⟩ h3]
    by_cases q : cN p k
    · rw [bcN_y h3 q]
      have := src (ndA w' n p) k
      rw [mkC_N ⟨h1, h2⟩ h3] at this
      exact this
    · rw [bcN_n h3 q]
      exact ndC_ncp h3 q (fun e1 e2 => by subst e1; subst e2; exact h0 n h1 h2)
  · intro i h1 h2
    rw [mkC_R ⟨h1, h2⟩]
    by_cases q : i < S 11135
    · by_cases q2 : 0 ≤ k ∧ k < 6
      · rw [wt_R hS hS' hN hM hww ⟨h1, h2⟩ q2 (by omega)]
        have := src (rdA w' i) k
        rw [mkC_R ⟨h1, h2⟩] at this
        exact this
      · unfold rdC
        rw [if_pos q, if_neg (by omega), if_neg (by omega), if_neg (by omega), if_neg (by omega), if_neg (by omega), if_neg (by omega)]
    · unfold rdC
      rw [if_neg q]
  · have e := wt_a (c := c) (k := k) hS hN hM hww (Or.inl rfl : 0 = 0 ∨ 0 = 8 ∨ 0 = 9 ∨ 0 = 10)
    rw [Nat.add_zero, Nat.add_zero] at e
    rw [mkC_w, e]
    by_cases q : pT 0 k ∨ pO 3 0 k ∨ pO 6 0 k
    · rw [if_pos q]
      have := src w' k
      rw [mkC_w] at this
      exact this
    · rw [if_neg q]
      unfold pT pO at q
      unfold wlC
      rw [if_neg (by omega), if_neg (by omega), if_neg (by omega), if_neg (by omega), if_neg (by omega), if_neg (by omega), if_neg (by omega), if_neg (by omega)]
  · rw [mkC_8, wt_a hS hN hM hww (by omega)]
    by_cases q : pT 8 k ∨ pO 3 8 k ∨ pO 6 8 k
    · rw [if_pos q]
      have := src (w' + 8) k
      rw [mkC_8] at this
      exact this
    · rw [if_neg q]
      unfold pT pO at q
      unfold heC
      rw [if_neg (by omega)]
  · rw [mkC_9, wt_a hS hN hM hww (by omega)]
    by_cases q : pT 9 k ∨ pO 3 9 k ∨ pO 6 9 k
    · rw [if_pos q]
      have := src (w' + 9) k
      rw [mkC_9] at this
      exact this
    · rw [if_neg q]
      unfold pT pO at q
      rw [if_neg (by omega)]
  · rw [mkC_10, wt_a hS hN hM hww (by omega)]
    by_cases q : pT 10 k ∨ pO 3 10 k ∨ pO 6 10 k
    · rw [if_pos q]
      have := src (w' + 10) k
      rw [mkC_10] at this
      exact this
    · rw [if_neg q]
      unfold pT pO at q
      rw [if_neg (by omega)]
  · intro a h
    rw [mkC_o h]
theorem wt_ms (hS : ShW s w) (hS' : ShW s w') (hww : w + 727 ≤ w' ∨ w' + 727 ≤ w) (ho : OK R S) (hm : MsC s w' c S) (hb : BG w c) : MsC s w (wtC s c w w' (S 11133).toNat (S 11135).toNat) S := by
  have h160 := OK_160 ho
  have h16 := (OK_g ho).2.2.2.2.1
  have hN : (S 11133).toNat ≤ 160 := by omega
  have hM : (S 11135).toNat ≤ 16 := by omega
  refine ⟨fun m m0 m1 => ?_, fun o hmo => ?_⟩
  · obtain ⟨a1, a2⟩ := hm.1 m m0 m1
    have e := fun j hj => wt_M (c := c) (M := (S 11135).toNat) hS hS' hN hM hww (i := m) ⟨m0, by omega⟩ (j := j) hj
    have e0 := e 0 (by omega)
    rw [Nat.add_zero] at e0
    refine ⟨MgC_g e (mt_Mg (OK_m5 ho m m0 m1) a1), ?_⟩
    rw [e0, mt_0 (by unfold cG; omega), a2]
  · by_cases q : ∃ i, 0 ≤ i ∧ i < ((S 11133).toNat : Int) ∧ o = bx s w i
    · obtain ⟨i, i0, i1, rfl⟩ := q
      have e0 := wt_M (c := c) (M := (S 11135).toNat) hS hS' hN hM hww (i := i) ⟨i0, i1⟩ (j := 0) (by omega)
      rw [Nat.add_zero] at e0
      rw [e0, mt_0 (by unfold cG; omega)]
      exact hm.2 _ (mo_bx hS' (by omega))
    · have e0 := wt_n (c := c) (w' := w') (N := (S 11133).toNat) (M := (S 11135).toNat) hS hN hM hmo (j := 0) (by omega) (fun i a b z => q ⟨i, a, b, z⟩)
      rw [Nat.add_zero] at e0
      rw [e0]
      exact hb o hmo
end Wt
