/-! cells of the class's memory are written -/
section Up
variable {w p A : Nat} {S S' : qN} {g g' : qI} {n i k e v : Int}
theorem up_eq (h : ∀ a k', mkC w S' g' a k' = if a = A ∧ k' = k then v else mkC w S g a k') : up (mkC w S g) A k v = mkC w S' g' := by
  funext a k'
  rw [up_at, h]
theorem ndA_ne {m n : Int} {p q : Nat} (hm : 0 ≤ m) (hn : 0 ≤ n) (hp : p < 8) (hq : q < 8) (h : m ≠ n ∨ p ≠ q) : ndA w m p ≠ ndA w n q := by unfold ndA; omega
theorem up_N (hn : 0 ≤ n ∧ n ≤ 6) (hp : p < 8) (ho : offN S S' n) (h' : ∀ p' k', p' < 8 → ndC (nd S' n) n p' k' (g' (ndA w n p') k') = if p' = p ∧ k' = k then v else ndC (nd S n) n p' k' (g (ndA w n p') k')) (hg : ∀ a k', (∀ p', p' < 8 → a ≠ ndA w n p') → g' a k' = g a k') : up (mkC w S g) (ndA w n p) k v = mkC w S' g' := by
  refine up_eq (fun a k' => ?_)
  refine mk_cases (w := w) (P := fun a => mkC w S' g' a k' = if a = ndA w n p ∧ k' = k then v else mkC w S g a k') ?_ ?_ ?_ ?_ ?_ ?_ ?_ a
  · intro m q h1 h2 h3
    rw [mkC_N ⟨h1, h2⟩ h3, mkC_N ⟨h1, h2⟩ h3]
    by_cases hmn : m = n
    · subst hmn
      rw [h' q k' h3]
      by_cases hq : q = p ∧ k' = k
      · rw [if_pos hq, if_pos ⟨by rw [hq.1], hq.2⟩]
      · rw [if_neg hq, if_neg]
        intro ⟨q1, q2⟩
        exact hq ⟨by unfold ndA at q1; omega, q2⟩
    · rw [if_neg (fun q1 => ndA_ne h1 hn.1 h3 hp (Or.inl hmn) q1.1), hg _ _ (fun p' hp' => ndA_ne h1 hn.1 h3 hp' (Or.inl hmn)), nd_c (fun e e0 e1 => nd_off hn ho hmn ⟨e0, e1⟩)]
  · intro j h1 h2
    rw [mkC_R ⟨h1, h2⟩, mkC_R ⟨h1, h2⟩, if_neg (by unfold rdA ndA; omega), hg _ _ (fun p' hp' => by unfold rdA ndA; omega)]
    unfold rdC
    rw [ho 11135 (by omega), ho (11028 + 6 * j + 4) (by omega), ho (11028 + 6 * j) (by omega), ho (11028 + 6 * j + 1) (by omega), ho (11028 + 6 * j + 2) (by omega), ho (11028 + 6 * j + 3) (by omega), ho (11028 + 6 * j + 5) (by omega)]
  · rw [mkC_w, mkC_w, if_neg (by unfold ndA; omega), hg _ _ (fun p' hp' => by unfold ndA; omega)]
    unfold wlC
    rw [ho 11133 (by omega), ho 11135 (by omega), ho 11134 (by omega), ho 11131 (by omega), ho 11132 (by omega), ho 11136 (by omega), ho 11137 (by omega), hcnt_c (fun j a b => ho j (by omega))]
  · rw [mkC_8, mkC_8, if_neg (by unfold ndA; omega), hg _ _ (fun p' hp' => by unfold ndA; omega)]
    unfold heC pk
    by_cases h : 1 ≤ k' ∧ k' ≤ 999
    · rw [ho (6028 + 4 * k') (by omega), ho (6028 + 4 * k' + 1) (by omega), ho (6028 + 4 * k' + 2) (by omega), ho (6028 + 4 * k' + 3) (by omega)]
    · rw [if_neg h, if_neg h]
  · rw [mkC_9, mkC_9, if_neg (show ¬ (w + 9 = ndA w n p ∧ k' = k) by unfold ndA; omega), hg _ _ (fun p' hp' => by unfold ndA; omega)]
    by_cases h : 0 ≤ k' ∧ k' ≤ 999
    · rw [ho (10028 + k') (by omega)]
    · rw [if_neg h, if_neg h]
  · rw [mkC_10, mkC_10, if_neg (show ¬ (w + 10 = ndA w n p ∧ k' = k) by unfold ndA; omega), hg _ _ (fun p' hp' => by unfold ndA; omega)]
    by_cases h : 0 ≤ k' ∧ k' ≤ 6
    · rw [ho (11124 + k') (by omega)]
    · rw [if_neg h, if_neg h]
  · intro a h
    have hne : ∀ p', p' < 8 → a ≠ ndA w n p' := fun p' hp' => by unfold offW at h; unfold ndA; omega
    rw [mkC_o h, mkC_o h, if_neg (fun q => hne p hp q.1), hg _ _ hne]
theorem offN_u1 (he : 0 ≤ e ∧ e < 244) : offN S (u1 S (244 * n + e) v) n := fun j hj => u1_ne (by omega)
theorem nd_u1c : nd (u1 S (244 * n + e) v) n = u1 (nd S n) e v := by
  funext j
  unfold nd u1
  by_cases h : j = e
  · rw [if_pos (by omega), if_pos h]
  · rw [if_neg (by omega), if_neg h]
/-- the plain cells of a node -/
def ceN (p : Nat) (k e : Int) : Prop := (p = 0 ∧ ((k = 2 ∧ e = 1) ∨ (k = 8 ∧ e = 9) ∨ (k = 10 ∧ e = 10) ∨ (k = 12 ∧ e = 12) ∨ (k = 16 ∧ e = 13) ∨ (k = 17 ∧ e = 14))) ∨ (p = 2 ∧ (0 ≤ k ∧ k ≤ 3) ∧ e = 4 + k) ∨ (p = 3 ∧ (0 ≤ k ∧ k < 8) ∧ e = 23 + k) ∨ (p = 4 ∧ (0 ≤ k ∧ k < 8) ∧ e = 15 + k)
theorem ndC_ce {f : qN} {p' : Nat} {k' x : Int} (h : ceN p k e) (hp' : p' < 8) : ndC (u1 f e v) n p' k' x = if p' = p ∧ k' = k then v else ndC f n p' k' x := by
  have hp8 : p' = 0 ∨ p' = 1 ∨ p' = 2 ∨ p' = 3 ∨ p' = 4 ∨ p' = 5 ∨ p' = 6 ∨ p' = 7 := by omega
  unfold ceN at h
  rcases h with ⟨rfl, h⟩ | ⟨rfl, h, rfl⟩ | ⟨rfl, h, rfl⟩ | ⟨rfl, h, rfl⟩
  · rcases h with ⟨rfl, rfl⟩ | ⟨rfl, rfl⟩ | ⟨rfl, rfl⟩ | ⟨rfl, rfl⟩ | ⟨rfl, rfl⟩ | ⟨rfl, rfl⟩ <;> rcases hp8 with rfl | rfl | rfl | rfl | rfl | rfl | rfl | rfl <;> simp only [ndC, pk, u1] <;> grind (splits := 60)
  all_goals (rcases hp8 with rfl | rfl | rfl | rfl | rfl | rfl | rfl | rfl <;> simp only [ndC, pk, u1] <;> grind (splits := 60))
theorem up_ce (hn : 0 ≤ n ∧ n ≤ 6) (h : ceN p k e) : up (mkC w S g) (ndA w n p) k v = mkC w (u1 S (244 * n + e) v) g := by
  have hp : p < 8 := by unfold ceN at h; omega
  have he : 0 ≤ e ∧ e < 244 := by unfold ceN at h; omega
  refine up_N hn hp (offN_u1 he) (fun p' k' hp' => ?_) (fun _ _ _ => rfl)
  rw [nd_u1c, ndC_ce h hp']
/-- VOTE -/
theorem up_vote (hn : 0 ≤ n ∧ n ≤ 6) : up (mkC w S g) (ndA w n 0) 3 (onS v) = mkC w (u1 S (244 * n + 2) v) g := by
  refine up_N hn (by omega) (offN_u1 (by omega)) (fun p' k' hp' => ?_) (fun _ _ _ => rfl)
  rw [nd_u1c]
  have hp8 : p' = 0 ∨ p' = 1 ∨ p' = 2 ∨ p' = 3 ∨ p' = 4 ∨ p' = 5 ∨ p' = 6 ∨ p' = 7 := by omega
  rcases hp8 with rfl | rfl | rfl | rfl | rfl | rfl | rfl | rfl <;> simp only [ndC, pk, u1] <;> grind (splits := 60)
theorem up_known (hn : 0 ≤ n ∧ n ≤ 6) (hu : nd S n 0 = 1) : up (mkC w S g) (ndA w n 0) 11 (onS v) = mkC w (u1 S (244 * n + 11) v) g := by
  refine up_N hn (by omega) (offN_u1 (by omega)) (fun p' k' hp' => ?_) (fun _ _ _ => rfl)
  rw [nd_u1c]
  have hp8 : p' = 0 ∨ p' = 1 ∨ p' = 2 ∨ p' = 3 ∨ p' = 4 ∨ p' = 5 ∨ p' = 6 ∨ p' = 7 := by omega
  rcases hp8 with rfl | rfl | rfl | rfl | rfl | rfl | rfl | rfl <;> simp only [ndC, pk, u1] <;> grind (splits := 60)
/-- a ROLE that is not LEADER -/
theorem up_role (hn : 0 ≤ n ∧ n ≤ 6) (hv : v ≠ 2) : up (mkC w S g) (ndA w n 0) 7 v = mkC w (u1 S (244 * n + 3) v) (mkC w S g) := by
  refine (congrArg (fun c => up c (ndA w n 0) 7 v) mkC_id.symm).trans ?_
  refine up_N hn (by omega) (offN_u1 (by omega)) (fun p' k' hp' => ?_) (fun _ _ _ => rfl)
  rw [nd_u1c, mkC_N hn hp']
  generalize g (ndA w n p') k' = x
  have hp8 : p' = 0 ∨ p' = 1 ∨ p' = 2 ∨ p' = 3 ∨ p' = 4 ∨ p' = 5 ∨ p' = 6 ∨ p' = 7 := by omega
  rcases hp8 with rfl | rfl | rfl | rfl | rfl | rfl | rfl | rfl <;> simp only [ndC, pk, u1] <;> grind (splits := 60)
/-- NEXT, MATCH, HEARD of a LEADER -/
theorem up_lead (hn : 0 ≤ n ∧ n ≤ 6) (h3 : nd S n 3 = 2) (hk : 0 ≤ k ∧ k < 7) (hp : (p = 5 ∧ e = 31 + k) ∨ (p = 6 ∧ e = 38 + k) ∨ (p = 7 ∧ e = 45 + k)) : up (mkC w S g) (ndA w n p) k v = mkC w (u1 S (244 * n + e) v) g := by
  refine up_N hn (by omega) (offN_u1 (by omega)) (fun p' k' hp' => ?_) (fun _ _ _ => rfl)
  rw [nd_u1c]
  have hp8 : p' = 0 ∨ p' = 1 ∨ p' = 2 ∨ p' = 3 ∨ p' = 4 ∨ p' = 5 ∨ p' = 6 ∨ p' = 7 := by omega
  rcases hp with ⟨rfl, rfl⟩ | ⟨rfl, rfl⟩ | ⟨rfl, rfl⟩ <;> rcases hp8 with rfl | rfl | rfl | rfl | rfl | rfl | rfl | rfl <;> simp only [ndC, pk, u1] <;> grind (splits := 60)
/-- a log's cell behind the last -/
theorem up_log (hn : 0 ≤ n ∧ n ≤ 6) (hk : nd S n 8 ≤ k) : up (mkC w S g) (ndA w n 1) k v = mkC w S (up g (ndA w n 1) k v) := by
  refine up_N hn (by omega) (fun _ _ => rfl) (fun p' k' hp' => ?_) (fun a k' h => up_ne (Or.inl (h 1 (by omega))))
  by_cases hq : p' = 1 ∧ k' = k
  · rw [if_pos hq, hq.1, hq.2, up_same]
    simp only [ndC]
    grind (splits := 60)
  · rw [if_neg hq, up_ne]
    unfold ndA; omega
/-- what is not told by the row -/
theorem up_off (h : offW w A) : up (mkC w S g) A k v = mkC w S (up g A k v) := by
  refine up_eq (fun a k' => ?_)
  have key : ∀ b, b ≠ A → up g A k v b k' = g b k' := fun b hb => up_ne (Or.inl hb)
  refine mk_cases (w := w) (P := fun a => mkC w S (up g A k v) a k' = if a = A ∧ k' = k then v else mkC w S g a k') ?_ ?_ ?_ ?_ ?_ ?_ ?_ a
  · intro m q h1 h2 h3
    have : ndA w m q ≠ A := by unfold offW at h; unfold ndA; omega
    rw [mkC_N ⟨h1, h2⟩ h3, mkC_N ⟨h1, h2⟩ h3, key _ this, if_neg (fun q => this q.1)]
  · intro j h1 h2
    have : rdA w j ≠ A := by unfold offW at h; unfold rdA; omega
    rw [mkC_R ⟨h1, h2⟩, mkC_R ⟨h1, h2⟩, key _ this, if_neg (fun q => this q.1)]
  · have : w ≠ A := by unfold offW at h; omega
    rw [mkC_w, mkC_w, key _ this, if_neg (fun q => this q.1)]
  · have : w + 8 ≠ A := by unfold offW at h; omega
    rw [mkC_8, mkC_8, key _ this, if_neg (fun q => this q.1)]
  · have : w + 9 ≠ A := by unfold offW at h; omega
    rw [mkC_9, mkC_9, key _ this, if_neg (show ¬ (w + 9 = A ∧ k' = k) from fun q => this q.1)]
  · have : w + 10 ≠ A := by unfold offW at h; omega
    rw [mkC_10, mkC_10, key _ this, if_neg (show ¬ (w + 10 = A ∧ k' = k) from fun q => this q.1)]
  · intro a ha
    rw [mkC_o ha, mkC_o ha, up_at]
/-- the world's cells -/
theorem up_W (hA : A = w ∨ A = w + 8 ∨ A = w + 9 ∨ A = w + 10 ∨ ∃ i, (0 ≤ i ∧ i < 16) ∧ A = rdA w i) (hN : ∀ j, 0 ≤ j → j < 1708 → S' j = S j) (h0 : ∀ k', wlC S' k' (g w k') = if w = A ∧ k' = k then v else wlC S k' (g w k')) (h8 : ∀ k', heC S' k' (g (w + 8) k') = if w + 8 = A ∧ k' = k then v else heC S k' (g (w + 8) k'))
    (h9 : ∀ k', (if 0 ≤ k' ∧ k' ≤ 999 then ldV (S' (10028 + k')) else g (w + 9) k') = if w + 9 = A ∧ k' = k then v else if 0 ≤ k' ∧ k' ≤ 999 then ldV (S (10028 + k')) else g (w + 9) k')
    (h10 : ∀ k', (if 0 ≤ k' ∧ k' ≤ 6 then S' (11124 + k') else g (w + 10) k') = if w + 10 = A ∧ k' = k then v else if 0 ≤ k' ∧ k' ≤ 6 then S (11124 + k') else g (w + 10) k')
    (hR : ∀ i k', 0 ≤ i → i < 16 → rdC S' i k' (g (rdA w i) k') = if rdA w i = A ∧ k' = k then v else rdC S i k' (g (rdA w i) k')) : up (mkC w S g) A k v = mkC w S' g := by
  refine up_eq (fun a k' => ?_)
  have hAN : ∀ m q, 0 ≤ m → m ≤ 6 → q < 8 → ndA w m q ≠ A := by
    intro m q h1 h2 h3
    rcases hA with rfl | rfl | rfl | rfl | ⟨i, hi, rfl⟩ <;> (unfold ndA; try unfold rdA) <;> omega
  have hAo : ∀ a, offW w a → a ≠ A := by
    intro a h
    unfold offW at h
    rcases hA with rfl | rfl | rfl | rfl | ⟨i, hi, rfl⟩ <;> (try unfold rdA) <;> omega
  refine mk_cases (w := w) (P := fun a => mkC w S' g a k' = if a = A ∧ k' = k then v else mkC w S g a k') ?_ ?_ ?_ ?_ ?_ ?_ ?_ a
  · intro m q h1 h2 h3
    rw [mkC_N ⟨h1, h2⟩ h3, mkC_N ⟨h1, h2⟩ h3, if_neg (fun q1 => hAN m q h1 h2 h3 q1.1), nd_c (fun e e0 e1 => hN _ (by omega) (by omega))]
  · intro j h1 h2
    rw [mkC_R ⟨h1, h2⟩, mkC_R ⟨h1, h2⟩, hR j k' h1 h2]
  · rw [mkC_w, mkC_w, h0]
  · rw [mkC_8, mkC_8, h8]
  · rw [mkC_9, mkC_9, h9]
  · rw [mkC_10, mkC_10, h10]
  · intro a h
    rw [mkC_o h, mkC_o h, if_neg (fun q => hAo a h q.1)]
end Up
