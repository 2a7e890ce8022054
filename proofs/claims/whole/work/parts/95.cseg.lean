/-! the class's law: codes in a row -/
section CS
variable {l : Launch} {V : qV} {d : Nat} {s : qS} {w : Nat} {S : qN} {c g r : qI} {R n : Int} {Q : Option Value → qH → Prop}
/-- how the codes end -/
def LWend (l : Launch) (V : qV) (d : Nat) (s : qS) (c r : qI) (Q : Option Value → qH → Prop) (B : Prop) (x1 x2 x3 x4 x6 : Value) (e : Int) (V0 : Int32) : Prop := ∀ (c2 : qI) (rf top2 skip2 at2 : Int) (x10 x11 x12 x13 : Value), (∀ a, a ≠ 7 → c2 a = c a) → at2 = e → (2 ≤ top2 ∧ top2 ≤ 60) → (0 ≤ skip2 ∧ skip2 ≤ at2) → ((rf = 0 ∧ Int32.ofInt (c2 7 (top2 - 1)) = V0 ∧ (B → V0 = Int32.ofInt 0 ∨ V0 = Int32.ofInt 1)) ∨ (rf = 1 ∧ V0 = Int32.ofInt 0)) →
      G l V mi_Law_worth (rm d) 0 0 Q 0 0 15 [.ref 3, x1, x2, x3, x4, .int (Int32.ofInt top2), x6, .int (Int32.ofInt skip2), .int (Int32.ofInt rf), .int (Int32.ofInt at2), x10, x11, x12, x13] [] (mkH s (jn c2 r))
set_option maxHeartbeats 4000000 in
set_option maxRecDepth 100000 in
theorem LW_seg (hd : 3 ≤ d) (hS : ShW s w) {x1 x2 x3 x4 x6 : Value} {C F : qN} {D : Int → Int} {B : Int → Prop} {fr to b : Int} (hw : ∀ k, fr ≤ k → k < to → wfK C D B to k) (hto : D to = 1) (hsz : 0 ≤ c 3 1 ∧ c 3 1 ≤ 320) (hb : 0 ≤ b ∧ b + (to - fr) < c 3 1) (hf : 0 ≤ fr ∧ to ≤ 240) (hseg : SegC c C b fr to) (hF : ∀ i, 0 ≤ i → i ≤ 6 → c 6 i = F i) (hst : ∀ p, 0 ≤ p → p < 320 → -1000 ≤ c 4 p ∧ c 4 p ≤ 1000) :
    ∀ (j : Nat) (k n at' top skip : Int) (st : Int → Int32) (c1 : qI) (x10 x11 x12 x13 : Value), to - k ≤ j → fr ≤ k → k ≤ to → n = D k → at' = b + (k - fr) → top = 2 + n → (0 ≤ skip ∧ skip ≤ at') → (∀ a, a ≠ 7 → c1 a = c a) → (∀ i, 0 ≤ i → i < n → Int32.ofInt (c1 7 (2 + i)) = st i) → (B k → st (n - 1) = Int32.ofInt 0 ∨ st (n - 1) = Int32.ofInt 1) →
    LWend l V d s c r Q (B to) x1 x2 x3 x4 x6 (b + (to - fr)) (rkE C F to j k n st) → G l V mi_Law_worth (rm d) 0 0 Q 0 0 15 [.ref 3, x1, x2, x3, x4, .int (Int32.ofInt top), x6, .int (Int32.ofInt skip), .int (Int32.ofInt 0), .int (Int32.ofInt at'), x10, x11, x12, x13] [] (mkH s (jn c1 r)) := by
  have done : ∀ (j : Nat) (k n at' top skip : Int) (st : Int → Int32) (c1 : qI) (x10 x11 x12 x13 : Value), k = to → n = D k → at' = b + (k - fr) → top = 2 + n → (0 ≤ skip ∧ skip ≤ at') → (∀ a, a ≠ 7 → c1 a = c a) → (∀ i, 0 ≤ i → i < n → Int32.ofInt (c1 7 (2 + i)) = st i) → (B k → st (n - 1) = Int32.ofInt 0 ∨ st (n - 1) = Int32.ofInt 1) →
    LWend l V d s c r Q (B to) x1 x2 x3 x4 x6 (b + (to - fr)) (rkE C F to j k n st) → G l V mi_Law_worth (rm d) 0 0 Q 0 0 15 [.ref 3, x1, x2, x3, x4, .int (Int32.ofInt top), x6, .int (Int32.ofInt skip), .int (Int32.ofInt 0), .int (Int32.ofInt at'), x10, x11, x12, x13] [] (mkH s (jn c1 r)) := by
    intro j k n at' top skip st c1 x10 x11 x12 x13 hk hn hat htop hsk h1 h2 h3 hE
    have e : rkE C F to j k n st = st 0 := by
      cases j with
      | zero => rfl
      | succ j => rw [rkE, if_pos (by omega)]
    rw [hk] at hn hat h3
    have n1 : n = 1 := by omega
    refine hE c1 0 top skip at' x10 x11 x12 x13 h1 hat (by omega) hsk (Or.inl ⟨rfl, ?_, ?_⟩)
    · rw [e, show top - 1 = 2 + 0 by omega]
      exact h2 0 (by omega) (by omega)
    · rw [e]
      intro q
      have := h3 q
      rwa [show n - 1 = 0 by omega] at this
  intro j
  induction j with
  | zero =>
    intro k n at' top skip st c1 x10 x11 x12 x13 hj hk1 hk2 hn hat htop hsk h1 h2 h3 hE
    exact done 0 k n at' top skip st c1 x10 x11 x12 x13 (by omega) hn hat htop hsk h1 h2 h3 hE
  | succ j ih =>
    intro k n at' top skip st c1 x10 x11 x12 x13 hj hk1 hk2 hn hat htop hsk h1 h2 h3 hE
    by_cases hkt : k = to
    · exact done (j + 1) k n at' top skip st c1 x10 x11 x12 x13 hkt hn hat htop hsk h1 h2 h3 hE
    clear done
    obtain ⟨⟨w1, w2, w3, w4⟩, hop⟩ := hw k hk1 (by omega)
    obtain ⟨s4, s5, s6⟩ := hseg k hk1 (by omega)
    rw [← hat] at s4 s5 s6
    have f3 : c1 3 = c 3 := h1 3 (by decide)
    have f4 : c1 4 = c 4 := h1 4 (by decide)
    have f5 : c1 5 = c 5 := h1 5 (by decide)
    have f6 : c1 6 = c 6 := h1 6 (by decide)
    rw [← f4] at s4
    rw [← f5] at s5 s6
    have hz3 : (0 ≤ at' ∧ at' < c1 3 1) ∧ c1 3 1 ≤ 320 := by rw [f3]; omega
    have hv : 0 ≤ C k % 1048576 ∧ C k % 1048576 < 1048576 := by omega
    have htp : 2 ≤ top ∧ top ≤ 60 := by omega
    have hl : 2 ≤ n → Int32.ofInt (c1 7 (top - 2)) = st (n - 1 - 1) := fun q => by rw [show top - 2 = 2 + (n - 1 - 1) by omega]; exact h2 _ (by omega) (by omega)
    have hr : 1 ≤ n → Int32.ofInt (c1 7 (top - 1)) = st (n - 1) := fun q => by rw [show top - 1 = 2 + (n - 1) by omega]; exact h2 _ (by omega) (by omega)
    have hm : ∀ q z, ∀ a, a ≠ 7 → up c1 7 q z a = c a := fun q z a ha => by rw [up_f ha, h1 a ha]
    have pop : ∀ x10 x11 x12 x13, ¬ B (k + 1) → D (k + 1) = D k - 1 → LWend l V d s c r Q (B to) x1 x2 x3 x4 x6 (b + (to - fr)) (rkE C F to j (k + 1) (n - 1) st) → G l V mi_Law_worth (rm d) 0 0 Q 0 0 15 [.ref 3, x1, x2, x3, x4, .int (Int32.ofInt (top + -1)), x6, .int (Int32.ofInt skip), .int (Int32.ofInt 0), .int (Int32.ofInt (at' + 1)), x10, x11, x12, x13] [] (mkH s (jn c1 r)) := fun x10 x11 x12 x13 oB oD hE =>
      ih (k + 1) (n - 1) _ _ skip st _ _ _ _ _ (by omega) (by omega) (by omega) (by omega) (by omega) (by omega) (by omega) h1 (fun i i0 i1 => h2 i i0 (by omega)) (fun q => absurd q oB) hE
    rw [rkE, if_neg (by omega)] at hE
    rcases hop with ⟨o, oD, oB⟩ | ⟨o, ov, oD, oB⟩ | ⟨o, oD, oD2, oB⟩ | ⟨o, o1, oD, oB, oB2, ov1, ov2, oD2⟩ | ⟨o, o1, oD, oB⟩ | ⟨o, o1, oD⟩
    · rw [if_pos o] at hE
      have e5 : c1 5 at' = C k % 1048576 := s5 (Or.inl o)
      refine LS_num (a := Int32.ofInt 0) (b := Int32.ofInt 0) hd hS hz3 hsk htp (by rw [s4, o]; rfl) e5 hv (fun x10 x11 x12 x13 => ?_)
      exact ih (k + 1) (n + 1) _ _ skip (us st n (Int32.ofInt (C k % 1048576))) _ _ _ _ _ (by omega) (by omega) (by omega) (by omega) (by omega) (by omega) (by omega) (hm _ _) (stk_us (n' := n + 1) h2 htop rfl (by omega)) (fun q => absurd q oB) hE
    · rw [if_neg (by omega), if_pos o] at hE
      have e5 : c1 5 at' = C k % 1048576 := s5 (Or.inr o)
      have e6 := hF (C k % 1048576) (by omega) (by omega)
      rw [← f6] at e6
      refine LS_let (a := Int32.ofInt 0) (b := Int32.ofInt 0) hd hS hz3 hsk htp (by rw [s4, o]; rfl) e5 (by omega) (fun x10 x11 x12 x13 => ?_)
      exact ih (k + 1) (n + 1) _ _ skip (us st n (Int32.ofInt (F (C k % 1048576)))) _ _ _ _ _ (by omega) (by omega) (by omega) (by omega) (by omega) (by omega) (by omega) (hm _ _) (stk_us (n' := n + 1) h2 htop (by rw [e6, Int32.ofInt_toInt]) (by omega)) (fun q => absurd q oB) hE
    · rw [if_neg (by omega), if_neg (by omega), if_pos o] at hE
      have hr := hr (by omega)
      have hB := h3 oB
      rcases hB with hB | hB
      · refine LS_not0 (a := Int32.ofInt 0) hd hS hz3 hsk htp (by rw [s4, o]; rfl) hr hB (fun x10 x11 x12 x13 => ?_)
        exact ih (k + 1) n _ _ skip (us st (n - 1) (Int32.ofInt 1 - st (n - 1))) _ _ _ _ _ (by omega) (by omega) (by omega) (by omega) (by omega) (by omega) (by omega) (hm _ _) (stk_us (n' := n) h2 (by omega) (by rw [hB]; rfl) (by omega)) (fun q => by rw [us_eq, hB]; exact Or.inr rfl) hE
      · refine LS_not1 (a := Int32.ofInt 0) hd hS hz3 hsk htp (by rw [s4, o]; rfl) hr hB (fun x10 x11 x12 x13 => ?_)
        exact ih (k + 1) n _ _ skip (us st (n - 1) (Int32.ofInt 1 - st (n - 1))) _ _ _ _ _ (by omega) (by omega) (by omega) (by omega) (by omega) (by omega) (by omega) (hm _ _) (stk_us (n' := n) h2 (by omega) (by rw [hB]; rfl) (by omega)) (fun q => by rw [us_eq, hB]; exact Or.inl rfl) hE
    · have hr := hr (by omega)
      have hB := h3 oB2
      have e5 : c1 5 at' = b + (C k % 1048576 - fr) := s6 o
      have leap : ∀ (x10 x11 x12 x13 : Value), LWend l V d s c r Q (B to) x1 x2 x3 x4 x6 (b + (to - fr)) (rkE C F to j (C k % 1048576) n st) →
          G l V mi_Law_worth (rm d) 0 0 Q 0 0 15 [.ref 3, x1, x2, x3, x4, .int (Int32.ofInt top), x6, .int (Int32.ofInt (b + (C k % 1048576 - fr))), .int (Int32.ofInt 0), .int (Int32.ofInt (at' + 1)), x10, x11, x12, x13] [] (mkH s (jn c1 r)) := by
        intro x10 x11 x12 x13 hE
        refine LW_skip (c := c1) (skip := b + (C k % 1048576 - fr)) (rf := 0) (tgt := b + (C k % 1048576 - fr)) hd hS (by rw [f3]; exact hsz) (by rw [f3]; omega) (Or.inl rfl) (by omega) (by rw [f4]; exact hst) (fun x10 x11 => ?_) (b + (C k % 1048576 - fr) - (at' + 1)).toNat (at' + 1) x10 x11 (by omega) (by omega) (fun p _ hp => Or.inl hp)
        exact ih (C k % 1048576) n _ _ _ st c1 _ _ _ _ (by omega) (by omega) ov2 (by omega) rfl htop (by omega) h1 h2 (fun _ => hB) hE
      rcases o with o | o
      · rw [if_neg (by omega), if_neg (by omega), if_neg (by omega), if_pos o] at hE
        rcases hB with hB | hB
        · rw [if_pos (by rw [hB]; rfl)] at hE
          exact LS_and0 (a := Int32.ofInt 0) hd hS hz3 hsk htp (by rw [s4, o]; rfl) hr hB e5 (fun x10 x11 x12 x13 => leap _ _ _ _ hE)
        · rw [if_neg (by rw [hB]; decide)] at hE
          exact LS_and1 (a := Int32.ofInt 0) hd hS hz3 hsk htp (by rw [s4, o]; rfl) hr hB (fun x10 x11 x12 x13 => pop _ _ _ _ oB oD hE)
      · rw [if_neg (by omega), if_neg (by omega), if_neg (by omega), if_neg (by omega), if_pos o] at hE
        rcases hB with hB | hB
        · rw [if_neg (by rw [hB]; decide)] at hE
          exact LS_or0 (a := Int32.ofInt 0) hd hS hz3 hsk htp (by rw [s4, o]; rfl) hr hB (fun x10 x11 x12 x13 => pop _ _ _ _ oB oD hE)
        · rw [if_pos (by rw [hB]; rfl)] at hE
          exact LS_or1 (a := Int32.ofInt 0) hd hS hz3 hsk htp (by rw [s4, o]; rfl) hr hB e5 (fun x10 x11 x12 x13 => leap _ _ _ _ hE)
    · have hl := hl (by omega)
      have hr := hr (by omega)
      have fin : ∀ (z : Int) (x10 x11 x12 x13 : Value), Int32.ofInt z = reK (C k / 1048576) (st (n - 1 - 1)) (st (n - 1)) → ¬ ((C k / 1048576 = 5 ∨ C k / 1048576 = 6) ∧ (st (n - 1)).toInt = 0) →
          G l V mi_Law_worth (rm d) 0 0 Q 0 0 15 [.ref 3, x1, x2, x3, x4, .int (Int32.ofInt (top + -1)), x6, .int (Int32.ofInt skip), .int (Int32.ofInt 0), .int (Int32.ofInt (at' + 1)), x10, x11, x12, x13] [] (mkH s (jn (up c1 7 (top + -1 - 1) z) r)) := by
        intro z x10 x11 x12 x13 hz hno
        rw [if_neg (by omega), if_neg (by omega), if_neg (by omega), if_neg (by omega), if_neg (by omega), if_neg hno] at hE
        exact ih (k + 1) (n - 1) _ _ skip (us st (n - 1 - 1) (reK (C k / 1048576) (st (n - 1 - 1)) (st (n - 1)))) _ _ _ _ _ (by omega) (by omega) (by omega) (by omega) (by omega) (by omega) (by omega) (hm _ _) (stk_us (n' := n - 1) h2 (by omega) hz (by omega)) (fun q => absurd q oB) hE
      have o5 : C k / 1048576 = 2 ∨ C k / 1048576 = 3 ∨ C k / 1048576 = 4 ∨ C k / 1048576 = 5 ∨ C k / 1048576 = 6 := by omega
      have refuse : (C k / 1048576 = 5 ∨ C k / 1048576 = 6) → (st (n - 1)).toInt = 0 → ∀ (x10 x11 x12 x13 : Value), G l V mi_Law_worth (rm d) 0 0 Q 0 0 15 [.ref 3, x1, x2, x3, x4, .int (Int32.ofInt (top + -1)), x6, .int (Int32.ofInt skip), .int (Int32.ofInt 1), .int (Int32.ofInt (at' + 1)), x10, x11, x12, x13] [] (mkH s (jn c1 r)) := by
        intro o hz x10 x11 x12 x13
        rw [if_neg (by omega), if_neg (by omega), if_neg (by omega), if_neg (by omega), if_neg (by omega), if_pos ⟨o, hz⟩] at hE
        refine LW_skip (c := c1) (skip := skip) (rf := 1) (tgt := b + (to - fr)) hd hS (by rw [f3]; exact hsz) (by rw [f3]; omega) (Or.inr rfl) (by omega) (by rw [f4]; exact hst) (fun x10 x11 => ?_) (b + (to - fr) - (at' + 1)).toNat _ _ _ (by omega) (by omega) (fun p hp1 hp2 => Or.inr ⟨rfl, ?_⟩)
        · exact hE c1 1 _ skip _ _ _ _ _ h1 rfl (by omega) (by omega) (Or.inr ⟨rfl, rfl⟩)
        · have := (hseg (p - b + fr) (by omega) (by omega)).1
          rw [show b + (p - b + fr - fr) = p by omega] at this
          rw [f4, this]
          exact opm_ne
      rcases o5 with o | o | o | o | o
      · exact LS_add hd hS hz3 hsk htp (by rw [s4, o]; rfl) hl hr (fun x10 x11 x12 x13 => fin _ _ _ _ _ (by rw [Int32.ofInt_toInt, o]; rfl) (by omega))
      · exact LS_sub hd hS hz3 hsk htp (by rw [s4, o]; rfl) hl hr (fun x10 x11 x12 x13 => fin _ _ _ _ _ (by rw [Int32.ofInt_toInt, o]; rfl) (by omega))
      · exact LS_mul hd hS hz3 hsk htp (by rw [s4, o]; rfl) hl hr (fun x10 x11 x12 x13 => fin _ _ _ _ _ (by rw [Int32.ofInt_toInt, o]; rfl) (by omega))
      · by_cases hz : (st (n - 1)).toInt = 0
        · exact LS_div0 (a := Int32.ofInt 0) hd hS hz3 hsk htp (by rw [s4, o]; rfl) hr hz (fun x10 x11 x12 x13 => refuse (Or.inl o) hz _ _ _ _)
        · exact LS_div hd hS hz3 hsk htp (by rw [s4, o]; rfl) hl hr hz (fun x10 x11 x12 x13 => fin _ _ _ _ _ (by rw [Int32.ofInt_toInt, o]; rfl) (fun q => hz q.2))
      · by_cases hz : (st (n - 1)).toInt = 0
        · exact LS_mod0 (a := Int32.ofInt 0) hd hS hz3 hsk htp (by rw [s4, o]; rfl) hr hz (fun x10 x11 x12 x13 => refuse (Or.inr o) hz _ _ _ _)
        · exact LS_mod hd hS hz3 hsk htp (by rw [s4, o]; rfl) hl hr hz (fun x10 x11 x12 x13 => fin _ _ _ _ _ (by rw [Int32.ofInt_toInt, o]; rfl) (fun q => hz q.2))
    · have hl := hl (by omega)
      have hr := hr (by omega)
      have fin : ∀ (z : Int) (x10 x11 x12 x13 : Value), Int32.ofInt z = reK (C k / 1048576) (st (n - 1 - 1)) (st (n - 1)) → (z = 0 ∨ z = 1) →
          G l V mi_Law_worth (rm d) 0 0 Q 0 0 15 [.ref 3, x1, x2, x3, x4, .int (Int32.ofInt (top + -1)), x6, .int (Int32.ofInt skip), .int (Int32.ofInt 0), .int (Int32.ofInt (at' + 1)), x10, x11, x12, x13] [] (mkH s (jn (up c1 7 (top + -1 - 1) z) r)) := by
        intro z x10 x11 x12 x13 hz h01
        rw [if_neg (by omega), if_neg (by omega), if_neg (by omega), if_neg (by omega), if_neg (by omega), if_neg (by omega)] at hE
        refine ih (k + 1) (n - 1) _ _ skip (us st (n - 1 - 1) (reK (C k / 1048576) (st (n - 1 - 1)) (st (n - 1)))) _ _ _ _ _ (by omega) (by omega) (by omega) (by omega) (by omega) (by omega) (by omega) (hm _ _) (stk_us (n' := n - 1) h2 (by omega) hz (by omega)) (fun q => ?_) hE
        rw [us_eq, ← hz]
        rcases h01 with rfl | rfl
        · exact Or.inl rfl
        · exact Or.inr rfl
      have o5 : C k / 1048576 = 7 ∨ C k / 1048576 = 8 ∨ C k / 1048576 = 9 := by omega
      rcases o5 with o | o | o
      · by_cases hc : (st (n - 1 - 1)).toInt < (st (n - 1)).toInt
        · exact LS_lt1 hd hS hz3 hsk htp (by rw [s4, o]; rfl) hl hr hc (fun x10 x11 x12 x13 => fin _ _ _ _ _ (by rw [o]; simp [reK, hc]) (Or.inr rfl))
        · exact LS_lt0 hd hS hz3 hsk htp (by rw [s4, o]; rfl) hl hr hc (fun x10 x11 x12 x13 => fin _ _ _ _ _ (by rw [o]; simp [reK, hc]) (Or.inl rfl))
      · by_cases hc : (st (n - 1)).toInt < (st (n - 1 - 1)).toInt
        · exact LS_gt1 hd hS hz3 hsk htp (by rw [s4, o]; rfl) hl hr hc (fun x10 x11 x12 x13 => fin _ _ _ _ _ (by rw [o]; simp [reK, hc]) (Or.inr rfl))
        · exact LS_gt0 hd hS hz3 hsk htp (by rw [s4, o]; rfl) hl hr hc (fun x10 x11 x12 x13 => fin _ _ _ _ _ (by rw [o]; simp [reK, hc]) (Or.inl rfl))
      · by_cases hc : (st (n - 1 - 1)).toInt = (st (n - 1)).toInt
        · exact LS_eq1 hd hS hz3 hsk htp (by rw [s4, o]; rfl) hl hr hc (fun x10 x11 x12 x13 => fin _ _ _ _ _ (by rw [o]; simp [reK, hc]) (Or.inr rfl))
        · exact LS_eq0 hd hS hz3 hsk htp (by rw [s4, o]; rfl) hl hr hc (fun x10 x11 x12 x13 => fin _ _ _ _ _ (by rw [o]; simp [reK, hc]) (Or.inl rfl))
end CS
