/-! the class: a message is taken over; what is taken over in all -/
noncomputable def mtC (c : qI) (a b : Nat) : qI := fun x k => @ite _ (x = a ∧ cG k) (Classical.propDecidable _) (c b k) (if x = a + 1 ∧ 0 ≤ k ∧ k < 4 then c (b + 1) k else if x = a + 2 ∧ 0 ≤ k ∧ k < 4 then c (b + 2) k else if x = a + 3 ∧ 0 ≤ k ∧ k < 8 then c (b + 3) k else c x k)
def itC (f : Int → qI → qI) : Nat → Int → qI → qI
  | 0, _, X => X
  | j + 1, n, X => itC f j (n + 1) (f n X)
def pT (o : Nat) (k : Int) : Prop := (o = 8 ∧ 0 ≤ k ∧ k < 1000) ∨ (o = 9 ∧ 0 ≤ k ∧ k < 1000) ∨ (o = 10 ∧ 0 ≤ k ∧ k < 7) ∨ (o = 0 ∧ (k = 8 ∨ k = 9 ∨ k = 12 ∨ k = 13 ∨ k = 14 ∨ k = 15))
def pO (a : Int) (o : Nat) (k : Int) : Prop := o = 0 ∧ k = a
noncomputable def wt3 (s : qS) (c : qI) (w w' : Nat) (N : Nat) : qI := itC (fun i X => mtC X (bx s w i) (bx s w' i)) N 0 (bcC (itC (fun n X => bcC X (pN n) w w') 7 0 c) (pO 3) w w')
noncomputable def wt5 (s : qS) (c : qI) (w w' : Nat) (N M : Nat) : qI := itC (fun i X => bcC X (pR i) w w') M 0 (bcC (wt3 s c w w' N) (pO 6) w w')
noncomputable def wtC (s : qS) (c : qI) (w w' : Nat) (N M : Nat) : qI := bcC (wt5 s c w w' N M) pT w w'
section It
variable {f : Int → qI → qI} {x y : Nat} {m : Int}
theorem it_o : ∀ (j : Nat) (n : Int) (X : qI), (∀ m X, n ≤ m → m < n + j → f m X x = X x) → itC f j n X x = X x
  | 0, _, _, _ => rfl
  | j + 1, n, X, h => by
    rw [itC, it_o j (n + 1) _ (fun m X a b => h m X (by omega) (by omega)), h n X (by omega) (by omega)]
theorem it_at (h3 : ∀ X X' : qI, X x = X' x → X y = X' y → f m X x = f m X' x) : ∀ (j : Nat) (n : Int) (X : qI), (∀ m' X, n ≤ m' → m' < n + j → m' ≠ m → f m' X x = X x) → (∀ m' X, n ≤ m' → m' < n + j → f m' X y = X y) → n ≤ m → m < n + j → itC f j n X x = f m X x
  | 0, n, X, _, _, a, b => by omega
  | j + 1, n, X, h1, h2, a, b => by
    rw [itC]
    by_cases q : m = n
    · subst q
      exact it_o j (m + 1) _ (fun m' X a b => h1 m' X (by omega) (by omega) (by omega))
    · rw [it_at h3 j (n + 1) _ (fun m' X a b q => h1 m' X (by omega) (by omega) q) (fun m' X a b => h2 m' X (by omega) (by omega)) (by omega) (by omega)]
      exact h3 _ _ (h1 n X (by omega) (by omega) (Ne.symm q)) (h2 n X (by omega) (by omega))
end It
section Mt
variable {s : qS} {c : qI} {w w' p a b : Nat} {n k i : Int} {N M : Nat} {X X' : qI}
theorem mt_o {x : Nat} (h : ∀ i, i < 4 → x ≠ a + i) : mtC c a b x = c x := by
  have h0 := h 0 (by omega)
  have h1 := h 1 (by omega)
  have h2 := h 2 (by omega)
  have h3 := h 3 (by omega)
  funext k
  unfold mtC
  rw [if_neg (fun z => h0 (by rw [z.1]; rfl)), if_neg (fun z => h1 z.1), if_neg (fun z => h2 z.1), if_neg (fun z => h3 z.1)]
theorem mt_c {i : Nat} (hi : i < 4) (h1 : X (a + i) = X' (a + i)) (h2 : X (b + i) = X' (b + i)) : mtC X a b (a + i) = mtC X' a b (a + i) := by
  funext k
  have e : i = 0 ∨ i = 1 ∨ i = 2 ∨ i = 3 := by omega
  rcases e with rfl | rfl | rfl | rfl
  · rw [Nat.add_zero] at h1 h2 ⊢
    simp [mtC, h1, h2]
  · simp [mtC, h1, h2]
  · simp [mtC, h1, h2]
  · simp [mtC, h1, h2]
theorem mt_0 (h : cG k) : mtC c a b a k = c b k := by unfold mtC; rw [if_pos ⟨rfl, h⟩]
theorem mt_1 (h : 0 ≤ k ∧ k < 4) : mtC c a b (a + 1) k = c (b + 1) k := by unfold mtC; rw [if_neg (fun z => by omega), if_pos ⟨rfl, h⟩]
theorem mt_2 (h : 0 ≤ k ∧ k < 4) : mtC c a b (a + 2) k = c (b + 2) k := by unfold mtC; rw [if_neg (fun z => by omega), if_neg (by omega), if_pos ⟨rfl, h⟩]
theorem mt_3 (h : 0 ≤ k ∧ k < 8) : mtC c a b (a + 3) k = c (b + 3) k := by unfold mtC; rw [if_neg (fun z => by omega), if_neg (by omega), if_neg (by omega), if_pos ⟨rfl, h⟩]
/-- a message copied is the same message -/
theorem mt_Mg {F : qN} (hF : F 5 ≤ 4) (h : MgC c b F) : MgC (mtC c a b) a F := by
  have g : ∀ k, cG k → mtC c a b a k = c b k := fun k h => mt_0 h
  unfold MgC at h ⊢
  rw [g 0 (by unfold cG; omega), g 1 (by unfold cG; omega), g 2 (by unfold cG; omega), g 3 (by unfold cG; omega), g 11 (by unfold cG; omega), g 5 (by unfold cG; omega), g 6 (by unfold cG; omega), g 7 (by unfold cG; omega), g 8 (by unfold cG; omega), g 9 (by unfold cG; omega), mt_2 (k := 0) (by omega), mt_2 (k := 1) (by omega), mt_2 (k := 2) (by omega), mt_2 (k := 3) (by omega)]
  obtain ⟨m0, m1, m2, m3, m4, m5, m6⟩ := h
  refine ⟨m0, m1, m2, fun q => ?_, m4, fun q => ?_, m6⟩
  · obtain ⟨a1, a2, a3, a4, a5⟩ := m3 q
    exact ⟨a1, a2, a3, a4, fun k k0 k1 => by rw [mt_1 (by omega)]; exact a5 k k0 k1⟩
  · obtain ⟨a1, a2, a3, a4, a5, a6⟩ := m5 q
    exact ⟨a1, a2, a3, a4, a5, fun k k0 k1 => by rw [mt_3 (by omega)]; exact a6 k k0 k1⟩
end Mt
section CS
variable {l : Launch} {V : qV} {d : Nat} {s : qS} {w w' : Nat} {S : qN} {c g r : qI} {R n i v : Int} {Q : Option Value → qH → Prop}
set_option maxHeartbeats 2000000 in
set_option maxRecDepth 100000 in
theorem C_Msg_takeAll (hd : 5 ≤ d) (hw : 8 ≤ w ∧ w ≤ 1462) (hw' : 8 ≤ w' ∧ w' ≤ 1462) (hS : ShW s w) (hS' : ShW s w') (hww : w + 727 ≤ w' ∨ w' + 727 ≤ w) {a b : Nat} (ha : isMO w a) (hb : isMO w' b) (h7 : c b 7 = 0 ∨ c b 7 = 1) : T l V mi_Msg_takeAll (rm d) 0 0 [.ref a, .ref b] (mkH s (jn c r)) (fun v h' => v = none ∧ h' = mkH s (jn (mtC c a b) r)) := by
  refine T_ev qm_Msg_takeAll [.ref a, .ref b] rfl rfl (Nat.le_of_ble_eq_true rfl) ok_Msg_takeAll (smL_ok (d := d - 1) (by omega)) (fun _ => false) 200 (by omega) (fun K kK => ?_)
  have ne : ∀ i j, i < 4 → j < 4 → b + j ≠ a + i := fun i j hi hj => by
    have h1 := MO_in ha hi
    have h2 := MO_in hb hj
    omega
  have la : ∀ i, i < 4 → a + i < 2198 := fun i hi => by have := MO_in ha hi; omega
  have lb : ∀ i, i < 4 → b + i < 2198 := fun i hi => by have := MO_in hb hi; omega
  have sa : ∀ (c : qI) k v, setM (mkH s (jn c r)) a k (Int32.ofInt v) = mkH s (jn (up c a k v) r) := fun c k v => set_c (la 0 (by omega))
  have rb : ∀ (c : qI) k, hM (mkH s (jn c r)) b k = Int32.ofInt (c b k) := fun c k => hM_c (lb 0 (by omega))
  have ca : ∀ (c : qI), cpyM (mkH s (jn c r)) (b + 1) 0 (a + 1) 0 4 = mkH s (jn (cp c (b + 1) 0 (a + 1) 0 4) r) := fun c => cpy_c (lb 1 (by omega)) (la 1 (by omega))
  have ub : ∀ (X : qI) k v j, up X a k v b j = X b j := fun X k v j => up_ne (Or.inl (ne 0 0 (by omega) (by omega)))
  have hu2 : Int32.ofInt (c b 7) = 0 ∨ Int32.ofInt (c b 7) = 1 := by
    rcases h7 with q | q
    · rw [q]; exact Or.inl rfl
    · rw [q]; exact Or.inr rfl
  simp (disch := omega) only [ev_s, evN_ap, List.getElem?_cons_zero, List.getElem?_cons_succ, List.set_cons_zero, List.set_cons_succ, Bool.false_eq_true, ↓reduceIte, qrest_n, qrest_1, qrest_2, qrest_3, qrest_4, qrest_5, qrest_6, qtr_i, qtr_r, true_and, and_true, List.length_cons, List.length_nil, Int.cast_ofNat_Int, Int32.toInt_zero, false_implies, true_implies, not_false_eq_true, not_true_eq_false, Option.toList_some, Option.toList_none, List.cons_append, List.nil_append, Nat.reduceBEq, Nat.reduceEqDiff, Bool.or_self, or_self, Nat.reduceAdd, Nat.reduceLT, Nat.zero_add, Int.reduceAdd, Int.reduceLE, Int.reduceLT, Int.reduceEq, and_self, Int.reduceNeg, qrok_i, qrok_b0, qrok_b1, qrok_bI, Option.some.injEq, Value.int.injEq, J_bI0, J_bI1, Classical.not_not, Int.zero_add, Int.add_zero, Int.sub_zero, false_and, and_false, and_true, true_and, e_0, v_0, e_2, v_2, e_19, v_19, e_20, v_20, e_21, v_21, e_22, v_22, e_33, v_33, e_41, e_44, qspl_z, qspl_s, evC_s, evD_none, evD_v, evD_s, (smL_no (k := 77) rfl), r_Msg_takeAll_0, r_Msg_takeAll_1, r_Msg_takeAll_2, r_Msg_takeAll_5, r_Msg_takeAll_8, r_Msg_takeAll_9, r_Msg_takeAll_10, r_Msg_takeAll_13, r_Msg_takeAll_16, r_Msg_takeAll_17, r_Msg_takeAll_18, r_Msg_takeAll_21, r_Msg_takeAll_24, r_Msg_takeAll_25, r_Msg_takeAll_26, r_Msg_takeAll_29, r_Msg_takeAll_32, r_Msg_takeAll_33, r_Msg_takeAll_34, r_Msg_takeAll_37, r_Msg_takeAll_40, r_Msg_takeAll_41, r_Msg_takeAll_42, r_Msg_takeAll_45, r_Msg_takeAll_48, r_Msg_takeAll_49, r_Msg_takeAll_50, r_Msg_takeAll_53, r_Msg_takeAll_56, r_Msg_takeAll_57, r_Msg_takeAll_58, r_Msg_takeAll_61, r_Msg_takeAll_64, r_Msg_takeAll_65, r_Msg_takeAll_66, r_Msg_takeAll_69, r_Msg_takeAll_72, r_Msg_takeAll_73, r_Msg_takeAll_74, r_Msg_takeAll_77, r_Msg_takeAll_80, r_Msg_takeAll_81, r_Msg_takeAll_82, r_Msg_takeAll_85, r_Msg_takeAll_88, r_Msg_takeAll_89, r_Msg_takeAll_92, r_Msg_takeAll_93, r_Msg_takeAll_94, r_Msg_takeAll_97, r_Msg_takeAll_98, r_Msg_takeAll_99, r_Msg_takeAll_102, r_Msg_takeAll_103, r_Msg_takeAll_106, r_Msg_takeAll_107, r_Msg_takeAll_110, r_Msg_takeAll_113, sg_k hS ha, sg_10 hS ha, sg_k1 hS ha, sg_12 hS ha, sg_k hS' hb, sg_10 hS' hb, sg_k1 hS' hb, sg_12 hS' hb, sa, rb, ub, ca, I_val]
  refine ⟨hu2, ?_⟩
  repeat refine And.intro (by omega) ?_
  refine kK _ _ _ _ (GCD ok_Msg_takeAll r_Msg_takeAll_110 ⟨by decide, by decide⟩ qm_Snap_takeAll (C_snapR (d := d - 1) (by omega) (fun _ => sg_k2 hS ha) (fun _ => sg_24 hS ha) (fun _ => sg_k3 hS ha) (fun _ => sg_k2 hS' hb) (fun _ => sg_24 hS' hb) (fun _ => sg_k3 hS' hb) ⟨la 2 (by omega), la 3 (by omega), lb 2 (by omega), lb 3 (by omega)⟩ (Ne.symm (ne 2 2 (by omega) (by omega)))) rfl rfl (fun _ => by first | exact rcN hS (by omega) | exact rcW hS | exact rcG hS (by assumption) | exact rcL hS | exact rcN2 hS (by omega) | exact rcG2 hS (by assumption)) rfl (Nat.le_of_ble_eq_true rfl) (by omega) ?_)
  unfold stC
  refine G_ev ok_Msg_takeAll (smL_ok (d := d - 1) (by omega)) (fun _ => false) 200 (by omega) (fun K kK => ?_)
  simp (disch := omega) only [ev_s, evN_ap, List.getElem?_cons_zero, List.getElem?_cons_succ, List.set_cons_zero, List.set_cons_succ, Bool.false_eq_true, ↓reduceIte, qrest_n, qrest_1, qrest_2, qrest_3, qrest_4, qrest_5, qrest_6, qtr_i, qtr_r, true_and, and_true, List.length_cons, List.length_nil, Int.cast_ofNat_Int, Int32.toInt_zero, false_implies, true_implies, not_false_eq_true, not_true_eq_false, Option.toList_some, Option.toList_none, List.cons_append, List.nil_append, Nat.reduceBEq, Nat.reduceEqDiff, Bool.or_self, or_self, Nat.reduceAdd, Nat.reduceLT, Nat.zero_add, Int.reduceAdd, Int.reduceLE, Int.reduceLT, Int.reduceEq, and_self, Int.reduceNeg, qrok_i, qrok_b0, qrok_b1, qrok_bI, Option.some.injEq, Value.int.injEq, J_bI0, J_bI1, Classical.not_not, Int.zero_add, Int.add_zero, Int.sub_zero, false_and, and_false, and_true, true_and, e_0, v_0, e_2, v_2, e_19, v_19, e_20, v_20, e_21, v_21, e_22, v_22, e_33, v_33, e_41, e_44, qspl_z, qspl_s, evC_s, evD_none, evD_v, evD_s, (smL_no (k := 77) rfl), r_Msg_takeAll_0, r_Msg_takeAll_1, r_Msg_takeAll_2, r_Msg_takeAll_5, r_Msg_takeAll_8, r_Msg_takeAll_9, r_Msg_takeAll_10, r_Msg_takeAll_13, r_Msg_takeAll_16, r_Msg_takeAll_17, r_Msg_takeAll_18, r_Msg_takeAll_21, r_Msg_takeAll_24, r_Msg_takeAll_25, r_Msg_takeAll_26, r_Msg_takeAll_29, r_Msg_takeAll_32, r_Msg_takeAll_33, r_Msg_takeAll_34, r_Msg_takeAll_37, r_Msg_takeAll_40, r_Msg_takeAll_41, r_Msg_takeAll_42, r_Msg_takeAll_45, r_Msg_takeAll_48, r_Msg_takeAll_49, r_Msg_takeAll_50, r_Msg_takeAll_53, r_Msg_takeAll_56, r_Msg_takeAll_57, r_Msg_takeAll_58, r_Msg_takeAll_61, r_Msg_takeAll_64, r_Msg_takeAll_65, r_Msg_takeAll_66, r_Msg_takeAll_69, r_Msg_takeAll_72, r_Msg_takeAll_73, r_Msg_takeAll_74, r_Msg_takeAll_77, r_Msg_takeAll_80, r_Msg_takeAll_81, r_Msg_takeAll_82, r_Msg_takeAll_85, r_Msg_takeAll_88, r_Msg_takeAll_89, r_Msg_takeAll_92, r_Msg_takeAll_93, r_Msg_takeAll_94, r_Msg_takeAll_97, r_Msg_takeAll_98, r_Msg_takeAll_99, r_Msg_takeAll_102, r_Msg_takeAll_103, r_Msg_takeAll_106, r_Msg_takeAll_107, r_Msg_takeAll_110, r_Msg_takeAll_113, I_val]
  refine congrArg (fun c => mkH s (jn c r)) ?_
  funext x k
  have n1 : ∀ i j, i < 4 → j < 4 → ¬ b + j = a + i := ne
  have n00 : ¬ b = a := n1 0 0 (by omega) (by omega)
  have n01 : ¬ b = a + 1 := n1 1 0 (by omega) (by omega)
  have n02 : ¬ b = a + 2 := n1 2 0 (by omega) (by omega)
  have n03 : ¬ b = a + 3 := n1 3 0 (by omega) (by omega)
  have n10 : ¬ b + 1 = a := n1 0 1 (by omega) (by omega)
  have n20 : ¬ b + 2 = a := n1 0 2 (by omega) (by omega)
  have n21 : ¬ b + 2 = a + 1 := n1 1 2 (by omega) (by omega)
  have n22 : ¬ b + 2 = a + 2 := n1 2 2 (by omega) (by omega)
  have n30 : ¬ b + 3 = a := n1 0 3 (by omega) (by omega)
  have n31 : ¬ b + 3 = a + 1 := n1 1 3 (by omega) (by omega)
  have n32 : ¬ b + 3 = a + 2 := n1 2 3 (by omega) (by omega)
  by_cases hx : ∀ i, i < 4 → x ≠ a + i
  · rw [mt_o hx]
    have x0 := hx 0 (by omega)
    have x1 := hx 1 (by omega)
    have x2 := hx 2 (by omega)
    have x3 := hx 3 (by omega)
    rw [Nat.add_zero] at x0
    simp [up, cp, x0, x1, x2, x3]
  · have e : x = a ∨ x = a + 1 ∨ x = a + 2 ∨ x = a + 3 := by
      refine Classical.byContradiction fun z => hx (fun i hi => by omega)
    rcases e with rfl | rfl | rfl | rfl
    · by_cases q : cG k
      · rw [mt_0 q]
        unfold cG at q
        rcases q with rfl | rfl | rfl | rfl | rfl | rfl | rfl | rfl | rfl | rfl | rfl <;> simp [up, cp, n00, n01, n02, n03, n10, n20, n21, n22, n30, n31, n32]
      · have e : mtC c x b x k = c x k := by
          unfold mtC
          rw [if_neg (fun z => q z.2), if_neg (by omega), if_neg (by omega), if_neg (by omega)]
        rw [e]
        unfold cG at q
        simp [up, cp]
        grind
    · by_cases q : 0 ≤ k ∧ k < 4
      · rw [mt_1 q]
        simp [up, cp, q, n10]
      · have e : mtC c a b (a + 1) k = c (a + 1) k := by
          unfold mtC
          rw [if_neg (fun z => by omega), if_neg (fun z => q z.2), if_neg (by omega), if_neg (by omega)]
        rw [e]
        simp [up, cp, q]
    · by_cases q : 0 ≤ k ∧ k < 4
      · rw [mt_2 q]
        have q2 : k = 0 ∨ k = 1 ∨ k = 2 ∨ k = 3 := by omega
        rcases q2 with rfl | rfl | rfl | rfl <;> simp [up, cp, n20, n21, n22]
      · have e : mtC c a b (a + 2) k = c (a + 2) k := by
          unfold mtC
          rw [if_neg (fun z => by omega), if_neg (by omega), if_neg (fun z => q z.2), if_neg (by omega)]
        rw [e]
        have q2 : ¬ k = 0 ∧ ¬ k = 1 ∧ ¬ k = 2 ∧ ¬ k = 3 := by omega
        simp [up, cp, q2]
    · by_cases q : 0 ≤ k ∧ k < 8
      · rw [mt_3 q]
        simp [up, cp, q, n30, n31, n32]
      · have e : mtC c a b (a + 3) k = c (a + 3) k := by
          unfold mtC
          rw [if_neg (fun z => by omega), if_neg (by omega), if_neg (by omega), if_neg (fun z => q z.2)]
        rw [e]
        simp [up, cp, q]
end CS
