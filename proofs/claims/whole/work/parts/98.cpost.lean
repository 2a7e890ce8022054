/-! the class's world: draws, timers; messages and what is changed by them -/
def MgC (c : qI) (o : Nat) (M : qN) : Prop := (c o 0 = M 0 ∧ c o 1 = M 1 ∧ c o 2 = M 2 ∧ c o 3 = M 3 ∧ c o 11 = M 5) ∧ (M 2 = 0 → c o 5 = M 6 ∧ c o 6 = M 7) ∧ (M 2 = 1 → c o 7 = M 6) ∧ (M 2 = 2 → c o 5 = M 6 ∧ c o 6 = M 7 ∧ c o 8 = M 8 ∧ c o 9 = M 10 ∧ ∀ k, 0 ≤ k → k < M 5 → c (o + 1) k = pk M (11 + 4 * k)) ∧
  (M 2 = 3 → c o 7 = M 6 ∧ c o 5 = M 7 ∧ c o 9 = M 10) ∧ (M 2 = 4 → c (o + 2) 0 = M 6 ∧ c (o + 2) 1 = M 7 ∧ c (o + 2) 2 = M 8 ∧ c (o + 2) 3 = M 9 ∧ c o 9 = M 10 ∧ ∀ k, 0 ≤ k → k < 8 → c (o + 3) k = M (11 + k)) ∧ (M 2 = 5 → c o 5 = M 6 ∧ c o 9 = M 10)
def BG (w : Nat) (g : qI) : Prop := ∀ o, isMO w o → g o 7 = 0 ∨ g o 7 = 1
def MsC (s : qS) (w : Nat) (g : qI) (S : qN) : Prop := (∀ m, 0 ≤ m → m < S 11133 → MgC g (bx s w m) (ml S m) ∧ g (bx s w m) 4 = ml S m 4) ∧ BG w g
/-- what stays: all outside of the world, but the law's own cells; the message in hand -/
def FrM (s : qS) (w : Nat) (g g' : qI) : Prop := ∀ a, (a < w ∨ w + 727 ≤ a ∨ (inh s w ≤ a ∧ a < inh s w + 4)) → a ≠ 6 → a ≠ 7 → g' a = g a
theorem FrM_rf {s : qS} {w : Nat} {g : qI} : FrM s w g g := fun _ _ _ _ => rfl
theorem FrM_tr {s : qS} {w : Nat} {g g' g'' : qI} (h : FrM s w g g') (h' : FrM s w g' g'') : FrM s w g g'' := fun a q h6 h7 => (h' a q h6 h7).trans (h a q h6 h7)
theorem MO_off {w o : Nat} (ho : isMO w o) {i : Nat} (hi : i < 4) : offW w (o + i) := by
  unfold offW
  rcases ho with h | ⟨j, h1, h2⟩ <;> omega
theorem MO_lt {w o : Nat} (hw : 8 ≤ w ∧ w ≤ 1462) (ho : isMO w o) {i : Nat} (hi : i < 4) : o + i < 2198 ∧ 8 ≤ o := by
  rcases ho with h | ⟨j, h1, h2⟩ <;> omega
theorem MO_ne {w o o' : Nat} (ho : isMO w o) (ho' : isMO w o') (h : o ≠ o') {i j : Nat} (hi : i < 4) (hj : j < 4) : o + i ≠ o' + j := by
  rcases ho with h1 | ⟨k, h1, h2⟩ <;> rcases ho' with h3 | ⟨k', h3, h4⟩ <;> omega
theorem MO_in {w o : Nat} (ho : isMO w o) {i : Nat} (hi : i < 4) : w < o + i ∧ o + i < w + 727 := by
  rcases ho with h | ⟨j, h1, h2⟩ <;> omega
theorem FrN_M {s : qS} {w : Nat} {g g' : qI} (hS : ShW s w) (h : FrN w g g') : FrM s w g g' := fun a q _ _ => h a (by
  rcases q with q | q | q
  · unfold offW; omega
  · unfold offW; omega
  · have := MO_off hS.2.1.2.1 (i := a - inh s w) (by omega)
    rwa [show inh s w + (a - inh s w) = a by omega] at this)
theorem MgC_g {c c' : qI} {o : Nat} {M : qN} (h : ∀ i, i < 4 → c' (o + i) = c (o + i)) (hM : MgC c o M) : MgC c' o M := by
  have h0 := h 0 (by omega)
  rw [Nat.add_zero] at h0
  unfold MgC at *
  rw [h0, h 1 (by omega), h 2 (by omega), h 3 (by omega)]
  exact hM
theorem MgC_M {c : qI} {o : Nat} {M M' : qN} (h5 : M 5 ≤ 4) (h : ∀ k, 0 ≤ k → k < 27 → k ≠ 4 → M' k = M k) (hM : MgC c o M) : MgC c o M' := by
  unfold MgC at *
  rw [h 0 (by omega) (by omega) (by omega), h 1 (by omega) (by omega) (by omega), h 2 (by omega) (by omega) (by omega), h 3 (by omega) (by omega) (by omega), h 5 (by omega) (by omega) (by omega), h 6 (by omega) (by omega) (by omega), h 7 (by omega) (by omega) (by omega), h 8 (by omega) (by omega) (by omega), h 9 (by omega) (by omega) (by omega), h 10 (by omega) (by omega) (by omega)]
  obtain ⟨m1, m2, m3, m4, m5, m6, m7⟩ := hM
  refine ⟨m1, m2, m3, fun q => ?_, m5, fun q => ?_, m7⟩
  · obtain ⟨a1, a2, a3, a4, a5⟩ := m4 q
    refine ⟨a1, a2, a3, a4, fun k k0 k1 => ?_⟩
    rw [a5 k k0 k1]
    unfold pk
    rw [h _ (by omega) (by omega) (by omega), h _ (by omega) (by omega) (by omega), h _ (by omega) (by omega) (by omega), h _ (by omega) (by omega) (by omega)]
  · obtain ⟨a1, a2, a3, a4, a5, a6⟩ := m6 q
    exact ⟨a1, a2, a3, a4, a5, fun k k0 k1 => by rw [a6 k k0 k1, h _ (by omega) (by omega) (by omega)]⟩
/-- messages stay where neither they nor their objects are changed -/
theorem MsC_st {s : qS} {w : Nat} {g g' : qI} {S S' : qN} (hS : ShW s w) (hg : ∀ a, offW w a → 8 ≤ a → g' a = g a) (h3 : S' 11133 = S 11133) (h160 : S 11133 ≤ 160) (hs : ∀ j, 1708 ≤ j → j < 6028 → S' j = S j) (h : MsC s w g S) (h5 : ∀ m, 0 ≤ m → m < S 11133 → ml S m 5 ≤ 4) (hw : 8 ≤ w) : MsC s w g' S' := by
  refine ⟨fun m m0 m1 => ?_, fun o ho => ?_⟩
  rotate_left
  · have a := MO_off ho (i := 0) (by omega)
    have b := MO_in ho (i := 0) (by omega)
    rw [Nat.add_zero] at a b
    rw [hg o a (by omega)]
    exact h.2 o ho
  rw [h3] at m1
  obtain ⟨a1, a2⟩ := h.1 m m0 m1
  have hb := (hS.2.1.1 m m0 (by omega)).1
  have e : ∀ k, 0 ≤ k → k < 27 → ml S' m k = ml S m k := fun k k0 k1 => hs _ (by omega) (by omega)
  refine ⟨MgC_M (h5 m m0 m1) (fun k k0 k1 _ => e k k0 k1) (MgC_g (fun i hi => hg _ (MO_off hb hi) ?_) a1), ?_⟩
  · have := MO_in hb hi; omega
  · have := MO_off hb (i := 0) (by omega)
    rw [Nat.add_zero] at this
    rw [hg _ this (by have := MO_in hb (i := 0) (by omega); omega), a2, e 4 (by omega) (by omega)]
theorem OK_m5 {R : Int} {S : qN} (ho : OK R S) : ∀ m, 0 ≤ m → m < S 11133 → ml S m 5 ≤ 4 := fun m m0 m1 => (OK_m ho m0 m1).1.2.2.2.2.2.2.1.2
theorem OK_160 {R : Int} {S : qN} (ho : OK R S) : 0 ≤ S 11133 ∧ S 11133 ≤ 160 := (OK_g ho).2.2.1
/-- given facts -/
def gvC (c : qI) (f : qN) : qI := fun a k => if a = 6 ∧ 0 ≤ k ∧ k < 7 then f k else c a k
theorem gv_up {c : qI} {f : qN} : up (up (up (up (up (up (up c 6 0 (f 0)) 6 1 (f 1)) 6 2 (f 2)) 6 3 (f 3)) 6 4 (f 4)) 6 5 (f 5)) 6 6 (f 6) = gvC c f := by
  funext a k
  unfold up gvC
  by_cases h : a = 6 ∧ 0 ≤ k ∧ k < 7
  · obtain ⟨rfl, h1, h2⟩ := h
    have : k = 0 ∨ k = 1 ∨ k = 2 ∨ k = 3 ∨ k = 4 ∨ k = 5 ∨ k = 6 := by omega
    rcases this with rfl | rfl | rfl | rfl | rfl | rfl | rfl <;> simp
  · rw [if_neg h]
    repeat rw [if_neg (by omega)]
theorem gv_mk {w : Nat} {S : qN} {g : qI} {f : qN} (hw : 8 ≤ w) : gvC (mkC w S g) f = mkC w S (gvC g f) := by
  have e := fun (c : qI) => (gv_up (c := c) (f := f)).symm
  have o : ∀ g k v, up (mkC w S g) 6 k v = mkC w S (up g 6 k v) := fun g k v => up_off (by unfold offW; omega)
  rw [e, e, o, o, o, o, o, o, o]
/-- what was changed at 7 alone -/
theorem off7 {w : Nat} {S : qN} {g c' : qI} (hw : 8 ≤ w) (h : ∀ a, a ≠ 7 → c' a = mkC w S g a) : ∃ g', c' = mkC w S g' ∧ ∀ a, a ≠ 7 → g' a = g a := by
  have h7 : offW w 7 := by unfold offW; omega
  refine ⟨fun a => if a = 7 then c' 7 else g a, ?_, fun a ha => if_neg ha⟩
  funext a k
  by_cases ha : a = 7
  · subst ha
    rw [mkC_o h7]; simp
  · rw [h a ha]
    refine mk_cases (w := w) (P := fun a => a ≠ 7 → mkC w S g a k = mkC w S (fun a => if a = 7 then c' 7 else g a) a k) ?_ ?_ ?_ ?_ ?_ ?_ ?_ a ha
    · intro m q h1 h2 h3 hq
      rw [mkC_N ⟨h1, h2⟩ h3, mkC_N ⟨h1, h2⟩ h3, if_neg hq]
    · intro i h1 h2 hq
      rw [mkC_R ⟨h1, h2⟩, mkC_R ⟨h1, h2⟩, if_neg hq]
    · intro hq; rw [mkC_w, mkC_w, if_neg hq]
    · intro hq; rw [mkC_8, mkC_8, if_neg hq]
    · intro hq; rw [mkC_9, mkC_9, if_neg hq]
    · intro hq; rw [mkC_10, mkC_10, if_neg hq]
    · intro a ho hq; rw [mkC_o ho, mkC_o ho, if_neg hq]
section CS
variable {l : Launch} {V : qV} {d : Nat} {s : qS} {w : Nat} {S : qN} {c g r : qI} {R n : Int} {Q : Option Value → qH → Prop}
theorem C_give (hd : 3 ≤ d) (hS : ShW s w) {f0 f1 f2 t q k f6 : Int} (ht : 0 ≤ t ∧ t ≤ 100000) (hk : 0 ≤ k ∧ k ≤ 100000) : T l V mi_Law_give (rm d) 0 0 [.ref 3, .int (Int32.ofInt f0), .int (Int32.ofInt f1), .int (Int32.ofInt f2), .int (Int32.ofInt t), .int (Int32.ofInt q), .int (Int32.ofInt k), .int (Int32.ofInt f6)] (mkH s (jn c r)) (fun v h' => v = none ∧ h' = mkH s (jn (gvC c (fun i => if i = 0 then f0 else if i = 1 then f1 else if i = 2 then f2 else if i = 3 then t % 100 else if i = 4 then q else if i = 5 then k % 100 else f6)) r)) := by
  refine T_ev qm_Law_give [.ref 3, .int (Int32.ofInt f0), .int (Int32.ofInt f1), .int (Int32.ofInt f2), .int (Int32.ofInt t), .int (Int32.ofInt q), .int (Int32.ofInt k), .int (Int32.ofInt f6)] rfl rfl (Nat.le_of_ble_eq_true rfl) ok_Law_give (smL_ok (d := d - 1) (by omega)) (fun _ => false) 200 (by omega) (fun K kK => ?_)
  have sc : ∀ (c : qI) (k v : Int), setM (mkH s (jn c r)) 6 k (Int32.ofInt v) = mkH s (jn (up c 6 k v) r) := fun c k v => set_c (by omega)
  simp (disch := omega) only [ev_s, evN_ap, List.getElem?_cons_zero, List.getElem?_cons_succ, List.set_cons_zero, List.set_cons_succ, Bool.false_eq_true, ↓reduceIte, qrest_n, qrest_1, qrest_2, qrest_3, qrest_4, qrest_5, qrest_6, qtr_i, qtr_r, true_and, and_true, List.length_cons, List.length_nil, Int.cast_ofNat_Int, Int32.toInt_zero, false_implies, true_implies, not_false_eq_true, not_true_eq_false, Option.toList_some, Option.toList_none, List.cons_append, List.nil_append, Nat.reduceBEq, Nat.reduceEqDiff, Bool.or_self, or_self, Nat.reduceAdd, Nat.reduceLT, Nat.zero_add, Int.reduceAdd, Int.reduceLE, Int.reduceLT, Int.reduceEq, and_self, Int.reduceNeg, qrok_i, qrok_b0, qrok_b1, qrok_bI, Option.some.injEq, Value.int.injEq, J_bI0, J_bI1, Classical.not_not, Int.zero_add, Int.add_zero, Int.sub_zero, false_and, and_false, and_true, true_and, e_0, v_0, e_1, v_1, e_2, v_2, e_8, v_8, e_20, v_20, e_25, v_25, e_41, r_Law_give_0, r_Law_give_1, r_Law_give_4, r_Law_give_5, r_Law_give_6, r_Law_give_7, r_Law_give_8, r_Law_give_11, r_Law_give_12, r_Law_give_13, r_Law_give_14, r_Law_give_15, r_Law_give_18, r_Law_give_19, r_Law_give_20, r_Law_give_21, r_Law_give_22, r_Law_give_25, r_Law_give_26, r_Law_give_28, r_Law_give_30, r_Law_give_31, r_Law_give_32, r_Law_give_33, r_Law_give_36, r_Law_give_37, r_Law_give_39, r_Law_give_40, r_Law_give_41, r_Law_give_44, r_Law_give_45, r_Law_give_47, r_Law_give_49, r_Law_give_50, r_Law_give_51, r_Law_give_52, r_Law_give_55, r_Law_give_57, r_Law_give_59, r_Law_give_60, sl_k hS, sl_4 hS, sl_k6 hS, I_val, inB, sc, I_rem]
  repeat' (first | with_reducible apply And.intro | intro _)
  all_goals try (clear kK; omega)
  all_goals first | omega | skip
  rw [← gv_up]; rfl
set_option maxHeartbeats 2000000 in
set_option maxRecDepth 100000 in
theorem C_World_draw (hd : 3 ≤ d) (hw : 8 ≤ w ∧ w ≤ 1462) (hS : ShW s w) (ho : OK R S) : T l V mi_World_draw (rm d) 0 0 [.ref w] (mkH s (jn (mkC w S g) r)) (fun v h' => v = some (.int (Int32.ofInt (rndS S % 10))) ∧ h' = mkH s (jn (mkC w (rnS S) g) r)) := by
  refine T_ev qm_World_draw [.ref w] rfl rfl (Nat.le_of_ble_eq_true rfl) ok_World_draw (smL_ok (d := d - 1) (by omega)) (fun _ => false) 200 (by omega) (fun K kK => ?_)
  obtain ⟨x1, x2, x3⟩ := OK_xOk ho
  have e := and_I (e := 25173 * S 11132 + 13849) (m := 65535) 16 (by omega) (by decide)
  rw [show ((2 ^ 16 : Nat) : Int) = 65536 by decide] at e
  simp (disch := omega) only [ev_s, evN_ap, List.getElem?_cons_zero, List.getElem?_cons_succ, List.set_cons_zero, List.set_cons_succ, Bool.false_eq_true, ↓reduceIte, qrest_n, qrest_1, qrest_2, qrest_3, qrest_4, qrest_5, qrest_6, qtr_i, qtr_r, true_and, and_true, List.length_cons, List.length_nil, Int.cast_ofNat_Int, Int32.toInt_zero, false_implies, true_implies, not_false_eq_true, not_true_eq_false, Option.toList_some, Option.toList_none, List.cons_append, List.nil_append, Nat.reduceBEq, Nat.reduceEqDiff, Bool.or_self, or_self, Nat.reduceAdd, Nat.reduceLT, Nat.zero_add, Int.reduceAdd, Int.reduceLE, Int.reduceLT, Int.reduceEq, and_self, Int.reduceNeg, qrok_i, qrok_b0, qrok_b1, qrok_bI, Option.some.injEq, Value.int.injEq, J_bI0, J_bI1, Classical.not_not, Int.zero_add, Int.add_zero, Int.sub_zero, false_and, and_false, and_true, true_and, e_0, v_0, e_2, v_2, e_6, v_6, e_8, v_8, e_19, v_19, e_21, v_21, e_40, b_0, b_2, b_3, r_World_draw_0, r_World_draw_1, r_World_draw_4, r_World_draw_5, r_World_draw_8, r_World_draw_9, r_World_draw_12, r_World_draw_13, r_World_draw_15, r_World_draw_16, r_World_draw_19, r_World_draw_20, r_World_draw_23, r_World_draw_25, r_World_draw_26, sv_k hS, sv_0 hS, sv_1 hS, sv_k1 hS, sv_n hS, sv_2 hS, sv_k2 hS, sv_b, sv_4, sv_5 hS, sv_k7 hS, sv_r hS, sv_kr hS, sv_7 hS, sv_k8 hS, sv_10 hS, sv_k9 hS, sv_11 hS, sv_k10 hS, sn_k hS, sn_4 hS, sn_k1 hS, sn_6 hS, sn_k2 hS, sn_24 hS, sn_k3 hS, sn_9 hS, sn_k4 hS, sn_13 hS, sn_k5 hS, sn_14 hS, sn_k6 hS, sn_15 hS, sn_k7 hS, sl_k hS, sl_2 hS, sl_k4 hS, sl_3 hS, sl_k5 hS, sl_4 hS, sl_k6 hS, sl_5 hS, sl_k7 hS, rn_0, rn_1, rn_2, rn_3, rn_5, rn_7, rn_8, rn_10, rn_11, rn_12, rn_16, rn_17, rn_log, rn_20, rn_21, rn_22, rn_23, rn_sk, rn_key, rn_next, rn_match, rn_heard, rw_3, rw_6, rw_8, rw_9, rw_12, rw_13, rw_14, rw_15, rw_he, rw_ld, rw_cu, rr_0, rr_1, rr_2, rr_3, rr_4, rr_5, su_2, su_8, su_10, su_12, su_16, su_17, su_20, su_21, su_22, su_23, su_sk, su_key, su_next, su_match, su_heard, su_3m, su_3, su_11m, su_11, su_7, sw_3, sw_8, sw_12, sw_13, sw_14, sw_15, sw_ld, sw_cu, sr_0, sr_5, I_val, I_add, I_sub, I_mul, inB, beq_iff_eq, or_false, false_or, u1_ne, u1_same, nd_u1, nd_u1s, lpS_u1, Bool.or_eq_true, Bool.or_false, Bool.false_or, bI_z, mnI_I, mxI_I, e, I_rem, rndS, rnS]
set_option maxHeartbeats 2000000 in
set_option maxRecDepth 100000 in
theorem C_World_lose (hd : 3 ≤ d) (hw : 8 ≤ w ∧ w ≤ 1462) (hS : ShW s w) (ho : OK R S) : T l V mi_World_lose (rm d) 0 0 [.ref w] (mkH s (jn (mkC w S g) r)) (fun v h' => v = none ∧ h' = mkH s (jn (mkC w (loS S) g) r)) := by
  refine T_ev qm_World_lose [.ref w] rfl rfl (Nat.le_of_ble_eq_true rfl) ok_World_lose (smL_ok (d := d - 1) (by omega)) (fun _ => false) 200 (by omega) (fun K kK => ?_)
  have x1 := (OK_g ho).2.2.2.2.2
  simp (disch := omega) only [ev_s, evN_ap, List.getElem?_cons_zero, List.getElem?_cons_succ, List.set_cons_zero, List.set_cons_succ, Bool.false_eq_true, ↓reduceIte, qrest_n, qrest_1, qrest_2, qrest_3, qrest_4, qrest_5, qrest_6, qtr_i, qtr_r, true_and, and_true, List.length_cons, List.length_nil, Int.cast_ofNat_Int, Int32.toInt_zero, false_implies, true_implies, not_false_eq_true, not_true_eq_false, Option.toList_some, Option.toList_none, List.cons_append, List.nil_append, Nat.reduceBEq, Nat.reduceEqDiff, Bool.or_self, or_self, Nat.reduceAdd, Nat.reduceLT, Nat.zero_add, Int.reduceAdd, Int.reduceLE, Int.reduceLT, Int.reduceEq, and_self, Int.reduceNeg, qrok_i, qrok_b0, qrok_b1, qrok_bI, Option.some.injEq, Value.int.injEq, J_bI0, J_bI1, Classical.not_not, Int.zero_add, Int.add_zero, Int.sub_zero, false_and, and_false, and_true, true_and, e_0, v_0, e_2, v_2, e_6, v_6, e_10, v_10, e_15, v_15, e_19, v_19, e_21, v_21, e_41, c_3, b_0, r_World_lose_0, r_World_lose_1, r_World_lose_4, r_World_lose_6, r_World_lose_9, r_World_lose_10, r_World_lose_11, r_World_lose_14, r_World_lose_15, r_World_lose_16, r_World_lose_19, sv_k hS, sv_0 hS, sv_1 hS, sv_k1 hS, sv_n hS, sv_2 hS, sv_k2 hS, sv_b, sv_4, sv_5 hS, sv_k7 hS, sv_r hS, sv_kr hS, sv_7 hS, sv_k8 hS, sv_10 hS, sv_k9 hS, sv_11 hS, sv_k10 hS, sn_k hS, sn_4 hS, sn_k1 hS, sn_6 hS, sn_k2 hS, sn_24 hS, sn_k3 hS, sn_9 hS, sn_k4 hS, sn_13 hS, sn_k5 hS, sn_14 hS, sn_k6 hS, sn_15 hS, sn_k7 hS, sl_k hS, sl_2 hS, sl_k4 hS, sl_3 hS, sl_k5 hS, sl_4 hS, sl_k6 hS, sl_5 hS, sl_k7 hS, rn_0, rn_1, rn_2, rn_3, rn_5, rn_7, rn_8, rn_10, rn_11, rn_12, rn_16, rn_17, rn_log, rn_20, rn_21, rn_22, rn_23, rn_sk, rn_key, rn_next, rn_match, rn_heard, rw_3, rw_6, rw_8, rw_9, rw_12, rw_13, rw_14, rw_15, rw_he, rw_ld, rw_cu, rr_0, rr_1, rr_2, rr_3, rr_4, rr_5, su_2, su_8, su_10, su_12, su_16, su_17, su_20, su_21, su_22, su_23, su_sk, su_key, su_next, su_match, su_heard, su_3m, su_3, su_11m, su_11, su_7, sw_3, sw_8, sw_12, sw_13, sw_14, sw_15, sw_ld, sw_cu, sr_0, sr_5, I_val, I_add, I_sub, I_mul, inB, beq_iff_eq, or_false, false_or, u1_ne, u1_same, nd_u1, nd_u1s, lpS_u1, Bool.or_eq_true, Bool.or_false, Bool.false_or, bI_z, mnI_I, mxI_I]
  unfold loS
  refine ⟨fun q => ?_, fun q => ?_⟩
  · rw [show min 99999 (S 11137 + 1) = S 11137 by omega]
    congr 3
    funext j
    unfold u1
    split
    · rename_i h; rw [h]
    · rfl
  · rw [show min 99999 (S 11137 + 1) = S 11137 + 1 by omega]
theorem lwG_V {x lo hi wo : Int} (hx : x ≠ 120) {F F' : qN} (hL : LOK r) (hf : ∀ i, 0 ≤ i → i ≤ 6 → F' i = F i) : lwG r F' x lo hi wo (r 2198 15).toNat 0 = lwV r F x lo hi wo := by
  rw [lwG_F hx]
  have := hL.1
  exact lwF_c (fun _ _ _ => rfl) hL.2 hx hf _ _ (by omega) (by omega)
theorem lwG_X {F F' : qN} (hL : LOK r) (hf : ∀ i, 0 ≤ i → i ≤ 6 → F' i = F i) : lwG r F' 120 0 1 0 (r 2198 15).toNat 0 = @ite _ (lxV r F 120) (Classical.propDecidable _) 1 0 := by
  have := hL.1
  rw [lwG_x, lxF_c (fun _ _ _ => rfl) hL.2 hf _ _ (by omega) (by omega)]
  rfl
end CS
