/-! a plan's text: what it says, step by step; the class's reader, its parts -/
def sgF (f : Int → Int) (n p : Int) : Int := if p < n then f p else -1
def tmF (f : Int → Int) (n p : Int) : Int := if 50 ≤ sgF f n p ∧ sgF f n p ≤ 57 then sgF f n p - 48 else 1
def tpF (f : Int → Int) (n p : Int) : Int := if 50 ≤ sgF f n p ∧ sgF f n p ≤ 57 then p + 1 else p
def dcF (c : Int) : Int := if c = 46 then 0 else if c = 107 ∨ c = 117 ∨ c = 99 then 1 else if c = 114 ∨ c = 120 ∨ c = 106 then 2 else if c = 119 then 3 else -1
def mdF (c i : Int) : Int := if i = 0 then 6 else if i = 1 then (if c = 119 ∨ c = 114 then 7 else 6) else 9
def pwF (i : Int) : Int := if i = 0 then 256 else if i = 1 then 4096 else 65536
def dgF (f : Int → Int) (n c : Int) : Nat → Int → Int → Int → Int × Int × Int
  | 0, _, p, a => (0, p, a)
  | j + 1, i, p, a => if sgF f n p - 48 < 0 ∨ mdF c i < sgF f n p - 48 then (-1000 - p, p, a) else if (i = 1 ∧ (c = 120 ∨ c = 106)) ∧ sgF f n p - 48 = a / 256 % 16 then (-7000 - p, p, a) else dgF f n c j (i + 1) (p + 1) (a + (sgF f n p - 48) * pwF i)
def rpF (len : Int) : Nat → Int → (Int → Int) → (Int → Int)
  | 0, _, Q => Q
  | j + 1, i, Q => rpF len j (i + 1) (u1 Q i (Q (i - len)))
/-- a single act: its fault, the place, how many acts, the acts -/
def siF (f : Int → Int) (n p m : Int) (Q : Int → Int) (st : Int) : Int × Int × Int × (Int → Int) :=
  if dcF (sgF f n p) < 0 then (-1000 - p, p, m, Q) else
  if (dgF f n (sgF f n p) (dcF (sgF f n p)).toNat 0 (p + 1) (sgF f n p)).1 ≠ 0 then ((dgF f n (sgF f n p) (dcF (sgF f n p)).toNat 0 (p + 1) (sgF f n p)).1, (dgF f n (sgF f n p) (dcF (sgF f n p)).toNat 0 (p + 1) (sgF f n p)).2.1, m, Q) else
  if 200 ≤ m then (-6000 - st, (dgF f n (sgF f n p) (dcF (sgF f n p)).toNat 0 (p + 1) (sgF f n p)).2.1, m, Q) else (0, (dgF f n (sgF f n p) (dcF (sgF f n p)).toNat 0 (p + 1) (sgF f n p)).2.1, m + 1, u1 Q m (dgF f n (sgF f n p) (dcF (sgF f n p)).toNat 0 (p + 1) (sgF f n p)).2.2)
abbrev PS := Nat × Int × Int × (Int → Int) × List (Int × Int × Int)
def pB (p m : Int) (Q : Int → Int) (z : List (Int × Int × Int)) : PS := (0, p, m, Q, z)
def pE (p m : Int) (Q : Int → Int) (z : List (Int × Int × Int)) : PS := (1, p, m, Q, z)
def pF (c : Int) : PS := (2, c, 0, fun _ => 0, [])
def pD (m : Int) (Q : Int → Int) : PS := (3, 0, m, Q, [])
/-- a round is over: its acts are laid out -/
def reF (p m : Int) (Q : Int → Int) (a t fr : Int) (z : List (Int × Int × Int)) : PS := if 200 < a + (m - a) * t then pF (-6000 - fr) else pE p (a + (m - a) * t) (rpF (m - a) (a + (m - a) * t - m).toNat m Q) z
def stB (f : Int → Int) (n p m : Int) (Q : Int → Int) (z : List (Int × Int × Int)) : PS := if sgF f n (tpF f n p) = 40 then (if z.length = 2 then pF (-5000 - tpF f n p) else pB (tpF f n p + 1) m Q ((m, tmF f n p, p) :: z)) else
      if (siF f n (tpF f n p) m Q p).1 ≠ 0 then pF (siF f n (tpF f n p) m Q p).1 else reF (siF f n (tpF f n p) m Q p).2.1 (siF f n (tpF f n p) m Q p).2.2.1 (siF f n (tpF f n p) m Q p).2.2.2 m (tmF f n p) p z
def stE (f : Int → Int) (n p m : Int) (Q : Int → Int) (z : List (Int × Int × Int)) : PS := match z with
  | [] => if p < n then pB p m Q [] else pD m Q
  | (a, t, fr) :: z => if sgF f n p = 41 then reF (p + 1) m Q a t fr z else pB p m Q ((a, t, fr) :: z)
def stp (f : Int → Int) (n : Int) (x : PS) : PS := if x.1 = 0 then stB f n x.2.1 x.2.2.1 x.2.2.2.1 x.2.2.2.2 else if x.1 = 1 then stE f n x.2.1 x.2.2.1 x.2.2.2.1 x.2.2.2.2 else x
theorem stp_B {f : Int → Int} {n p m : Int} {Q : Int → Int} {z : List (Int × Int × Int)} : stp f n (pB p m Q z) = stB f n p m Q z := rfl
theorem stp_E {f : Int → Int} {n p m : Int} {Q : Int → Int} {z : List (Int × Int × Int)} : stp f n (pE p m Q z) = stE f n p m Q z := rfl
def itp (f : Int → Int) (n : Int) : Nat → PS → PS
  | 0, x => x
  | k + 1, x => itp f n k (stp f n x)
def Rch (f : Int → Int) (n : Int) (x y : PS) : Prop := ∃ k, itp f n k x = y
section Pl
variable {f : Int → Int} {n : Int} {x y z : PS}
theorem Rch_rf : Rch f n x x := ⟨0, rfl⟩
theorem itp_add : ∀ (k j : Nat) (x : PS), itp f n (k + j) x = itp f n j (itp f n k x)
  | 0, j, x => by rw [Nat.zero_add]; rfl
  | k + 1, j, x => by
    rw [show k + 1 + j = (k + j) + 1 by omega]
    exact itp_add k j (stp f n x)
theorem Rch_tr (h : Rch f n x y) (h' : Rch f n y z) : Rch f n x z := by
  obtain ⟨k, rfl⟩ := h
  obtain ⟨j, rfl⟩ := h'
  exact ⟨k + j, itp_add k j x⟩
theorem Rch_1 : Rch f n x (stp f n x) := ⟨1, rfl⟩
theorem Rch_s (h : Rch f n (stp f n x) y) : Rch f n x y := Rch_tr Rch_1 h
/-- what ends stays -/
def PT (x : PS) : Prop := x.1 = 2 ∨ x.1 = 3
theorem itp_T (h : PT x) : ∀ k, itp f n k x = x
  | 0 => rfl
  | k + 1 => by
    have e : stp f n x = x := by
      unfold stp
      unfold PT at h
      rw [if_neg (by omega), if_neg (by omega)]
    rw [itp, e, itp_T h k]
theorem Rch_u {t t' : PS} (h : Rch f n x t) (h' : Rch f n x t') (ht : PT t) (ht' : PT t') : t = t' := by
  obtain ⟨k, rfl⟩ := h
  obtain ⟨j, rfl⟩ := h'
  rcases Nat.le_total k j with q | q
  · have e := itp_add (f := f) (n := n) k (j - k) x
    rw [show k + (j - k) = j by omega, itp_T ht] at e
    exact e.symm
  · have e := itp_add (f := f) (n := n) j (k - j) x
    rw [show j + (k - j) = k by omega, itp_T ht'] at e
    exact e
theorem sgF_rng (h : ∀ j, 0 ≤ j → j < 260 → 0 ≤ f j ∧ f j ≤ 255) (hn : n ≤ 260) {p : Int} (hp : 0 ≤ p) : -1 ≤ sgF f n p ∧ sgF f n p ≤ 255 := by
  unfold sgF
  split
  · have := h p hp (by omega); omega
  · omega
end Pl
/-- the memory of the class's reader of plans -/
def prM (g : qI) (p m : Int) (Q : Int → Int) (fa : Int) : qI := fun a k => if a = 2196 ∧ k = 1 then m else if a = 2196 ∧ k = 4 then p else if a = 2196 ∧ k = 5 then fa else if a = 2197 then Q k else g a k
def ShP (s : qS) : Prop := (kd s 2196 = (4, 0) ∧ rf s 2196 0 = 2197) ∧ (kd s 2197 = (100, 200) ∧ rf s 2196 2 = 2189) ∧ kd s 2189 = (100, 260)
def PrB (g : qI) (n : Int) : Prop := (g 2196 3 = n ∧ 0 ≤ n ∧ n ≤ 240) ∧ ∀ j, 0 ≤ j → j < 260 → 0 ≤ g 2189 j ∧ g 2189 j ≤ 255
section Sh
variable {s : qS} {m : qI} {as : List Value}
theorem sp_k (h : ShP s) : hK (mkH s m) 2196 = (4, 0) := h.1.1
theorem sp_0 (h : ShP s) : hR (mkH s m) 2196 0 = 2197 := h.1.2
theorem sp_ka (h : ShP s) : hK (mkH s m) 2197 = (100, 200) := h.2.1.1
theorem sp_2 (h : ShP s) : hR (mkH s m) 2196 2 = 2189 := h.2.1.2
theorem sp_kt (h : ShP s) : hK (mkH s m) 2189 = (100, 260) := h.2.2
theorem rcP (h : ShP s) : ∃ x as', (Value.ref 2196 :: as) = .ref x :: as' ∧ (hK (mkH s m) x).1 = 4 ∧ 4 < 10 := ⟨_, as, rfl, by rw [sp_k h], by decide⟩
end Sh
section CS
variable {l : Launch} {V : qV} {d : Nat} {s : qS} {w : Nat} {S : qN} {c g g0 r : qI} {R n i v p m fa : Int} {Q0 : Int → Int} {Q : Option Value → qH → Prop} {I : qN → Prop}
theorem pr_1 (hw : 8 ≤ w ∧ w ≤ 1462) : hM (mkH s (jn (mkC w S (prM g p m Q0 fa)) r)) 2196 1 = Int32.ofInt m := by
  rw [ro_ hw (by unfold offW; omega) (by omega)]
  simp [prM]
theorem pr_3 (hw : 8 ≤ w ∧ w ≤ 1462) : hM (mkH s (jn (mkC w S (prM g p m Q0 fa)) r)) 2196 3 = Int32.ofInt (g 2196 3) := by
  rw [ro_ hw (by unfold offW; omega) (by omega)]
  simp [prM]
theorem pr_4 (hw : 8 ≤ w ∧ w ≤ 1462) : hM (mkH s (jn (mkC w S (prM g p m Q0 fa)) r)) 2196 4 = Int32.ofInt p := by
  rw [ro_ hw (by unfold offW; omega) (by omega)]
  simp [prM]
theorem pr_5 (hw : 8 ≤ w ∧ w ≤ 1462) : hM (mkH s (jn (mkC w S (prM g p m Q0 fa)) r)) 2196 5 = Int32.ofInt fa := by
  rw [ro_ hw (by unfold offW; omega) (by omega)]
  simp [prM]
theorem pr_a {k : Int} (hw : 8 ≤ w ∧ w ≤ 1462) : hM (mkH s (jn (mkC w S (prM g p m Q0 fa)) r)) 2197 k = Int32.ofInt (Q0 k) := by
  rw [ro_ hw (by unfold offW; omega) (by omega)]
  simp [prM]
theorem pr_t {k : Int} (hw : 8 ≤ w ∧ w ≤ 1462) : hM (mkH s (jn (mkC w S (prM g p m Q0 fa)) r)) 2189 k = Int32.ofInt (g 2189 k) := by
  rw [ro_ hw (by unfold offW; omega) (by omega)]
  simp [prM]
theorem ps_1 (hw : 8 ≤ w ∧ w ≤ 1462) : setM (mkH s (jn (mkC w S (prM g p m Q0 fa)) r)) 2196 1 (Int32.ofInt v) = mkH s (jn (mkC w S (prM g p v Q0 fa)) r) := by
  rw [so_ hw (by unfold offW; omega) (by omega)]
  congr 3
  funext a k
  unfold up prM
  grind
theorem ps_4 (hw : 8 ≤ w ∧ w ≤ 1462) : setM (mkH s (jn (mkC w S (prM g p m Q0 fa)) r)) 2196 4 (Int32.ofInt v) = mkH s (jn (mkC w S (prM g v m Q0 fa)) r) := by
  rw [so_ hw (by unfold offW; omega) (by omega)]
  congr 3
  funext a k
  unfold up prM
  grind
theorem ps_5 (hw : 8 ≤ w ∧ w ≤ 1462) : setM (mkH s (jn (mkC w S (prM g p m Q0 fa)) r)) 2196 5 (Int32.ofInt v) = mkH s (jn (mkC w S (prM g p m Q0 v)) r) := by
  rw [so_ hw (by unfold offW; omega) (by omega)]
  congr 3
  funext a k
  unfold up prM
  grind
theorem ps_a {k : Int} (hw : 8 ≤ w ∧ w ≤ 1462) : setM (mkH s (jn (mkC w S (prM g p m Q0 fa)) r)) 2197 k (Int32.ofInt v) = mkH s (jn (mkC w S (prM g p m (u1 Q0 k v) fa)) r) := by
  rw [so_ hw (by unfold offW; omega) (by omega)]
  congr 3
  funext a k
  unfold up prM u1
  grind
set_option maxHeartbeats 2000000 in
set_option maxRecDepth 100000 in
theorem C_PR_sign (hd : 3 ≤ d) (hw : 8 ≤ w ∧ w ≤ 1462) (hS : ShW s w) (hg : g = prM g0 p m Q0 fa) (hP : ShP s) (hB : PrB g0 n) (hp : 0 ≤ p ∧ p ≤ 260) : T l V mi_PR_sign (rm d) 0 0 [.ref (2196)] (mkH s (jn (mkC w S g) r)) (fun v h' => v = some (.int (Int32.ofInt (sgF (g0 2189) n p))) ∧ h' = mkH s (jn (mkC w S g) r)) := by
  refine T_ev qm_PR_sign [.ref (2196)] rfl rfl (Nat.le_of_ble_eq_true rfl) ok_PR_sign (smL_ok (d := d - 1) (by omega)) (fun _ => false) 200 (by omega) (fun K kK => ?_)
  subst hg
  obtain ⟨⟨b3, hn⟩, hf⟩ := hB
  by_cases q : p < n
  · have e : sgF (g0 2189) n p = g0 2189 p := by unfold sgF; rw [if_pos q]
    rw [e]
    rw [e] at kK
    simp (disch := omega) only [ev_s, evN_ap, List.getElem?_cons_zero, List.getElem?_cons_succ, List.set_cons_zero, List.set_cons_succ, Bool.false_eq_true, ↓reduceIte, qrest_n, qrest_1, qrest_2, qrest_3, qrest_4, qrest_5, qrest_6, qtr_i, qtr_r, true_and, and_true, List.length_cons, List.length_nil, Int.cast_ofNat_Int, Int32.toInt_zero, false_implies, true_implies, not_false_eq_true, not_true_eq_false, Option.toList_some, Option.toList_none, List.cons_append, List.nil_append, Nat.reduceBEq, Nat.reduceEqDiff, Bool.or_self, or_self, Nat.reduceAdd, Nat.reduceLT, Nat.zero_add, Int.reduceAdd, Int.reduceLE, Int.reduceLT, Int.reduceEq, and_self, Int.reduceNeg, qrok_i, qrok_b0, qrok_b1, qrok_bI, Option.some.injEq, Value.int.injEq, J_bI0, J_bI1, Classical.not_not, Int.zero_add, Int.add_zero, Int.sub_zero, false_and, and_false, and_true, true_and, e_0, v_0, e_2, v_2, e_13, v_13, e_14, v_14, e_15, v_15, e_19, v_19, e_20, v_20, e_24, v_24, e_40, c_2, c_3, r_PR_sign_0, r_PR_sign_1, r_PR_sign_4, r_PR_sign_7, r_PR_sign_8, r_PR_sign_11, r_PR_sign_12, r_PR_sign_15, r_PR_sign_18, r_PR_sign_19, r_PR_sign_22, r_PR_sign_23, r_PR_sign_26, r_PR_sign_27, r_PR_sign_30, r_PR_sign_31, sv_k hS, sv_0 hS, sv_1 hS, sv_k1 hS, sv_n hS, sv_2 hS, sv_k2 hS, sv_b, sv_4, sv_5 hS, sv_k7 hS, sv_r hS, sv_kr hS, sv_7 hS, sv_k8 hS, sv_10 hS, sv_k9 hS, sv_11 hS, sv_k10 hS, sn_k hS, sn_4 hS, sn_k1 hS, sn_6 hS, sn_k2 hS, sn_24 hS, sn_k3 hS, sn_9 hS, sn_k4 hS, sn_13 hS, sn_k5 hS, sn_14 hS, sn_k6 hS, sn_15 hS, sn_k7 hS, sl_k hS, sl_2 hS, sl_k4 hS, sl_3 hS, sl_k5 hS, sl_4 hS, sl_k6 hS, sl_5 hS, sl_k7 hS, rn_0, rn_1, rn_2, rn_3, rn_5, rn_7, rn_8, rn_10, rn_11, rn_12, rn_16, rn_17, rn_log, rn_20, rn_21, rn_22, rn_23, rn_sk, rn_key, rn_next, rn_match, rn_heard, rw_3, rw_6, rw_8, rw_9, rw_12, rw_13, rw_14, rw_15, rw_he, rw_ld, rw_cu, rr_0, rr_1, rr_2, rr_3, rr_4, rr_5, su_2, su_8, su_10, su_12, su_16, su_17, su_20, su_21, su_22, su_23, su_sk, su_key, su_next, su_match, su_heard, su_3m, su_3, su_11m, su_11, su_7, sw_3, sw_8, sw_12, sw_13, sw_14, sw_15, sw_ld, sw_cu, sr_0, sr_5, I_val, I_add, I_sub, I_mul, inB, beq_iff_eq, or_false, false_or, u1_ne, u1_same, nd_u1, nd_u1s, lpS_u1, Bool.or_eq_true, Bool.or_false, Bool.false_or, bI_z, mnI_I, mxI_I, sp_k hP, sp_2 hP, sp_kt hP, pr_3, pr_4, pr_t, b3]
    repeat' (first | with_reducible apply And.intro | intro _)
    all_goals (try clear kK)
    all_goals first | omega | exact rfl | trivial
  · have e : sgF (g0 2189) n p = -1 := by unfold sgF; rw [if_neg q]
    rw [e]
    rw [e] at kK
    simp (disch := omega) only [ev_s, evN_ap, List.getElem?_cons_zero, List.getElem?_cons_succ, List.set_cons_zero, List.set_cons_succ, Bool.false_eq_true, ↓reduceIte, qrest_n, qrest_1, qrest_2, qrest_3, qrest_4, qrest_5, qrest_6, qtr_i, qtr_r, true_and, and_true, List.length_cons, List.length_nil, Int.cast_ofNat_Int, Int32.toInt_zero, false_implies, true_implies, not_false_eq_true, not_true_eq_false, Option.toList_some, Option.toList_none, List.cons_append, List.nil_append, Nat.reduceBEq, Nat.reduceEqDiff, Bool.or_self, or_self, Nat.reduceAdd, Nat.reduceLT, Nat.zero_add, Int.reduceAdd, Int.reduceLE, Int.reduceLT, Int.reduceEq, and_self, Int.reduceNeg, qrok_i, qrok_b0, qrok_b1, qrok_bI, Option.some.injEq, Value.int.injEq, J_bI0, J_bI1, Classical.not_not, Int.zero_add, Int.add_zero, Int.sub_zero, false_and, and_false, and_true, true_and, e_0, v_0, e_2, v_2, e_13, v_13, e_14, v_14, e_15, v_15, e_19, v_19, e_20, v_20, e_24, v_24, e_40, c_2, c_3, r_PR_sign_0, r_PR_sign_1, r_PR_sign_4, r_PR_sign_7, r_PR_sign_8, r_PR_sign_11, r_PR_sign_12, r_PR_sign_15, r_PR_sign_18, r_PR_sign_19, r_PR_sign_22, r_PR_sign_23, r_PR_sign_26, r_PR_sign_27, r_PR_sign_30, r_PR_sign_31, sv_k hS, sv_0 hS, sv_1 hS, sv_k1 hS, sv_n hS, sv_2 hS, sv_k2 hS, sv_b, sv_4, sv_5 hS, sv_k7 hS, sv_r hS, sv_kr hS, sv_7 hS, sv_k8 hS, sv_10 hS, sv_k9 hS, sv_11 hS, sv_k10 hS, sn_k hS, sn_4 hS, sn_k1 hS, sn_6 hS, sn_k2 hS, sn_24 hS, sn_k3 hS, sn_9 hS, sn_k4 hS, sn_13 hS, sn_k5 hS, sn_14 hS, sn_k6 hS, sn_15 hS, sn_k7 hS, sl_k hS, sl_2 hS, sl_k4 hS, sl_3 hS, sl_k5 hS, sl_4 hS, sl_k6 hS, sl_5 hS, sl_k7 hS, rn_0, rn_1, rn_2, rn_3, rn_5, rn_7, rn_8, rn_10, rn_11, rn_12, rn_16, rn_17, rn_log, rn_20, rn_21, rn_22, rn_23, rn_sk, rn_key, rn_next, rn_match, rn_heard, rw_3, rw_6, rw_8, rw_9, rw_12, rw_13, rw_14, rw_15, rw_he, rw_ld, rw_cu, rr_0, rr_1, rr_2, rr_3, rr_4, rr_5, su_2, su_8, su_10, su_12, su_16, su_17, su_20, su_21, su_22, su_23, su_sk, su_key, su_next, su_match, su_heard, su_3m, su_3, su_11m, su_11, su_7, sw_3, sw_8, sw_12, sw_13, sw_14, sw_15, sw_ld, sw_cu, sr_0, sr_5, I_val, I_add, I_sub, I_mul, inB, beq_iff_eq, or_false, false_or, u1_ne, u1_same, nd_u1, nd_u1s, lpS_u1, Bool.or_eq_true, Bool.or_false, Bool.false_or, bI_z, mnI_I, mxI_I, sp_k hP, sp_2 hP, sp_kt hP, pr_3, pr_4, pr_t, b3]
    repeat' (first | with_reducible apply And.intro | intro _)
    all_goals (try clear kK)
    all_goals first | omega | exact rfl | trivial
set_option maxHeartbeats 2000000 in
set_option maxRecDepth 100000 in
theorem C_PR_fail (hd : 3 ≤ d) (hw : 8 ≤ w ∧ w ≤ 1462) (hS : ShW s w) {a b : Int} (hg : g = prM g0 p m Q0 fa) (hP : ShP s) (hf : -1000000 ≤ fa ∧ fa ≤ 0) (ha : 0 ≤ a ∧ a ≤ 9) (hb : 0 ≤ b ∧ b ≤ 300) : T l V mi_PR_fail (rm d) 0 0 [.ref (2196), .int (Int32.ofInt a), .int (Int32.ofInt b)] (mkH s (jn (mkC w S g) r)) (fun v h' => v = none ∧ h' = mkH s (jn (mkC w S (prM g0 p m Q0 (if fa = 0 then -1000 * a - b else fa))) r)) := by
  refine T_ev qm_PR_fail [.ref (2196), .int (Int32.ofInt a), .int (Int32.ofInt b)] rfl rfl (Nat.le_of_ble_eq_true rfl) ok_PR_fail (smL_ok (d := d - 1) (by omega)) (fun _ => false) 200 (by omega) (fun K kK => ?_)
  subst hg
  by_cases q : fa = 0
  · subst q
    rw [if_pos rfl]
    rw [if_pos rfl] at kK
    simp (disch := omega) only [ev_s, evN_ap, List.getElem?_cons_zero, List.getElem?_cons_succ, List.set_cons_zero, List.set_cons_succ, Bool.false_eq_true, ↓reduceIte, qrest_n, qrest_1, qrest_2, qrest_3, qrest_4, qrest_5, qrest_6, qtr_i, qtr_r, true_and, and_true, List.length_cons, List.length_nil, Int.cast_ofNat_Int, Int32.toInt_zero, false_implies, true_implies, not_false_eq_true, not_true_eq_false, Option.toList_some, Option.toList_none, List.cons_append, List.nil_append, Nat.reduceBEq, Nat.reduceEqDiff, Bool.or_self, or_self, Nat.reduceAdd, Nat.reduceLT, Nat.zero_add, Int.reduceAdd, Int.reduceLE, Int.reduceLT, Int.reduceEq, and_self, Int.reduceNeg, qrok_i, qrok_b0, qrok_b1, qrok_bI, Option.some.injEq, Value.int.injEq, J_bI0, J_bI1, Classical.not_not, Int.zero_add, Int.add_zero, Int.sub_zero, false_and, and_false, and_true, true_and, e_0, v_0, e_1, v_1, e_2, v_2, e_6, v_6, e_14, v_14, e_19, v_19, e_21, v_21, e_41, c_1, b_1, b_2, r_PR_fail_0, r_PR_fail_1, r_PR_fail_4, r_PR_fail_7, r_PR_fail_8, r_PR_fail_11, r_PR_fail_12, r_PR_fail_13, r_PR_fail_14, r_PR_fail_15, r_PR_fail_18, sv_k hS, sv_0 hS, sv_1 hS, sv_k1 hS, sv_n hS, sv_2 hS, sv_k2 hS, sv_b, sv_4, sv_5 hS, sv_k7 hS, sv_r hS, sv_kr hS, sv_7 hS, sv_k8 hS, sv_10 hS, sv_k9 hS, sv_11 hS, sv_k10 hS, sn_k hS, sn_4 hS, sn_k1 hS, sn_6 hS, sn_k2 hS, sn_24 hS, sn_k3 hS, sn_9 hS, sn_k4 hS, sn_13 hS, sn_k5 hS, sn_14 hS, sn_k6 hS, sn_15 hS, sn_k7 hS, sl_k hS, sl_2 hS, sl_k4 hS, sl_3 hS, sl_k5 hS, sl_4 hS, sl_k6 hS, sl_5 hS, sl_k7 hS, rn_0, rn_1, rn_2, rn_3, rn_5, rn_7, rn_8, rn_10, rn_11, rn_12, rn_16, rn_17, rn_log, rn_20, rn_21, rn_22, rn_23, rn_sk, rn_key, rn_next, rn_match, rn_heard, rw_3, rw_6, rw_8, rw_9, rw_12, rw_13, rw_14, rw_15, rw_he, rw_ld, rw_cu, rr_0, rr_1, rr_2, rr_3, rr_4, rr_5, su_2, su_8, su_10, su_12, su_16, su_17, su_20, su_21, su_22, su_23, su_sk, su_key, su_next, su_match, su_heard, su_3m, su_3, su_11m, su_11, su_7, sw_3, sw_8, sw_12, sw_13, sw_14, sw_15, sw_ld, sw_cu, sr_0, sr_5, I_val, I_add, I_sub, I_mul, inB, beq_iff_eq, or_false, false_or, u1_ne, u1_same, nd_u1, nd_u1s, lpS_u1, Bool.or_eq_true, Bool.or_false, Bool.false_or, bI_z, mnI_I, mxI_I, sp_k hP, pr_5, ps_5]
    repeat' (first | with_reducible apply And.intro | intro _)
    all_goals (try clear kK)
    all_goals first | omega | exact rfl | trivial
  · rw [if_neg q]
    rw [if_neg q] at kK
    simp (disch := omega) only [ev_s, evN_ap, List.getElem?_cons_zero, List.getElem?_cons_succ, List.set_cons_zero, List.set_cons_succ, Bool.false_eq_true, ↓reduceIte, qrest_n, qrest_1, qrest_2, qrest_3, qrest_4, qrest_5, qrest_6, qtr_i, qtr_r, true_and, and_true, List.length_cons, List.length_nil, Int.cast_ofNat_Int, Int32.toInt_zero, false_implies, true_implies, not_false_eq_true, not_true_eq_false, Option.toList_some, Option.toList_none, List.cons_append, List.nil_append, Nat.reduceBEq, Nat.reduceEqDiff, Bool.or_self, or_self, Nat.reduceAdd, Nat.reduceLT, Nat.zero_add, Int.reduceAdd, Int.reduceLE, Int.reduceLT, Int.reduceEq, and_self, Int.reduceNeg, qrok_i, qrok_b0, qrok_b1, qrok_bI, Option.some.injEq, Value.int.injEq, J_bI0, J_bI1, Classical.not_not, Int.zero_add, Int.add_zero, Int.sub_zero, false_and, and_false, and_true, true_and, e_0, v_0, e_1, v_1, e_2, v_2, e_6, v_6, e_14, v_14, e_19, v_19, e_21, v_21, e_41, c_1, b_1, b_2, r_PR_fail_0, r_PR_fail_1, r_PR_fail_4, r_PR_fail_7, r_PR_fail_8, r_PR_fail_11, r_PR_fail_12, r_PR_fail_13, r_PR_fail_14, r_PR_fail_15, r_PR_fail_18, sv_k hS, sv_0 hS, sv_1 hS, sv_k1 hS, sv_n hS, sv_2 hS, sv_k2 hS, sv_b, sv_4, sv_5 hS, sv_k7 hS, sv_r hS, sv_kr hS, sv_7 hS, sv_k8 hS, sv_10 hS, sv_k9 hS, sv_11 hS, sv_k10 hS, sn_k hS, sn_4 hS, sn_k1 hS, sn_6 hS, sn_k2 hS, sn_24 hS, sn_k3 hS, sn_9 hS, sn_k4 hS, sn_13 hS, sn_k5 hS, sn_14 hS, sn_k6 hS, sn_15 hS, sn_k7 hS, sl_k hS, sl_2 hS, sl_k4 hS, sl_3 hS, sl_k5 hS, sl_4 hS, sl_k6 hS, sl_5 hS, sl_k7 hS, rn_0, rn_1, rn_2, rn_3, rn_5, rn_7, rn_8, rn_10, rn_11, rn_12, rn_16, rn_17, rn_log, rn_20, rn_21, rn_22, rn_23, rn_sk, rn_key, rn_next, rn_match, rn_heard, rw_3, rw_6, rw_8, rw_9, rw_12, rw_13, rw_14, rw_15, rw_he, rw_ld, rw_cu, rr_0, rr_1, rr_2, rr_3, rr_4, rr_5, su_2, su_8, su_10, su_12, su_16, su_17, su_20, su_21, su_22, su_23, su_sk, su_key, su_next, su_match, su_heard, su_3m, su_3, su_11m, su_11, su_7, sw_3, sw_8, sw_12, sw_13, sw_14, sw_15, sw_ld, sw_cu, sr_0, sr_5, I_val, I_add, I_sub, I_mul, inB, beq_iff_eq, or_false, false_or, u1_ne, u1_same, nd_u1, nd_u1s, lpS_u1, Bool.or_eq_true, Bool.or_false, Bool.false_or, bI_z, mnI_I, mxI_I, sp_k hP, pr_5, ps_5]
    repeat' (first | with_reducible apply And.intro | intro _)
    all_goals (try clear kK)
    all_goals first | omega | exact rfl | trivial
set_option maxHeartbeats 2000000 in
set_option maxRecDepth 100000 in
theorem C_PR_digitCount (hd : 3 ≤ d) (hw : 8 ≤ w ∧ w ≤ 1462) (hS : ShW s w) {c : Int} (hc : -1 ≤ c ∧ c ≤ 255) : T l V mi_PR_digitCount (rm d) 0 0 [.int (Int32.ofInt c)] (mkH s (jn (mkC w S g) r)) (fun v h' => v = some (.int (Int32.ofInt (dcF c))) ∧ h' = mkH s (jn (mkC w S g) r)) := by
  refine T_ev qm_PR_digitCount [.int (Int32.ofInt c)] rfl rfl (Nat.le_of_ble_eq_true rfl) ok_PR_digitCount (smL_ok (d := d - 1) (by omega)) (fun _ => false) 200 (by omega) (fun K kK => ?_)
  unfold dcF
  unfold dcF at kK
  by_cases h : c = 46 ∨ c = 99 ∨ c = 106 ∨ c = 107 ∨ c = 114 ∨ c = 117 ∨ c = 119 ∨ c = 120
  · rcases h with rfl | rfl | rfl | rfl | rfl | rfl | rfl | rfl
    all_goals
      simp at kK ⊢
      simp (disch := omega) only [ev_s, evN_ap, List.getElem?_cons_zero, List.getElem?_cons_succ, List.set_cons_zero, List.set_cons_succ, Bool.false_eq_true, ↓reduceIte, qrest_n, qrest_1, qrest_2, qrest_3, qrest_4, qrest_5, qrest_6, qtr_i, qtr_r, true_and, and_true, List.length_cons, List.length_nil, Int.cast_ofNat_Int, Int32.toInt_zero, false_implies, true_implies, not_false_eq_true, not_true_eq_false, Option.toList_some, Option.toList_none, List.cons_append, List.nil_append, Nat.reduceBEq, Nat.reduceEqDiff, Bool.or_self, or_self, Nat.reduceAdd, Nat.reduceLT, Nat.zero_add, Int.reduceAdd, Int.reduceLE, Int.reduceLT, Int.reduceEq, and_self, Int.reduceNeg, qrok_i, qrok_b0, qrok_b1, qrok_bI, Option.some.injEq, Value.int.injEq, J_bI0, J_bI1, Classical.not_not, Int.zero_add, Int.add_zero, Int.sub_zero, false_and, and_false, and_true, true_and, e_0, v_0, e_1, v_1, e_18, v_18, e_40, swP, r_PR_digitCount_0, r_PR_digitCount_1, r_PR_digitCount_76, r_PR_digitCount_77, r_PR_digitCount_78, r_PR_digitCount_79, r_PR_digitCount_80, r_PR_digitCount_81, r_PR_digitCount_82, r_PR_digitCount_83, r_PR_digitCount_84, r_PR_digitCount_85, sv_k hS, sv_0 hS, sv_1 hS, sv_k1 hS, sv_n hS, sv_2 hS, sv_k2 hS, sv_b, sv_4, sv_5 hS, sv_k7 hS, sv_r hS, sv_kr hS, sv_7 hS, sv_k8 hS, sv_10 hS, sv_k9 hS, sv_11 hS, sv_k10 hS, sn_k hS, sn_4 hS, sn_k1 hS, sn_6 hS, sn_k2 hS, sn_24 hS, sn_k3 hS, sn_9 hS, sn_k4 hS, sn_13 hS, sn_k5 hS, sn_14 hS, sn_k6 hS, sn_15 hS, sn_k7 hS, sl_k hS, sl_2 hS, sl_k4 hS, sl_3 hS, sl_k5 hS, sl_4 hS, sl_k6 hS, sl_5 hS, sl_k7 hS, rn_0, rn_1, rn_2, rn_3, rn_5, rn_7, rn_8, rn_10, rn_11, rn_12, rn_16, rn_17, rn_log, rn_20, rn_21, rn_22, rn_23, rn_sk, rn_key, rn_next, rn_match, rn_heard, rw_3, rw_6, rw_8, rw_9, rw_12, rw_13, rw_14, rw_15, rw_he, rw_ld, rw_cu, rr_0, rr_1, rr_2, rr_3, rr_4, rr_5, su_2, su_8, su_10, su_12, su_16, su_17, su_20, su_21, su_22, su_23, su_sk, su_key, su_next, su_match, su_heard, su_3m, su_3, su_11m, su_11, su_7, sw_3, sw_8, sw_12, sw_13, sw_14, sw_15, sw_ld, sw_cu, sr_0, sr_5, I_val, I_add, I_sub, I_mul, inB, beq_iff_eq, or_false, false_or, u1_ne, u1_same, nd_u1, nd_u1s, lpS_u1, Bool.or_eq_true, Bool.or_false, Bool.false_or, bI_z, mnI_I, mxI_I]
      repeat' (first | with_reducible apply And.intro | intro _)
      all_goals (try clear kK)
      all_goals first | omega | exact rfl | trivial
  · rw [if_neg (by omega), if_neg (by omega), if_neg (by omega), if_neg (by omega)]
    rw [if_neg (by omega), if_neg (by omega), if_neg (by omega), if_neg (by omega)] at kK
    simp (disch := omega) only [ev_s, evN_ap, List.getElem?_cons_zero, List.getElem?_cons_succ, List.set_cons_zero, List.set_cons_succ, Bool.false_eq_true, ↓reduceIte, qrest_n, qrest_1, qrest_2, qrest_3, qrest_4, qrest_5, qrest_6, qtr_i, qtr_r, true_and, and_true, List.length_cons, List.length_nil, Int.cast_ofNat_Int, Int32.toInt_zero, false_implies, true_implies, not_false_eq_true, not_true_eq_false, Option.toList_some, Option.toList_none, List.cons_append, List.nil_append, Nat.reduceBEq, Nat.reduceEqDiff, Bool.or_self, or_self, Nat.reduceAdd, Nat.reduceLT, Nat.zero_add, Int.reduceAdd, Int.reduceLE, Int.reduceLT, Int.reduceEq, and_self, Int.reduceNeg, qrok_i, qrok_b0, qrok_b1, qrok_bI, Option.some.injEq, Value.int.injEq, J_bI0, J_bI1, Classical.not_not, Int.zero_add, Int.add_zero, Int.sub_zero, false_and, and_false, and_true, true_and, e_0, v_0, e_1, v_1, e_18, v_18, e_40, swP, r_PR_digitCount_0, r_PR_digitCount_1, r_PR_digitCount_76, r_PR_digitCount_77, r_PR_digitCount_78, r_PR_digitCount_79, r_PR_digitCount_80, r_PR_digitCount_81, r_PR_digitCount_82, r_PR_digitCount_83, r_PR_digitCount_84, r_PR_digitCount_85, sv_k hS, sv_0 hS, sv_1 hS, sv_k1 hS, sv_n hS, sv_2 hS, sv_k2 hS, sv_b, sv_4, sv_5 hS, sv_k7 hS, sv_r hS, sv_kr hS, sv_7 hS, sv_k8 hS, sv_10 hS, sv_k9 hS, sv_11 hS, sv_k10 hS, sn_k hS, sn_4 hS, sn_k1 hS, sn_6 hS, sn_k2 hS, sn_24 hS, sn_k3 hS, sn_9 hS, sn_k4 hS, sn_13 hS, sn_k5 hS, sn_14 hS, sn_k6 hS, sn_15 hS, sn_k7 hS, sl_k hS, sl_2 hS, sl_k4 hS, sl_3 hS, sl_k5 hS, sl_4 hS, sl_k6 hS, sl_5 hS, sl_k7 hS, rn_0, rn_1, rn_2, rn_3, rn_5, rn_7, rn_8, rn_10, rn_11, rn_12, rn_16, rn_17, rn_log, rn_20, rn_21, rn_22, rn_23, rn_sk, rn_key, rn_next, rn_match, rn_heard, rw_3, rw_6, rw_8, rw_9, rw_12, rw_13, rw_14, rw_15, rw_he, rw_ld, rw_cu, rr_0, rr_1, rr_2, rr_3, rr_4, rr_5, su_2, su_8, su_10, su_12, su_16, su_17, su_20, su_21, su_22, su_23, su_sk, su_key, su_next, su_match, su_heard, su_3m, su_3, su_11m, su_11, su_7, sw_3, sw_8, sw_12, sw_13, sw_14, sw_15, sw_ld, sw_cu, sr_0, sr_5, I_val, I_add, I_sub, I_mul, inB, beq_iff_eq, or_false, false_or, u1_ne, u1_same, nd_u1, nd_u1s, lpS_u1, Bool.or_eq_true, Bool.or_false, Bool.false_or, bI_z, mnI_I, mxI_I]
    repeat' (first | with_reducible apply And.intro | intro _)
    all_goals (try clear kK)
    all_goals first | omega | exact rfl | trivial
set_option maxHeartbeats 2000000 in
set_option maxRecDepth 100000 in
theorem C_PR_mostDigit (hd : 3 ≤ d) (hw : 8 ≤ w ∧ w ≤ 1462) (hS : ShW s w) {c i : Int} (hc : -1 ≤ c ∧ c ≤ 255) (hi : 0 ≤ i ∧ i ≤ 2) : T l V mi_PR_mostDigit (rm d) 0 0 [.int (Int32.ofInt c), .int (Int32.ofInt i)] (mkH s (jn (mkC w S g) r)) (fun v h' => v = some (.int (Int32.ofInt (mdF c i))) ∧ h' = mkH s (jn (mkC w S g) r)) := by
  refine T_ev qm_PR_mostDigit [.int (Int32.ofInt c), .int (Int32.ofInt i)] rfl rfl (Nat.le_of_ble_eq_true rfl) ok_PR_mostDigit (smL_ok (d := d - 1) (by omega)) (fun _ => false) 200 (by omega) (fun K kK => ?_)
  unfold mdF
  unfold mdF at kK
  have i3 : i = 0 ∨ i = 1 ∨ i = 2 := by omega
  rcases i3 with rfl | rfl | rfl
  · simp only [Int.reduceEq, ↓reduceIte] at kK ⊢
    simp (disch := omega) only [ev_s, evN_ap, List.getElem?_cons_zero, List.getElem?_cons_succ, List.set_cons_zero, List.set_cons_succ, Bool.false_eq_true, ↓reduceIte, qrest_n, qrest_1, qrest_2, qrest_3, qrest_4, qrest_5, qrest_6, qtr_i, qtr_r, true_and, and_true, List.length_cons, List.length_nil, Int.cast_ofNat_Int, Int32.toInt_zero, false_implies, true_implies, not_false_eq_true, not_true_eq_false, Option.toList_some, Option.toList_none, List.cons_append, List.nil_append, Nat.reduceBEq, Nat.reduceEqDiff, Bool.or_self, or_self, Nat.reduceAdd, Nat.reduceLT, Nat.zero_add, Int.reduceAdd, Int.reduceLE, Int.reduceLT, Int.reduceEq, and_self, Int.reduceNeg, qrok_i, qrok_b0, qrok_b1, qrok_bI, Option.some.injEq, Value.int.injEq, J_bI0, J_bI1, Classical.not_not, Int.zero_add, Int.add_zero, Int.sub_zero, false_and, and_false, and_true, true_and, e_0, v_0, e_1, v_1, e_13, v_13, e_14, v_14, e_15, v_15, e_40, c_0, c_1, r_PR_mostDigit_0, r_PR_mostDigit_1, r_PR_mostDigit_4, r_PR_mostDigit_6, r_PR_mostDigit_7, r_PR_mostDigit_8, r_PR_mostDigit_9, r_PR_mostDigit_12, r_PR_mostDigit_13, r_PR_mostDigit_15, r_PR_mostDigit_18, r_PR_mostDigit_19, r_PR_mostDigit_21, r_PR_mostDigit_24, r_PR_mostDigit_26, r_PR_mostDigit_29, r_PR_mostDigit_31, r_PR_mostDigit_32, r_PR_mostDigit_34, sv_k hS, sv_0 hS, sv_1 hS, sv_k1 hS, sv_n hS, sv_2 hS, sv_k2 hS, sv_b, sv_4, sv_5 hS, sv_k7 hS, sv_r hS, sv_kr hS, sv_7 hS, sv_k8 hS, sv_10 hS, sv_k9 hS, sv_11 hS, sv_k10 hS, sn_k hS, sn_4 hS, sn_k1 hS, sn_6 hS, sn_k2 hS, sn_24 hS, sn_k3 hS, sn_9 hS, sn_k4 hS, sn_13 hS, sn_k5 hS, sn_14 hS, sn_k6 hS, sn_15 hS, sn_k7 hS, sl_k hS, sl_2 hS, sl_k4 hS, sl_3 hS, sl_k5 hS, sl_4 hS, sl_k6 hS, sl_5 hS, sl_k7 hS, rn_0, rn_1, rn_2, rn_3, rn_5, rn_7, rn_8, rn_10, rn_11, rn_12, rn_16, rn_17, rn_log, rn_20, rn_21, rn_22, rn_23, rn_sk, rn_key, rn_next, rn_match, rn_heard, rw_3, rw_6, rw_8, rw_9, rw_12, rw_13, rw_14, rw_15, rw_he, rw_ld, rw_cu, rr_0, rr_1, rr_2, rr_3, rr_4, rr_5, su_2, su_8, su_10, su_12, su_16, su_17, su_20, su_21, su_22, su_23, su_sk, su_key, su_next, su_match, su_heard, su_3m, su_3, su_11m, su_11, su_7, sw_3, sw_8, sw_12, sw_13, sw_14, sw_15, sw_ld, sw_cu, sr_0, sr_5, I_val, I_add, I_sub, I_mul, inB, beq_iff_eq, or_false, false_or, u1_ne, u1_same, nd_u1, nd_u1s, lpS_u1, Bool.or_eq_true, Bool.or_false, Bool.false_or, bI_z, mnI_I, mxI_I]
    repeat' (first | with_reducible apply And.intro | intro _)
    all_goals (try clear kK)
    all_goals first | omega | exact rfl | trivial
  · simp only [Int.reduceEq, ↓reduceIte] at kK ⊢
    by_cases q : c = 119 ∨ c = 114
    · rw [if_pos q]
      rw [if_pos q] at kK
      simp (disch := omega) only [ev_s, evN_ap, List.getElem?_cons_zero, List.getElem?_cons_succ, List.set_cons_zero, List.set_cons_succ, Bool.false_eq_true, ↓reduceIte, qrest_n, qrest_1, qrest_2, qrest_3, qrest_4, qrest_5, qrest_6, qtr_i, qtr_r, true_and, and_true, List.length_cons, List.length_nil, Int.cast_ofNat_Int, Int32.toInt_zero, false_implies, true_implies, not_false_eq_true, not_true_eq_false, Option.toList_some, Option.toList_none, List.cons_append, List.nil_append, Nat.reduceBEq, Nat.reduceEqDiff, Bool.or_self, or_self, Nat.reduceAdd, Nat.reduceLT, Nat.zero_add, Int.reduceAdd, Int.reduceLE, Int.reduceLT, Int.reduceEq, and_self, Int.reduceNeg, qrok_i, qrok_b0, qrok_b1, qrok_bI, Option.some.injEq, Value.int.injEq, J_bI0, J_bI1, Classical.not_not, Int.zero_add, Int.add_zero, Int.sub_zero, false_and, and_false, and_true, true_and, e_0, v_0, e_1, v_1, e_13, v_13, e_14, v_14, e_15, v_15, e_40, c_0, c_1, r_PR_mostDigit_0, r_PR_mostDigit_1, r_PR_mostDigit_4, r_PR_mostDigit_6, r_PR_mostDigit_7, r_PR_mostDigit_8, r_PR_mostDigit_9, r_PR_mostDigit_12, r_PR_mostDigit_13, r_PR_mostDigit_15, r_PR_mostDigit_18, r_PR_mostDigit_19, r_PR_mostDigit_21, r_PR_mostDigit_24, r_PR_mostDigit_26, r_PR_mostDigit_29, r_PR_mostDigit_31, r_PR_mostDigit_32, r_PR_mostDigit_34, sv_k hS, sv_0 hS, sv_1 hS, sv_k1 hS, sv_n hS, sv_2 hS, sv_k2 hS, sv_b, sv_4, sv_5 hS, sv_k7 hS, sv_r hS, sv_kr hS, sv_7 hS, sv_k8 hS, sv_10 hS, sv_k9 hS, sv_11 hS, sv_k10 hS, sn_k hS, sn_4 hS, sn_k1 hS, sn_6 hS, sn_k2 hS, sn_24 hS, sn_k3 hS, sn_9 hS, sn_k4 hS, sn_13 hS, sn_k5 hS, sn_14 hS, sn_k6 hS, sn_15 hS, sn_k7 hS, sl_k hS, sl_2 hS, sl_k4 hS, sl_3 hS, sl_k5 hS, sl_4 hS, sl_k6 hS, sl_5 hS, sl_k7 hS, rn_0, rn_1, rn_2, rn_3, rn_5, rn_7, rn_8, rn_10, rn_11, rn_12, rn_16, rn_17, rn_log, rn_20, rn_21, rn_22, rn_23, rn_sk, rn_key, rn_next, rn_match, rn_heard, rw_3, rw_6, rw_8, rw_9, rw_12, rw_13, rw_14, rw_15, rw_he, rw_ld, rw_cu, rr_0, rr_1, rr_2, rr_3, rr_4, rr_5, su_2, su_8, su_10, su_12, su_16, su_17, su_20, su_21, su_22, su_23, su_sk, su_key, su_next, su_match, su_heard, su_3m, su_3, su_11m, su_11, su_7, sw_3, sw_8, sw_12, sw_13, sw_14, sw_15, sw_ld, sw_cu, sr_0, sr_5, I_val, I_add, I_sub, I_mul, inB, beq_iff_eq, or_false, false_or, u1_ne, u1_same, nd_u1, nd_u1s, lpS_u1, Bool.or_eq_true, Bool.or_false, Bool.false_or, bI_z, mnI_I, mxI_I]
      repeat' (first | with_reducible apply And.intro | intro _)
      all_goals (try clear kK)
      all_goals first | omega | exact rfl | trivial
    · rw [if_neg q]
      rw [if_neg q] at kK
      simp (disch := omega) only [ev_s, evN_ap, List.getElem?_cons_zero, List.getElem?_cons_succ, List.set_cons_zero, List.set_cons_succ, Bool.false_eq_true, ↓reduceIte, qrest_n, qrest_1, qrest_2, qrest_3, qrest_4, qrest_5, qrest_6, qtr_i, qtr_r, true_and, and_true, List.length_cons, List.length_nil, Int.cast_ofNat_Int, Int32.toInt_zero, false_implies, true_implies, not_false_eq_true, not_true_eq_false, Option.toList_some, Option.toList_none, List.cons_append, List.nil_append, Nat.reduceBEq, Nat.reduceEqDiff, Bool.or_self, or_self, Nat.reduceAdd, Nat.reduceLT, Nat.zero_add, Int.reduceAdd, Int.reduceLE, Int.reduceLT, Int.reduceEq, and_self, Int.reduceNeg, qrok_i, qrok_b0, qrok_b1, qrok_bI, Option.some.injEq, Value.int.injEq, J_bI0, J_bI1, Classical.not_not, Int.zero_add, Int.add_zero, Int.sub_zero, false_and, and_false, and_true, true_and, e_0, v_0, e_1, v_1, e_13, v_13, e_14, v_14, e_15, v_15, e_40, c_0, c_1, r_PR_mostDigit_0, r_PR_mostDigit_1, r_PR_mostDigit_4, r_PR_mostDigit_6, r_PR_mostDigit_7, r_PR_mostDigit_8, r_PR_mostDigit_9, r_PR_mostDigit_12, r_PR_mostDigit_13, r_PR_mostDigit_15, r_PR_mostDigit_18, r_PR_mostDigit_19, r_PR_mostDigit_21, r_PR_mostDigit_24, r_PR_mostDigit_26, r_PR_mostDigit_29, r_PR_mostDigit_31, r_PR_mostDigit_32, r_PR_mostDigit_34, sv_k hS, sv_0 hS, sv_1 hS, sv_k1 hS, sv_n hS, sv_2 hS, sv_k2 hS, sv_b, sv_4, sv_5 hS, sv_k7 hS, sv_r hS, sv_kr hS, sv_7 hS, sv_k8 hS, sv_10 hS, sv_k9 hS, sv_11 hS, sv_k10 hS, sn_k hS, sn_4 hS, sn_k1 hS, sn_6 hS, sn_k2 hS, sn_24 hS, sn_k3 hS, sn_9 hS, sn_k4 hS, sn_13 hS, sn_k5 hS, sn_14 hS, sn_k6 hS, sn_15 hS, sn_k7 hS, sl_k hS, sl_2 hS, sl_k4 hS, sl_3 hS, sl_k5 hS, sl_4 hS, sl_k6 hS, sl_5 hS, sl_k7 hS, rn_0, rn_1, rn_2, rn_3, rn_5, rn_7, rn_8, rn_10, rn_11, rn_12, rn_16, rn_17, rn_log, rn_20, rn_21, rn_22, rn_23, rn_sk, rn_key, rn_next, rn_match, rn_heard, rw_3, rw_6, rw_8, rw_9, rw_12, rw_13, rw_14, rw_15, rw_he, rw_ld, rw_cu, rr_0, rr_1, rr_2, rr_3, rr_4, rr_5, su_2, su_8, su_10, su_12, su_16, su_17, su_20, su_21, su_22, su_23, su_sk, su_key, su_next, su_match, su_heard, su_3m, su_3, su_11m, su_11, su_7, sw_3, sw_8, sw_12, sw_13, sw_14, sw_15, sw_ld, sw_cu, sr_0, sr_5, I_val, I_add, I_sub, I_mul, inB, beq_iff_eq, or_false, false_or, u1_ne, u1_same, nd_u1, nd_u1s, lpS_u1, Bool.or_eq_true, Bool.or_false, Bool.false_or, bI_z, mnI_I, mxI_I]
      repeat' (first | with_reducible apply And.intro | intro _)
      all_goals (try clear kK)
      all_goals first | omega | exact rfl | trivial
  · simp only [Int.reduceEq, ↓reduceIte] at kK ⊢
    simp (disch := omega) only [ev_s, evN_ap, List.getElem?_cons_zero, List.getElem?_cons_succ, List.set_cons_zero, List.set_cons_succ, Bool.false_eq_true, ↓reduceIte, qrest_n, qrest_1, qrest_2, qrest_3, qrest_4, qrest_5, qrest_6, qtr_i, qtr_r, true_and, and_true, List.length_cons, List.length_nil, Int.cast_ofNat_Int, Int32.toInt_zero, false_implies, true_implies, not_false_eq_true, not_true_eq_false, Option.toList_some, Option.toList_none, List.cons_append, List.nil_append, Nat.reduceBEq, Nat.reduceEqDiff, Bool.or_self, or_self, Nat.reduceAdd, Nat.reduceLT, Nat.zero_add, Int.reduceAdd, Int.reduceLE, Int.reduceLT, Int.reduceEq, and_self, Int.reduceNeg, qrok_i, qrok_b0, qrok_b1, qrok_bI, Option.some.injEq, Value.int.injEq, J_bI0, J_bI1, Classical.not_not, Int.zero_add, Int.add_zero, Int.sub_zero, false_and, and_false, and_true, true_and, e_0, v_0, e_1, v_1, e_13, v_13, e_14, v_14, e_15, v_15, e_40, c_0, c_1, r_PR_mostDigit_0, r_PR_mostDigit_1, r_PR_mostDigit_4, r_PR_mostDigit_6, r_PR_mostDigit_7, r_PR_mostDigit_8, r_PR_mostDigit_9, r_PR_mostDigit_12, r_PR_mostDigit_13, r_PR_mostDigit_15, r_PR_mostDigit_18, r_PR_mostDigit_19, r_PR_mostDigit_21, r_PR_mostDigit_24, r_PR_mostDigit_26, r_PR_mostDigit_29, r_PR_mostDigit_31, r_PR_mostDigit_32, r_PR_mostDigit_34, sv_k hS, sv_0 hS, sv_1 hS, sv_k1 hS, sv_n hS, sv_2 hS, sv_k2 hS, sv_b, sv_4, sv_5 hS, sv_k7 hS, sv_r hS, sv_kr hS, sv_7 hS, sv_k8 hS, sv_10 hS, sv_k9 hS, sv_11 hS, sv_k10 hS, sn_k hS, sn_4 hS, sn_k1 hS, sn_6 hS, sn_k2 hS, sn_24 hS, sn_k3 hS, sn_9 hS, sn_k4 hS, sn_13 hS, sn_k5 hS, sn_14 hS, sn_k6 hS, sn_15 hS, sn_k7 hS, sl_k hS, sl_2 hS, sl_k4 hS, sl_3 hS, sl_k5 hS, sl_4 hS, sl_k6 hS, sl_5 hS, sl_k7 hS, rn_0, rn_1, rn_2, rn_3, rn_5, rn_7, rn_8, rn_10, rn_11, rn_12, rn_16, rn_17, rn_log, rn_20, rn_21, rn_22, rn_23, rn_sk, rn_key, rn_next, rn_match, rn_heard, rw_3, rw_6, rw_8, rw_9, rw_12, rw_13, rw_14, rw_15, rw_he, rw_ld, rw_cu, rr_0, rr_1, rr_2, rr_3, rr_4, rr_5, su_2, su_8, su_10, su_12, su_16, su_17, su_20, su_21, su_22, su_23, su_sk, su_key, su_next, su_match, su_heard, su_3m, su_3, su_11m, su_11, su_7, sw_3, sw_8, sw_12, sw_13, sw_14, sw_15, sw_ld, sw_cu, sr_0, sr_5, I_val, I_add, I_sub, I_mul, inB, beq_iff_eq, or_false, false_or, u1_ne, u1_same, nd_u1, nd_u1s, lpS_u1, Bool.or_eq_true, Bool.or_false, Bool.false_or, bI_z, mnI_I, mxI_I]
    repeat' (first | with_reducible apply And.intro | intro _)
    all_goals (try clear kK)
    all_goals first | omega | exact rfl | trivial
end CS
