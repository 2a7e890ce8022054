/-! the class's world: openRead -/
section Ri
variable {R : Int} {X : qN} {n k x y : Int}
theorem RI_rd6 (ho : OK R X) (hn : 0 ≤ n ∧ n ≤ 6) (h : RI X) (h3 : nd X n 3 = 2) : RI (rd6 X (X 11135) n k x y) := by
  have hA := OK_aOk ho
  unfold aOk at hA
  have v0 : rd6 X (X 11135) n k x y (11028 + 6 * X 11135) = n := by unfold rd6; rw [u1_ne (by omega), u1_ne (by omega), u1_ne (by omega), u1_ne (by omega), u1_ne (by omega), u1_ne (by omega), u1_same]
  have v35 : rd6 X (X 11135) n k x y 11135 = X 11135 + 1 := by unfold rd6; exact u1_same
  intro m m0 m1
  rw [v35] at m1
  by_cases q : m = X 11135
  · intro _
    rw [q, v0]
    unfold nd
    rw [rd6_off (by omega) (by omega)]
    exact h3
  · intro h0
    rw [rd6_off (by omega) (by omega)] at h0
    have q1 := OK_q ho m m0 (by omega)
    rw [rd6_off (j := 11028 + 6 * m) (by omega) (by omega)]
    unfold nd
    rw [rd6_off (by omega) (by omega)]
    exact h m m0 (by omega) h0
theorem rdX_5 {w : Nat} {g : qI} : rdX w X g 11135 = X 11135 + 1 := by unfold rdX; rw [if_pos rfl]
theorem rdX_nd {w : Nat} {g : qI} {e : Int} (h5 : 0 ≤ X 11135) (hn : 0 ≤ n ∧ n ≤ 6) (he : 0 ≤ e ∧ e < 244) : nd (rdX w X g) n e = nd X n e := by unfold nd; exact rdX_off (by omega) (by omega)
end Ri
section CS
variable {l : Launch} {V : qV} {d : Nat} {s : qS} {w : Nat} {S : qN} {c g r : qI} {R n i v : Int} {Q : Option Value → qH → Prop}
theorem su_rc (hw : 8 ≤ w ∧ w ≤ 1462) (hm : 0 ≤ S 11135 ∧ S 11135 < 16) : setM (mkH s (jn (mkC w S g) r)) w 6 (Int32.ofInt (S 11135 + 1)) = mkH s (jn (mkC w (rdX w S g) g) r) := by rw [set_c (by omega), up_rc hm]
theorem sr_1 (hw : 8 ≤ w ∧ w ≤ 1462) (hi : 0 ≤ i ∧ i < 16) (h : i < S 11135) : setM (mkH s (jn (mkC w S g) r)) (rdA w i) 1 (Int32.ofInt v) = mkH s (jn (mkC w (u1 S (11028 + 6 * i + 0) v) g) r) := by rw [set_c (rdA_lt hw hi), up_rk hi h (e := 0) (by omega)]
theorem sr_2 (hw : 8 ≤ w ∧ w ≤ 1462) (hi : 0 ≤ i ∧ i < 16) (h : i < S 11135) : setM (mkH s (jn (mkC w S g) r)) (rdA w i) 2 (Int32.ofInt v) = mkH s (jn (mkC w (u1 S (11028 + 6 * i + 1) v) g) r) := by rw [set_c (rdA_lt hw hi), up_rk hi h (e := 1) (by omega)]
theorem sr_3 (hw : 8 ≤ w ∧ w ≤ 1462) (hi : 0 ≤ i ∧ i < 16) (h : i < S 11135) : setM (mkH s (jn (mkC w S g) r)) (rdA w i) 3 (Int32.ofInt v) = mkH s (jn (mkC w (u1 S (11028 + 6 * i + 2) v) g) r) := by rw [set_c (rdA_lt hw hi), up_rk hi h (e := 2) (by omega)]
theorem sr_4 (hw : 8 ≤ w ∧ w ≤ 1462) (hi : 0 ≤ i ∧ i < 16) (h : i < S 11135) : setM (mkH s (jn (mkC w S g) r)) (rdA w i) 4 (Int32.ofInt v) = mkH s (jn (mkC w (u1 S (11028 + 6 * i + 3) v) g) r) := by rw [set_c (rdA_lt hw hi), up_rk hi h (e := 3) (by omega)]
end CS
