/-! the world's cells; shapes of the class's objects -/
section Uw
variable {w p A : Nat} {S S' : qN} {g g' : qI} {n i k e v : Int}
def ceW (k e : Int) : Prop := (k = 3 ∧ e = 11133) ∨ (k = 8 ∧ e = 11134) ∨ (k = 12 ∧ e = 11131) ∨ (k = 13 ∧ e = 11132) ∨ (k = 14 ∧ e = 11136) ∨ (k = 15 ∧ e = 11137)
theorem rd_u1 {x : Int} (h : e < 11028 ∨ 11135 < e ∨ (11124 ≤ e ∧ e < 11135)) (hi : 0 ≤ i ∧ i < 16) : rdC (u1 S e v) i k x = rdC S i k x := by
  unfold rdC
  rw [u1_ne (show (11135 : Int) ≠ e by omega), u1_ne (show 11028 + 6 * i + 4 ≠ e by omega), u1_ne (show 11028 + 6 * i ≠ e by omega), u1_ne (show 11028 + 6 * i + 1 ≠ e by omega), u1_ne (show 11028 + 6 * i + 2 ≠ e by omega), u1_ne (show 11028 + 6 * i + 3 ≠ e by omega), u1_ne (show 11028 + 6 * i + 5 ≠ e by omega)]
theorem he_u1 {x : Int} (h : e < 6028 ∨ 10028 ≤ e) : heC (u1 S e v) k x = heC S k x := by
  unfold heC pk
  by_cases hk : 1 ≤ k ∧ k ≤ 999
  · rw [u1_ne (show 6028 + 4 * k ≠ e by omega), u1_ne (show 6028 + 4 * k + 1 ≠ e by omega), u1_ne (show 6028 + 4 * k + 2 ≠ e by omega), u1_ne (show 6028 + 4 * k + 3 ≠ e by omega)]
  · rw [if_neg hk, if_neg hk]
theorem hcnt_u1 (h : e < 6028 ∨ 10028 ≤ e) : hcnt (u1 S e v) = hcnt S := hcnt_c (fun j a b => u1_ne (by omega))
theorem up_cw (h : ceW k e) : up (mkC w S g) w k v = mkC w (u1 S e v) g := by
  have he : 11131 ≤ e ∧ e ≤ 11137 ∧ e ≠ 11135 := by unfold ceW at h; omega
  refine up_W (Or.inl rfl) (fun j a b => u1_ne (by omega)) (fun k' => ?_) (fun k' => ?_) (fun k' => ?_) (fun k' => ?_) (fun i k' a b => ?_)
  · unfold wlC
    rw [hcnt_u1 (by omega)]
    unfold ceW at h
    rcases h with ⟨rfl, rfl⟩ | ⟨rfl, rfl⟩ | ⟨rfl, rfl⟩ | ⟨rfl, rfl⟩ | ⟨rfl, rfl⟩ | ⟨rfl, rfl⟩ <;> simp only [u1] <;> grind (splits := 60)
  · rw [if_neg (by omega), he_u1 (by omega)]
  · rw [if_neg (show ¬ (w + 9 = w ∧ k' = k) by omega)]
    by_cases hk : 0 ≤ k' ∧ k' ≤ 999
    · rw [u1_ne (by omega)]
    · rw [if_neg hk, if_neg hk]
  · rw [if_neg (show ¬ (w + 10 = w ∧ k' = k) by omega)]
    by_cases hk : 0 ≤ k' ∧ k' ≤ 6
    · rw [u1_ne (by omega)]
    · rw [if_neg hk, if_neg hk]
  · rw [if_neg (by unfold rdA; omega), rd_u1 (by omega) ⟨a, b⟩]
theorem up_ld (hk : 0 ≤ k ∧ k ≤ 999) : up (mkC w S g) (w + 9) k (ldV v) = mkC w (u1 S (10028 + k) v) g := by
  refine up_W (Or.inr (Or.inr (Or.inl rfl))) (fun j a b => u1_ne (by omega)) (fun k' => ?_) (fun k' => ?_) (fun k' => ?_) (fun k' => ?_) (fun i k' a b => ?_)
  · rw [if_neg (by omega)]
    unfold wlC
    rw [hcnt_u1 (by omega), u1_ne (by omega), u1_ne (by omega), u1_ne (by omega), u1_ne (by omega), u1_ne (by omega), u1_ne (by omega), u1_ne (by omega)]
  · rw [if_neg (by omega), he_u1 (by omega)]
  · by_cases h1 : k' = k
    · subst h1
      rw [if_pos hk, if_pos (show w + 9 = w + 9 ∧ k' = k' from ⟨rfl, rfl⟩), u1_same]
    · rw [if_neg (show ¬ (w + 9 = w + 9 ∧ k' = k) by omega)]
      by_cases h2 : 0 ≤ k' ∧ k' ≤ 999
      · rw [u1_ne (by omega)]
      · rw [if_neg h2, if_neg h2]
  · rw [if_neg (show ¬ (w + 10 = w + 9 ∧ k' = k) by omega)]
    by_cases h2 : 0 ≤ k' ∧ k' ≤ 6
    · rw [u1_ne (by omega)]
    · rw [if_neg h2, if_neg h2]
  · rw [if_neg (by unfold rdA; omega), rd_u1 (by omega) ⟨a, b⟩]
theorem up_cu (hk : 0 ≤ k ∧ k ≤ 6) : up (mkC w S g) (w + 10) k v = mkC w (u1 S (11124 + k) v) g := by
  refine up_W (Or.inr (Or.inr (Or.inr (Or.inl rfl)))) (fun j a b => u1_ne (by omega)) (fun k' => ?_) (fun k' => ?_) (fun k' => ?_) (fun k' => ?_) (fun i k' a b => ?_)
  · rw [if_neg (by omega)]
    unfold wlC
    rw [hcnt_u1 (by omega), u1_ne (by omega), u1_ne (by omega), u1_ne (by omega), u1_ne (by omega), u1_ne (by omega), u1_ne (by omega), u1_ne (by omega)]
  · rw [if_neg (by omega), he_u1 (by omega)]
  · rw [if_neg (show ¬ (w + 9 = w + 10 ∧ k' = k) by omega)]
    by_cases h1 : 0 ≤ k' ∧ k' ≤ 999
    · rw [u1_ne (by omega)]
    · rw [if_neg h1, if_neg h1]
  · by_cases h1 : k' = k
    · subst h1
      rw [if_pos hk, if_pos (show w + 10 = w + 10 ∧ k' = k' from ⟨rfl, rfl⟩), u1_same]
    · rw [if_neg (show ¬ (w + 10 = w + 10 ∧ k' = k) by omega)]
      by_cases h2 : 0 ≤ k' ∧ k' ≤ 6
      · rw [u1_ne (by omega)]
      · rw [if_neg h2, if_neg h2]
  · rw [if_neg (by unfold rdA; omega), rd_u1 (by omega) ⟨a, b⟩]
/-- a READ's cells: state, value -/
theorem up_rd (hi : 0 ≤ i ∧ i < 16) (h : i < S 11135) (hk : (k = 0 ∧ e = 4) ∨ (k = 5 ∧ e = 5)) : up (mkC w S g) (rdA w i) k v = mkC w (u1 S (11028 + 6 * i + e) v) g := by
  refine up_W (Or.inr (Or.inr (Or.inr (Or.inr ⟨i, hi, rfl⟩)))) (fun j a b => u1_ne (by omega)) (fun k' => ?_) (fun k' => ?_) (fun k' => ?_) (fun k' => ?_) (fun j k' a b => ?_)
  · rw [if_neg (by unfold rdA; omega)]
    unfold wlC
    rw [hcnt_u1 (by omega), u1_ne (by omega), u1_ne (by omega), u1_ne (by omega), u1_ne (by omega), u1_ne (by omega), u1_ne (by omega), u1_ne (by omega)]
  · rw [if_neg (by unfold rdA; omega), he_u1 (by omega)]
  · rw [if_neg (show ¬ (w + 9 = rdA w i ∧ k' = k) by unfold rdA; omega)]
    by_cases h1 : 0 ≤ k' ∧ k' ≤ 999
    · rw [u1_ne (by omega)]
    · rw [if_neg h1, if_neg h1]
  · rw [if_neg (show ¬ (w + 10 = rdA w i ∧ k' = k) by unfold rdA; omega)]
    by_cases h1 : 0 ≤ k' ∧ k' ≤ 6
    · rw [u1_ne (by omega)]
    · rw [if_neg h1, if_neg h1]
  · by_cases hj : j = i
    · subst hj
      unfold rdC
      rw [u1_ne (show (11135 : Int) ≠ 11028 + 6 * j + e by omega), if_pos h]
      rcases hk with ⟨rfl, rfl⟩ | ⟨rfl, rfl⟩ <;> simp only [u1] <;> grind (splits := 60)
    · rw [if_neg (by unfold rdA; omega)]
      unfold rdC
      rw [u1_ne (show (11135 : Int) ≠ 11028 + 6 * i + e by omega), u1_ne (show 11028 + 6 * j + 4 ≠ 11028 + 6 * i + e by omega), u1_ne (show 11028 + 6 * j ≠ 11028 + 6 * i + e by omega), u1_ne (show 11028 + 6 * j + 1 ≠ 11028 + 6 * i + e by omega), u1_ne (show 11028 + 6 * j + 2 ≠ 11028 + 6 * i + e by omega), u1_ne (show 11028 + 6 * j + 3 ≠ 11028 + 6 * i + e by omega), u1_ne (show 11028 + 6 * j + 5 ≠ 11028 + 6 * i + e by omega)]
end Uw
/-! shapes -/
def ShL (s : qS) : Prop := kd s 3 = (0, 0) ∧ (rf s 3 2 = 4 ∧ kd s 4 = (100, 320)) ∧ (rf s 3 3 = 5 ∧ kd s 5 = (100, 320)) ∧ (rf s 3 4 = 6 ∧ kd s 6 = (100, 8)) ∧ (rf s 3 5 = 7 ∧ kd s 7 = (100, 64))
def ShN (s : qS) (w : Nat) (n : Int) : Prop := kd s (ndA w n 0) = (3, 0) ∧ (rf s (ndA w n 0) 4 = ndA w n 1 ∧ kd s (ndA w n 1) = (100, 48)) ∧ (rf s (ndA w n 0) 6 = ndA w n 2 ∧ kd s (ndA w n 2) = (6, 0)) ∧ (rf s (ndA w n 2) 4 = ndA w n 3 ∧ kd s (ndA w n 3) = (100, 8)) ∧ (rf s (ndA w n 0) 9 = ndA w n 4 ∧ kd s (ndA w n 4) = (100, 8)) ∧
  (rf s (ndA w n 0) 13 = ndA w n 5 ∧ kd s (ndA w n 5) = (100, 7)) ∧ (rf s (ndA w n 0) 14 = ndA w n 6 ∧ kd s (ndA w n 6) = (100, 7)) ∧ (rf s (ndA w n 0) 15 = ndA w n 7 ∧ kd s (ndA w n 7) = (100, 7))
def ShG (s : qS) (o : Nat) : Prop := kd s o = (2, 0) ∧ (rf s o 10 = o + 1 ∧ kd s (o + 1) = (100, 4)) ∧ (rf s o 12 = o + 2 ∧ kd s (o + 2) = (6, 0)) ∧ (rf s (o + 2) 4 = o + 3 ∧ kd s (o + 3) = (100, 8))
def isMO (w o : Nat) : Prop := o = w + 3 ∨ ∃ i : Nat, i ≤ 160 ∧ o = w + 67 + 4 * i
def bx (s : qS) (w : Nat) (i : Int) : Nat := rf s (w + 2) i
def inh (s : qS) (w : Nat) : Nat := rf s w 4
def ShB (s : qS) (w : Nat) : Prop := (∀ i, 0 ≤ i → i ≤ 160 → isMO w (bx s w i) ∧ bx s w i ≠ inh s w) ∧ isMO w (inh s w) ∧ ∀ i j, 0 ≤ i → i < j → j ≤ 160 → bx s w i ≠ bx s w j
def ShV (s : qS) (w : Nat) : Prop := kd s w = (7, 0) ∧ rf s w 0 = 3 ∧ (rf s w 1 = w + 1 ∧ kd s (w + 1) = (102, 7)) ∧ (∀ n, 0 ≤ n → n ≤ 6 → rf s (w + 1) n = ndA w n 0) ∧ (rf s w 2 = w + 2 ∧ kd s (w + 2) = (103, 161)) ∧ (rf s w 5 = w + 7 ∧ kd s (w + 7) = (104, 16)) ∧ (∀ i, 0 ≤ i → i < 16 → rf s (w + 7) i = rdA w i ∧ kd s (rdA w i) = (5, 0)) ∧
  (rf s w 7 = w + 8 ∧ kd s (w + 8) = (100, 1000)) ∧ (rf s w 10 = w + 9 ∧ kd s (w + 9) = (100, 1000)) ∧ (rf s w 11 = w + 10 ∧ kd s (w + 10) = (100, 7)) ∧ (∀ n, 0 ≤ n → n ≤ 6 → ShN s w n) ∧ (∀ o, isMO w o → ShG s o)
def ShW (s : qS) (w : Nat) : Prop := ShV s w ∧ ShB s w ∧ ShL s
section Sh
variable {s : qS} {m : qI} {w : Nat} {n i : Int} {o : Nat}
theorem sv_k (h : ShW s w) : hK (mkH s m) w = (7, 0) := h.1.1
theorem sv_0 (h : ShW s w) : hR (mkH s m) w 0 = 3 := h.1.2.1
theorem sv_1 (h : ShW s w) : hR (mkH s m) w 1 = w + 1 := h.1.2.2.1.1
theorem sv_k1 (h : ShW s w) : hK (mkH s m) (w + 1) = (102, 7) := h.1.2.2.1.2
theorem sv_n (h : ShW s w) (hn : 0 ≤ n ∧ n ≤ 6) : hR (mkH s m) (w + 1) n = ndA w n 0 := h.1.2.2.2.1 n hn.1 hn.2
theorem sv_2 (h : ShW s w) : hR (mkH s m) w 2 = w + 2 := h.1.2.2.2.2.1.1
theorem sv_k2 (h : ShW s w) : hK (mkH s m) (w + 2) = (103, 161) := h.1.2.2.2.2.1.2
theorem sv_b : hR (mkH s m) (w + 2) i = bx s w i := nrfl rfl
theorem sv_4 : hR (mkH s m) w 4 = inh s w := nrfl rfl
theorem sv_5 (h : ShW s w) : hR (mkH s m) w 5 = w + 7 := h.1.2.2.2.2.2.1.1
theorem sv_k7 (h : ShW s w) : hK (mkH s m) (w + 7) = (104, 16) := h.1.2.2.2.2.2.1.2
theorem sv_r (h : ShW s w) (hi : 0 ≤ i ∧ i < 16) : hR (mkH s m) (w + 7) i = rdA w i := (h.1.2.2.2.2.2.2.1 i hi.1 hi.2).1
theorem sv_kr (h : ShW s w) (hi : 0 ≤ i ∧ i < 16) : hK (mkH s m) (rdA w i) = (5, 0) := (h.1.2.2.2.2.2.2.1 i hi.1 hi.2).2
theorem sv_7 (h : ShW s w) : hR (mkH s m) w 7 = w + 8 := h.1.2.2.2.2.2.2.2.1.1
theorem sv_k8 (h : ShW s w) : hK (mkH s m) (w + 8) = (100, 1000) := h.1.2.2.2.2.2.2.2.1.2
theorem sv_10 (h : ShW s w) : hR (mkH s m) w 10 = w + 9 := h.1.2.2.2.2.2.2.2.2.1.1
theorem sv_k9 (h : ShW s w) : hK (mkH s m) (w + 9) = (100, 1000) := h.1.2.2.2.2.2.2.2.2.1.2
theorem sv_11 (h : ShW s w) : hR (mkH s m) w 11 = w + 10 := h.1.2.2.2.2.2.2.2.2.2.1.1
theorem sv_k10 (h : ShW s w) : hK (mkH s m) (w + 10) = (100, 7) := h.1.2.2.2.2.2.2.2.2.2.1.2
theorem sv_N (h : ShW s w) (hn : 0 ≤ n ∧ n ≤ 6) : ShN s w n := h.1.2.2.2.2.2.2.2.2.2.2.1 n hn.1 hn.2
theorem sv_G (h : ShW s w) (ho : isMO w o) : ShG s o := h.1.2.2.2.2.2.2.2.2.2.2.2 o ho
theorem sn_k (h : ShW s w) (hn : 0 ≤ n ∧ n ≤ 6) : hK (mkH s m) (ndA w n 0) = (3, 0) := (sv_N h hn).1
theorem sn_4 (h : ShW s w) (hn : 0 ≤ n ∧ n ≤ 6) : hR (mkH s m) (ndA w n 0) 4 = ndA w n 1 := (sv_N h hn).2.1.1
theorem sn_k1 (h : ShW s w) (hn : 0 ≤ n ∧ n ≤ 6) : hK (mkH s m) (ndA w n 1) = (100, 48) := (sv_N h hn).2.1.2
theorem sn_6 (h : ShW s w) (hn : 0 ≤ n ∧ n ≤ 6) : hR (mkH s m) (ndA w n 0) 6 = ndA w n 2 := (sv_N h hn).2.2.1.1
theorem sn_k2 (h : ShW s w) (hn : 0 ≤ n ∧ n ≤ 6) : hK (mkH s m) (ndA w n 2) = (6, 0) := (sv_N h hn).2.2.1.2
theorem sn_24 (h : ShW s w) (hn : 0 ≤ n ∧ n ≤ 6) : hR (mkH s m) (ndA w n 2) 4 = ndA w n 3 := (sv_N h hn).2.2.2.1.1
theorem sn_k3 (h : ShW s w) (hn : 0 ≤ n ∧ n ≤ 6) : hK (mkH s m) (ndA w n 3) = (100, 8) := (sv_N h hn).2.2.2.1.2
theorem sn_9 (h : ShW s w) (hn : 0 ≤ n ∧ n ≤ 6) : hR (mkH s m) (ndA w n 0) 9 = ndA w n 4 := (sv_N h hn).2.2.2.2.1.1
theorem sn_k4 (h : ShW s w) (hn : 0 ≤ n ∧ n ≤ 6) : hK (mkH s m) (ndA w n 4) = (100, 8) := (sv_N h hn).2.2.2.2.1.2
theorem sn_13 (h : ShW s w) (hn : 0 ≤ n ∧ n ≤ 6) : hR (mkH s m) (ndA w n 0) 13 = ndA w n 5 := (sv_N h hn).2.2.2.2.2.1.1
theorem sn_k5 (h : ShW s w) (hn : 0 ≤ n ∧ n ≤ 6) : hK (mkH s m) (ndA w n 5) = (100, 7) := (sv_N h hn).2.2.2.2.2.1.2
theorem sn_14 (h : ShW s w) (hn : 0 ≤ n ∧ n ≤ 6) : hR (mkH s m) (ndA w n 0) 14 = ndA w n 6 := (sv_N h hn).2.2.2.2.2.2.1.1
theorem sn_k6 (h : ShW s w) (hn : 0 ≤ n ∧ n ≤ 6) : hK (mkH s m) (ndA w n 6) = (100, 7) := (sv_N h hn).2.2.2.2.2.2.1.2
theorem sn_15 (h : ShW s w) (hn : 0 ≤ n ∧ n ≤ 6) : hR (mkH s m) (ndA w n 0) 15 = ndA w n 7 := (sv_N h hn).2.2.2.2.2.2.2.1
theorem sn_k7 (h : ShW s w) (hn : 0 ≤ n ∧ n ≤ 6) : hK (mkH s m) (ndA w n 7) = (100, 7) := (sv_N h hn).2.2.2.2.2.2.2.2
theorem sg_k (h : ShW s w) (ho : isMO w o) : hK (mkH s m) o = (2, 0) := (sv_G h ho).1
theorem sg_10 (h : ShW s w) (ho : isMO w o) : hR (mkH s m) o 10 = o + 1 := (sv_G h ho).2.1.1
theorem sg_k1 (h : ShW s w) (ho : isMO w o) : hK (mkH s m) (o + 1) = (100, 4) := (sv_G h ho).2.1.2
theorem sg_12 (h : ShW s w) (ho : isMO w o) : hR (mkH s m) o 12 = o + 2 := (sv_G h ho).2.2.1.1
theorem sg_k2 (h : ShW s w) (ho : isMO w o) : hK (mkH s m) (o + 2) = (6, 0) := (sv_G h ho).2.2.1.2
theorem sg_24 (h : ShW s w) (ho : isMO w o) : hR (mkH s m) (o + 2) 4 = o + 3 := (sv_G h ho).2.2.2.1
theorem sg_k3 (h : ShW s w) (ho : isMO w o) : hK (mkH s m) (o + 3) = (100, 8) := (sv_G h ho).2.2.2.2
theorem sl_k (h : ShW s w) : hK (mkH s m) 3 = (0, 0) := h.2.2.1
theorem sl_2 (h : ShW s w) : hR (mkH s m) 3 2 = 4 := h.2.2.2.1.1
theorem sl_k4 (h : ShW s w) : hK (mkH s m) 4 = (100, 320) := h.2.2.2.1.2
theorem sl_3 (h : ShW s w) : hR (mkH s m) 3 3 = 5 := h.2.2.2.2.1.1
theorem sl_k5 (h : ShW s w) : hK (mkH s m) 5 = (100, 320) := h.2.2.2.2.1.2
theorem sl_4 (h : ShW s w) : hR (mkH s m) 3 4 = 6 := h.2.2.2.2.2.1.1
theorem sl_k6 (h : ShW s w) : hK (mkH s m) 6 = (100, 8) := h.2.2.2.2.2.1.2
theorem sl_5 (h : ShW s w) : hR (mkH s m) 3 5 = 7 := h.2.2.2.2.2.2.1
theorem sl_k7 (h : ShW s w) : hK (mkH s m) 7 = (100, 64) := h.2.2.2.2.2.2.2
end Sh
