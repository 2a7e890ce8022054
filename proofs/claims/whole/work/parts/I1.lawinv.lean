/-! a law's text: its codes are sound -/
def dlF (o : Int) : Int := if o = 0 ∨ o = 1 then 1 else if o = 10 then 0 else -1
def hDn (C : qN) (fr : Int) : Nat → Int
  | 0 => 0
  | j + 1 => hDn C fr j + dlF (C (fr + j) / 1048576)
/-- the height of the stack at a place -/
def hD (C : qN) (fr k : Int) : Int := hDn C fr (k - fr).toNat
def bBq (C : qN) (fr k : Int) : Prop := fr < k ∧ 7 ≤ C (k - 1) / 1048576 ∧ C (k - 1) / 1048576 ≤ 10
def isJ (e : Int × Int × Int) : Prop := e.1 = 11 ∨ e.1 = 12
def Wai (Y : List (Int × Int × Int)) (k : Int) : Prop := ∃ e ∈ Y, isJ e ∧ e.2.1 = k
def Lnd (C Ar : qN) (b fr m k : Int) : Prop := (k < C k % 1048576 ∧ C k % 1048576 ≤ m ∧ hD C fr (C k % 1048576) = hD C fr k) ∧ Ar (b + (k - fr)) = b + (C k % 1048576 - fr)
def SgK (C St Ar : qN) (Y : List (Int × Int × Int)) (b fr m k : Int) : Prop :=
  (0 ≤ C k ∧ C k ≤ 100000000 ∧ 0 ≤ hD C fr k ∧ hD C fr k ≤ 40) ∧ (St (b + (k - fr)) = opm (C k / 1048576) ∧ (C k / 1048576 = 0 ∨ C k / 1048576 = 1 → Ar (b + (k - fr)) = C k % 1048576)) ∧
  (C k / 1048576 = 0 ∨ (C k / 1048576 = 1 ∧ C k % 1048576 ≤ 6) ∨ (C k / 1048576 = 10 ∧ 1 ≤ hD C fr k ∧ bBq C fr k) ∨ ((C k / 1048576 = 11 ∨ C k / 1048576 = 12) ∧ 1 ≤ hD C fr k ∧ bBq C fr k ∧ (Wai Y k ∨ Lnd C Ar b fr m k)) ∨ ((2 ≤ C k / 1048576 ∧ C k / 1048576 ≤ 9) ∧ 2 ≤ hD C fr k))
def SgP (C St Ar : qN) (Y : List (Int × Int × Int)) (b fr m : Int) : Prop := ∀ k, fr ≤ k → k < m → SgK C St Ar Y b fr m k
section Sg
variable {C C' St Ar : qN} {Y Y' : List (Int × Int × Int)} {b fr m k h o a k' : Int}
theorem hD_0 : hD C fr fr = 0 := by unfold hD; rw [Int.sub_self]; rfl
theorem hD_s (h : fr ≤ k) : hD C fr (k + 1) = hD C fr k + dlF (C k / 1048576) := by
  unfold hD
  rw [show (k + 1 - fr).toNat = (k - fr).toNat + 1 by omega, hDn, show fr + (((k - fr).toNat : Nat) : Int) = k by omega]
theorem hDn_c : ∀ (j : Nat), (∀ i, fr ≤ i → i < fr + j → C' i / 1048576 = C i / 1048576) → hDn C' fr j = hDn C fr j
  | 0, _ => rfl
  | j + 1, h => by rw [hDn, hDn, hDn_c j (fun i a b => h i a (by omega)), h (fr + j) (by omega) (by omega)]
theorem hD_c (h : ∀ i, fr ≤ i → i < k → C' i / 1048576 = C i / 1048576) : hD C' fr k = hD C fr k := hDn_c _ (fun i a b => h i a (by omega))
theorem bB_c (h : ∀ i, fr ≤ i → i < k → C' i / 1048576 = C i / 1048576) (hb : bBq C fr k) : bBq C' fr k := by
  unfold bBq at hb ⊢
  rw [h (k - 1) (by omega) (by omega)]; exact hb
theorem Sg_wf (h : SgP C St Ar [] b fr m) (hf : fr ≤ m) (hd : hD C fr m = 1) : wfC C (hD C fr) (bBq C fr) fr m := by
  refine ⟨hD_0, fun z => by have := z.1; omega, hd, fun k h1 h2 => ?_⟩
  obtain ⟨b1, -, b3⟩ := h k h1 h2
  have hs := hD_s (C := C) h1
  have hB : bBq C fr (k + 1) → 7 ≤ C k / 1048576 ∧ C k / 1048576 ≤ 10 := fun z => by
    have := z.2
    rwa [show k + 1 - 1 = k by omega] at this
  refine ⟨b1, ?_⟩
  rcases b3 with e | ⟨e, e2⟩ | ⟨e, e2, e3⟩ | ⟨e, e2, e3, e4⟩ | ⟨e, e2⟩
  · refine Or.inl ⟨e, ?_, fun z => ?_⟩
    · rw [hs, e]; rfl
    · have := hB z; omega
  · refine Or.inr (Or.inl ⟨e, e2, ?_, fun z => ?_⟩)
    · rw [hs, e]; rfl
    · have := hB z; omega
  · refine Or.inr (Or.inr (Or.inl ⟨e, e2, ?_, e3⟩))
    rw [hs, e]; show _ + 0 = _; omega
  · refine Or.inr (Or.inr (Or.inr (Or.inl ⟨e, e2, ?_, fun z => ?_, e3, ?_⟩)))
    · rw [hs]
      rcases e with e | e <;> (rw [e]; rfl)
    · have := hB z; omega
    · rcases e4 with ⟨e', he, -⟩ | ⟨e4, -⟩
      · exact absurd he (by simp)
      · exact e4
  · have dl : dlF (C k / 1048576) = -1 := by unfold dlF; rw [if_neg (by omega), if_neg (by omega)]
    by_cases q : C k / 1048576 ≤ 6
    · exact Or.inr (Or.inr (Or.inr (Or.inr (Or.inl ⟨⟨e.1, q⟩, e2, by rw [hs, dl]; rfl, fun z => by have := hB z; omega⟩))))
    · exact Or.inr (Or.inr (Or.inr (Or.inr (Or.inr ⟨⟨by omega, e.2⟩, e2, by rw [hs, dl]; rfl⟩))))
theorem Sg_seg {c : qI} (h4 : c 4 = St) (h5 : c 5 = Ar) (h : SgP C St Ar [] b fr m) : SegC c C b fr m := by
  intro k h1 h2
  obtain ⟨-, ⟨b1, b2⟩, b3⟩ := h k h1 h2
  rw [h4, h5]
  refine ⟨b1, b2, fun q => ?_⟩
  rcases b3 with e | ⟨e, -⟩ | ⟨e, -⟩ | ⟨e, e2, e3, e4⟩ | ⟨e, -⟩
  · omega
  · omega
  · omega
  · rcases e4 with ⟨e', he, -⟩ | e4
    · exact absurd he (by simp)
    · exact e4.2
  · omega
/-- a code more -/
theorem Sg_em (h : SgP C St Ar Y b fr m) (hf : fr ≤ m) (ho : 0 ≤ o ∧ o ≤ 12) (ha : 0 ≤ a ∧ a < 1048576) (hY : ∀ k, Wai Y k → Wai Y' k) (h40 : 0 ≤ hD C fr m ∧ hD C fr m ≤ 40)
    (hop : o = 0 ∨ (o = 1 ∧ a ≤ 6) ∨ (o = 10 ∧ 1 ≤ hD C fr m ∧ bBq C fr m) ∨ ((o = 11 ∨ o = 12) ∧ 1 ≤ hD C fr m ∧ bBq C fr m ∧ Wai Y' m) ∨ ((2 ≤ o ∧ o ≤ 9) ∧ 2 ≤ hD C fr m)) :
    SgP (u1 C m (1048576 * o + a)) (u1 St (b + (m - fr)) (opm o)) (u1 Ar (b + (m - fr)) a) Y' b fr (m + 1) := by
  intro k h1 h2
  have hc : ∀ j, j ≤ m → hD (u1 C m (1048576 * o + a)) fr j = hD C fr j := fun j hj => hD_c (fun i _ i2 => by rw [u1_ne (by omega)])
  have hb : ∀ j, j ≤ m → bBq C fr j → bBq (u1 C m (1048576 * o + a)) fr j := fun j hj => bB_c (fun i _ i2 => by rw [u1_ne (by omega)])
  by_cases q : k = m
  · subst q
    have e1 : (1048576 * o + a) / 1048576 = o := by omega
    have e2 : (1048576 * o + a) % 1048576 = a := by omega
    unfold SgK Lnd
    rw [hc k (by omega), u1_same, u1_same, u1_same, e1, e2]
    refine ⟨by omega, ⟨rfl, fun _ => rfl⟩, ?_⟩
    rcases hop with e | ⟨e, e2⟩ | ⟨e, e2, e3⟩ | ⟨e, e2, e3, e4⟩ | ⟨e, e2⟩
    · exact Or.inl e
    · exact Or.inr (Or.inl ⟨e, e2⟩)
    · exact Or.inr (Or.inr (Or.inl ⟨e, e2, hb k (by omega) e3⟩))
    · exact Or.inr (Or.inr (Or.inr (Or.inl ⟨e, e2, hb k (by omega) e3, Or.inl e4⟩)))
    · exact Or.inr (Or.inr (Or.inr (Or.inr ⟨e, e2⟩)))
  · obtain ⟨b1, b2, b3⟩ := h k h1 (by omega)
    have e0 : b + (k - fr) ≠ b + (m - fr) := by omega
    unfold SgK Lnd
    rw [hc k (by omega), u1_ne q, u1_ne e0, u1_ne e0]
    refine ⟨b1, b2, ?_⟩
    rcases b3 with e | ⟨e, e2⟩ | ⟨e, e2, e3⟩ | ⟨e, e2, e3, e4⟩ | ⟨e, e2⟩
    · exact Or.inl e
    · exact Or.inr (Or.inl ⟨e, e2⟩)
    · exact Or.inr (Or.inr (Or.inl ⟨e, e2, hb k (by omega) e3⟩))
    · refine Or.inr (Or.inr (Or.inr (Or.inl ⟨e, e2, hb k (by omega) e3, ?_⟩)))
      rcases e4 with e4 | ⟨⟨e4, e5, e6⟩, e7⟩
      · exact Or.inl (hY k e4)
      · exact Or.inr ⟨⟨e4, by omega, by rw [hc _ e5]; exact e6⟩, e7⟩
    · exact Or.inr (Or.inr (Or.inr (Or.inr ⟨e, e2⟩)))
/-- a leap is aimed -/
theorem ln_op (hC : C k = 1048576 * o) (ho : 0 ≤ o) (hm : 0 ≤ m ∧ m < 1048576) : (∀ i, u1 C k (C k / 1048576 * 1048576 + m) i / 1048576 = C i / 1048576) ∧ u1 C k (C k / 1048576 * 1048576 + m) k % 1048576 = m := by
  refine ⟨fun i => ?_, by rw [u1_same]; omega⟩
  by_cases q : i = k
  · subst q; rw [u1_same]; omega
  · rw [u1_ne q]
theorem Sg_ln (h : SgP C St Ar ((o, k, k') :: Y) b fr m) (hk : fr ≤ k ∧ k < m) (hk' : k' = b + (k - fr)) (ho : o = 11 ∨ o = 12) (hC : C k = 1048576 * o) (hm : 0 ≤ m ∧ m < 1048576) (hd : hD C fr m = hD C fr k) :
    SgP (u1 C k (C k / 1048576 * 1048576 + m)) St (u1 Ar k' (b + (m - fr))) Y b fr m := by
  obtain ⟨L1, L2⟩ := ln_op (C := C) (k := k) (o := o) (m := m) hC (by omega) hm
  have L3 : ∀ i, i ≠ k → u1 C k (C k / 1048576 * 1048576 + m) i = C i := fun i q => u1_ne q
  have L4 : u1 C k (C k / 1048576 * 1048576 + m) k ≤ 100000000 ∧ 0 ≤ u1 C k (C k / 1048576 * 1048576 + m) k := by rw [u1_same]; omega
  generalize u1 C k (C k / 1048576 * 1048576 + m) = C' at *
  have hc : ∀ j, hD C' fr j = hD C fr j := fun j => hD_c (fun i _ _ => L1 i)
  have hb : ∀ j, bBq C fr j → bBq C' fr j := fun j => bB_c (fun i _ _ => L1 i)
  intro i h1 h2
  obtain ⟨b1, b2, b3⟩ := h i h1 h2
  unfold SgK Lnd
  rw [hc i]
  by_cases q : i = k
  · subst q
    have e9 : C i / 1048576 = o := by omega
    refine ⟨by omega, ⟨by rw [L1]; exact b2.1, fun z => by rw [L1] at z; omega⟩, ?_⟩
    rw [L1, L2]
    rcases b3 with e | ⟨e, e2⟩ | ⟨e, e2, e3⟩ | ⟨e, e2, e3, e4⟩ | ⟨e, e2⟩
    · omega
    · omega
    · omega
    · exact Or.inr (Or.inr (Or.inr (Or.inl ⟨e, e2, hb i e3, Or.inr ⟨⟨h2, by omega, by rw [hc]; exact hd⟩, by rw [hk', u1_same]⟩⟩)))
    · omega
  · rw [L3 i q, u1_ne (by omega)]
    refine ⟨b1, b2, ?_⟩
    rcases b3 with e | ⟨e, e2⟩ | ⟨e, e2, e3⟩ | ⟨e, e2, e3, e4⟩ | ⟨e, e2⟩
    · exact Or.inl e
    · exact Or.inr (Or.inl ⟨e, e2⟩)
    · exact Or.inr (Or.inr (Or.inl ⟨e, e2, hb i e3⟩))
    · refine Or.inr (Or.inr (Or.inr (Or.inl ⟨e, e2, hb i e3, ?_⟩)))
      rcases e4 with ⟨e', f1, f2, f3⟩ | ⟨⟨e4, e5, e6⟩, e7⟩
      · rcases List.mem_cons.mp f1 with rfl | f1
        · exact absurd f3 (fun z => q z.symm)
        · exact Or.inl ⟨e', f1, f2, f3⟩
      · exact Or.inr ⟨⟨e4, e5, by rw [hc]; exact e6⟩, e7⟩
    · exact Or.inr (Or.inr (Or.inr (Or.inr ⟨e, e2⟩)))
/-- codes before a segment's end alone count -/
theorem SgP_0 : SgP C St Ar Y b fr fr := fun k h1 h2 => by omega
end Sg
