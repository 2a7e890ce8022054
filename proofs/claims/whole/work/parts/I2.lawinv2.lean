/-! a law's text: what holds of every state -/
def xOK : List Int → Prop
  | [] => True
  | a :: X => xOK X ∧ (a = 14 ∨ ((a = 2 ∨ a = 3) ∧ (X = [] ∨ X.head? = some 14)) ∨ ((4 ≤ a ∧ a ≤ 6) ∧ (X = [] ∨ X.head? = some 14 ∨ X.head? = some 2 ∨ X.head? = some 3)))
def nops : List Int → Int
  | [] => 0
  | a :: X => (if a = 14 then 0 else 1) + nops X
def nex : List (Int × Int × Int) → Int
  | [] => 0
  | e :: Y => (if e.1 = 10 then 1 else 0) + nex Y
def yJ (C : qN) (b fr m : Int) (Y : List (Int × Int × Int)) : Prop := ∀ e ∈ Y, isJ e → (fr ≤ e.2.1 ∧ e.2.1 < m) ∧ e.2.2 = b + (e.2.1 - fr) ∧ C e.2.1 = 1048576 * e.1 ∧ hD C fr e.2.1 = 1
def yD : List (Int × Int × Int) → Prop
  | [] => True
  | e :: Y => (isJ e → ∀ e' ∈ Y, isJ e' → e'.2.1 < e.2.1) ∧ yD Y
def yBo : List (Int × Int × Int) → Prop
  | [] => False
  | e :: Y => (Y = [] ∧ e.1 = 13) ∨ yBo Y
def cb (c : Int) : Int := if 7 ≤ c then 1 else 0
def mcF (St Ar : qN) : qI := fun a => if a = 4 then St else if a = 5 then Ar else fun _ => 0
def mrF (C A Fr Ha To : qN) : qI := fun a => if a = 2211 then C else if a = 2212 then A else if a = 2213 then Fr else if a = 2214 then Ha else if a = 2215 then To else fun _ => 0
def LCm (n : Int) (K : LK) (U : LU) (X : List Int) (Y : List (Int × Int × Int)) (c : Int) : Prop := (0 ≤ K.1 ∧ K.1 ≤ n) ∧ (0 ≤ K.2.1 ∧ K.2.1 + (nops X + nex Y + cb c) ≤ K.1) ∧ 0 ≤ U.1 ∧ U.1 ≤ 16
/-- the rules that are over -/
def RDj (K : LK) (U : LU) (mq j : Int) : Prop := RuC (mcF K.2.2.2.2.1 K.2.2.2.2.2) (mrF K.2.2.1 U.2.1 U.2.2.1 U.2.2.2.1 U.2.2.2.2.1) j (U.2.2.2.2.2 j) (U.2.2.2.2.2 (j + 1)) ∧ U.2.2.2.2.2 (j + 1) ≤ U.2.2.2.2.2 U.1 ∧ U.2.2.2.2.1 j ≤ mq
def RDn (K : LK) (U : LU) (mq : Int) : Prop := (U.2.2.2.2.2 0 = 0 ∧ 0 ≤ U.2.2.2.2.2 U.1 ∧ U.2.2.2.2.2 U.1 ≤ 4 * U.1 + mq) ∧ ∀ j, 0 ≤ j → j < U.1 → RDj K U mq j
/-- a rule that has begun: its letter q, its start, where its codes begin -/
def RS (K : LK) (U : LU) : Prop := U.1 < 16 ∧ ltQ (U.2.1 U.1) ∧ (0 ≤ U.2.2.1 U.1 ∧ U.2.2.1 U.1 ≤ K.2.1) ∧ K.2.2.2.2.1 (U.2.2.2.2.2 U.1) = U.2.1 U.1
def eLx (U : LU) : Int := if U.2.1 U.1 = 120 then 1 else 0
def VSg (K : LK) (U : LU) (h : Int) : Prop := U.2.1 U.1 ≠ 120 ∧ K.2.2.2.1 = U.2.2.2.2.2 U.1 + 1 + (K.2.1 - U.2.2.1 U.1) ∧ SgP K.2.2.1 K.2.2.2.2.1 K.2.2.2.2.2 [] (U.2.2.2.2.2 U.1 + 1) (U.2.2.1 U.1) K.2.1 ∧ hD K.2.2.1 (U.2.2.1 U.1) K.2.1 = h
def VXg (K : LK) (U : LU) : Prop := U.2.1 U.1 = 120 ∧ K.2.2.2.1 = U.2.2.2.2.2 U.1 + 2 ∧ K.2.1 = U.2.2.1 U.1 ∧ K.2.2.2.2.1 (U.2.2.2.2.2 U.1 + 1) = 1 ∧ K.2.2.2.2.2 (U.2.2.2.2.2 U.1 + 1) = 1
def VD (K : LK) (U : LU) : Prop := (U.2.2.1 U.1 ≤ U.2.2.2.1 U.1 ∧ U.2.2.2.1 U.1 ≤ K.2.1) ∧ (U.2.1 U.1 = 120 → U.2.2.1 U.1 = U.2.2.2.1 U.1 ∧ K.2.2.2.2.1 (U.2.2.2.2.2 U.1 + 1) = 1 ∧ K.2.2.2.2.2 (U.2.2.2.2.2 U.1 + 1) = 1) ∧ (U.2.1 U.1 ≠ 120 → SgP K.2.2.1 K.2.2.2.2.1 K.2.2.2.2.2 [] (U.2.2.2.2.2 U.1 + 1) (U.2.2.1 U.1) (U.2.2.2.1 U.1) ∧ hD K.2.2.1 (U.2.2.1 U.1) (U.2.2.2.1 U.1) = 1) ∧ K.2.2.2.2.1 (U.2.2.2.2.2 U.1 + 1 + eLx U + (U.2.2.2.1 U.1 - U.2.2.1 U.1)) = 3
def bC (U : LU) : Int := U.2.2.2.2.2 U.1 + 2 + eLx U + (U.2.2.2.1 U.1 - U.2.2.1 U.1)
def CSg (K : LK) (U : LU) (Y : List (Int × Int × Int)) (h : Int) : Prop := VD K U ∧ K.2.2.2.1 = bC U + (K.2.1 - U.2.2.2.1 U.1) ∧ (SgP K.2.2.1 K.2.2.2.2.1 K.2.2.2.2.2 Y (bC U) (U.2.2.2.1 U.1) K.2.1 ∧ hD K.2.2.1 (U.2.2.2.1 U.1) K.2.1 = h) ∧ yJ K.2.2.1 (bC U) (U.2.2.2.1 U.1) K.2.1 Y ∧ yD Y ∧ yBo Y
def SGM (c : Int) (K : LK) (U : LU) (Y : List (Int × Int × Int)) (h : Int) : Prop := (c = 0 ∧ Y = [] ∧ VSg K U h) ∨ ((c = 1 ∨ (7 ≤ c ∧ c ≤ 9)) ∧ CSg K U Y h)
def hdX (X : List Int) : Prop := X = [] ∨ X.head? = some 14
def LVt (t : Nat) (K : LK) (U : LU) (X : List Int) (Y : List (Int × Int × Int)) (c : Int) : Prop :=
  (t ≤ 3 → (RDn K U (U.2.2.1 U.1) ∧ RS K U) ∧ (xOK X ∧ nX X + nY Y ≤ 6) ∧ SGM c K U Y (nops X + cb c + (if t = 0 then 0 else 1)) ∧ (t = 3 → hdX X)) ∧
  (4 ≤ t ∧ t ≤ 8 → (RDn K U (U.2.2.1 U.1) ∧ RS K U) ∧ nY Y ≤ 6 ∧ CSg K U Y (if t = 4 then 0 else 1) ∧ (5 ≤ t → bBq K.2.2.1 (U.2.2.2.1 U.1) K.2.1) ∧ (t = 8 → ∀ e Y', Y = e :: Y' → ¬ isJ e)) ∧
  (t = 9 ∨ t = 11 ∨ t = 13 → RDn K U K.2.1 ∧ K.2.2.2.1 = U.2.2.2.2.2 U.1) ∧
  (t = 10 → (RDn K U (U.2.2.1 U.1) ∧ RS K U) ∧ (VSg K U 1 ∨ VXg K U))
def LV (n : Int) (x : LwS) : Prop := x.1 = 12 ∨ (LCm n x.2.1 x.2.2.1 x.2.2.2.1 x.2.2.2.2.1 x.2.2.2.2.2 ∧ LVt x.1 x.2.1 x.2.2.1 x.2.2.2.1 x.2.2.2.2.1 x.2.2.2.2.2)
section Iv
variable {C C' St Ar St' Ar' : qN} {Y Y' : List (Int × Int × Int)} {b fr m k h h' o a k' c n mq : Int} {K K' : LK} {U U' : LU} {X : List Int}
theorem nX_0 : ∀ X : List Int, 0 ≤ nX X
  | [] => Int.le_refl 0
  | a :: X => by rw [nX]; have := nX_0 X; split <;> omega
theorem nY_0 : ∀ Y : List (Int × Int × Int), 0 ≤ nY Y
  | [] => Int.le_refl 0
  | a :: X => by rw [nY]; have := nY_0 X; split <;> omega
theorem nex_0 : ∀ Y : List (Int × Int × Int), 0 ≤ nex Y
  | [] => Int.le_refl 0
  | a :: X => by rw [nex]; have := nex_0 X; split <;> omega
theorem nops_0 : ∀ X : List Int, 0 ≤ nops X
  | [] => Int.le_refl 0
  | a :: X => by rw [nops]; have := nops_0 X; split <;> omega
theorem xOK_n : ∀ X : List Int, xOK X → (hdX X → nops X ≤ 2 * nX X) ∧ (X.head? = some 2 ∨ X.head? = some 3 → nops X ≤ 2 * nX X + 1) ∧ nops X ≤ 2 * nX X + 2
  | [], _ => ⟨fun _ => by decide, fun _ => by decide, by decide⟩
  | a :: X, h => by
    obtain ⟨h1, h2⟩ := h
    obtain ⟨i1, i2, i3⟩ := xOK_n X h1
    unfold hdX at i1 ⊢
    rw [nops, nX]
    rcases h2 with rfl | ⟨h2, h3⟩ | ⟨h2, h3⟩
    · rw [if_pos rfl, if_pos rfl]
      refine ⟨fun _ => by omega, fun z => by simp at z, by omega⟩
    · have i1 := i1 h3
      rw [if_neg (by omega), if_neg (by omega)]
      refine ⟨fun z => ?_, fun _ => by omega, by omega⟩
      simp at z; omega
    · rw [if_neg (by omega), if_neg (by omega)]
      refine ⟨fun z => by simp at z; omega, fun z => by simp at z; omega, ?_⟩
      rcases h3 with h3 | h3 | h3 | h3
      · have := i1 (Or.inl h3); omega
      · have := i1 (Or.inr h3); omega
      · have := i2 (Or.inl h3); omega
      · have := i2 (Or.inr h3); omega
theorem SgP_c (h : SgP C St Ar Y b fr m) (hC : ∀ i, fr ≤ i → i < m → C' i = C i) (hS : ∀ i, b ≤ i → i < b + (m - fr) → St' i = St i ∧ Ar' i = Ar i) : SgP C' St' Ar' Y b fr m := by
  have hc : ∀ j, j ≤ m → hD C' fr j = hD C fr j := fun j hj => hD_c (fun i i1 i2 => by rw [hC i i1 (by omega)])
  have hb : ∀ j, j ≤ m → bBq C fr j → bBq C' fr j := fun j hj => bB_c (fun i i1 i2 => by rw [hC i i1 (by omega)])
  intro k h1 h2
  obtain ⟨b1, b2, b3⟩ := h k h1 h2
  obtain ⟨s1, s2⟩ := hS (b + (k - fr)) (by omega) (by omega)
  unfold SgK Lnd
  rw [hc k (by omega), hC k h1 h2, s1, s2]
  refine ⟨b1, b2, ?_⟩
  rcases b3 with e | ⟨e, e2⟩ | ⟨e, e2, e3⟩ | ⟨e, e2, e3, e4⟩ | ⟨e, e2⟩
  · exact Or.inl e
  · exact Or.inr (Or.inl ⟨e, e2⟩)
  · exact Or.inr (Or.inr (Or.inl ⟨e, e2, hb k (by omega) e3⟩))
  · refine Or.inr (Or.inr (Or.inr (Or.inl ⟨e, e2, hb k (by omega) e3, ?_⟩)))
    rcases e4 with e4 | ⟨⟨e4, e5, e6⟩, e7⟩
    · exact Or.inl e4
    · exact Or.inr ⟨⟨e4, e5, by rw [hc _ e5]; exact e6⟩, e7⟩
  · exact Or.inr (Or.inr (Or.inr (Or.inr ⟨e, e2⟩)))
theorem wfC_c {D : Int → Int} {B : Int → Prop} {to : Int} (h : wfC C D B fr to) (hC : ∀ i, fr ≤ i → i < to → C' i = C i) : wfC C' D B fr to := by
  obtain ⟨h1, h2, h3, h4⟩ := h
  refine ⟨h1, h2, h3, fun k k1 k2 => ?_⟩
  unfold wfK
  rw [hC k k1 k2]
  exact h4 k k1 k2
theorem SegC_c {c c' : qI} {to : Int} (h : SegC c C b fr to) (hC : ∀ i, fr ≤ i → i < to → C' i = C i) (hS : ∀ i, b ≤ i → i < b + (to - fr) → c' 4 i = c 4 i ∧ c' 5 i = c 5 i) : SegC c' C' b fr to := by
  intro k k1 k2
  obtain ⟨s1, s2⟩ := hS (b + (k - fr)) (by omega) (by omega)
  rw [hC k k1 k2, s1, s2]
  exact h k k1 k2
theorem RuC_c {c c' r r' : qI} {q p p' : Int} (h : RuC c r q p p') (hc : ∀ i, p ≤ i → i < p' → c' 4 i = c 4 i ∧ c' 5 i = c 5 i) (hr : (r' 2212 q = r 2212 q ∧ r' 2213 q = r 2213 q) ∧ r' 2214 q = r 2214 q ∧ r' 2215 q = r 2215 q) (hC : ∀ i, 0 ≤ i → i < r 2215 q → r' 2211 i = r 2211 i) : RuC c' r' q p p' := by
  obtain ⟨⟨e1, e2⟩, e3, e4⟩ := hr
  obtain ⟨h1, h2, ⟨h3, h3b, h3c⟩, h4, h5, e, h6, h7, h8, ⟨D, B, h9, h9b⟩, h10, h11⟩ := h
  unfold RuC
  have he : 0 ≤ e ∧ e ≤ 1 := by rw [h6]; split <;> omega
  have g : ∀ i, p ≤ i → i < p' → c' 4 i = c 4 i ∧ c' 5 i = c 5 i := hc
  rw [e1, e2, e3, e4]
  refine ⟨h1, h2, ⟨h3, by rw [(g p (by omega) (by omega)).1]; exact h3b, by rw [(g p (by omega) (by omega)).2]; exact h3c⟩, fun q => ?_, fun q => ?_, e, h6, ?_, ?_, ⟨D, B, wfC_c h9 (fun i i1 i2 => hC i (by omega) i2), h9b⟩, ?_, h11⟩
  · obtain ⟨k1, k2, k3⟩ := h4 q
    have e0 : e = 1 := by rw [h6, if_pos q]
    rw [(g (p + 1) (by omega) (by omega)).1, (g (p + 1) (by omega) (by omega)).2]
    exact ⟨k1, k2, k3⟩
  · obtain ⟨k1, D, B, k2⟩ := h5 q
    exact ⟨SegC_c k1 (fun i i1 i2 => hC i (by omega) (by omega)) (fun i i1 i2 => g i (by omega) (by omega)), D, B, wfC_c k2 (fun i i1 i2 => hC i (by omega) (by omega))⟩
  · rw [(g _ (by omega) (by omega)).1]; exact h7
  · exact SegC_c h8 (fun i i1 i2 => hC i (by omega) i2) (fun i i1 i2 => g i (by omega) (by omega))
  · rw [(g _ (by omega) (by omega)).1]; exact h10
/-- the rules that are over stay so -/
theorem RDn_c {mq' : Int} (h : RDn K U mq) (hq : U'.1 = U.1) (hC : ∀ i, 0 ≤ i → i < mq → K'.2.2.1 i = K.2.2.1 i) (hS : ∀ i, 0 ≤ i → i < U.2.2.2.2.2 U.1 → K'.2.2.2.2.1 i = K.2.2.2.2.1 i ∧ K'.2.2.2.2.2 i = K.2.2.2.2.2 i) (hU : ∀ j, 0 ≤ j → j < U.1 → (U'.2.1 j = U.2.1 j ∧ U'.2.2.1 j = U.2.2.1 j) ∧ U'.2.2.2.1 j = U.2.2.2.1 j ∧ U'.2.2.2.2.1 j = U.2.2.2.2.1 j) (hP : ∀ j, 0 ≤ j → j ≤ U.1 → U'.2.2.2.2.2 j = U.2.2.2.2.2 j) (hm : mq ≤ mq') (h0 : 0 ≤ U.1) : RDn K' U' mq' := by
  obtain ⟨⟨h1, h2, h2b⟩, h3⟩ := h
  refine ⟨⟨by rw [hP 0 (by omega) h0]; exact h1, by rw [hq, hP _ h0 (by omega)]; exact h2, by rw [hq, hP _ h0 (by omega)]; omega⟩, fun j j1 j2 => ?_⟩
  rw [hq] at j2
  obtain ⟨r1, r2, r3⟩ := h3 j j1 j2
  obtain ⟨⟨u1, u2⟩, u3, u4⟩ := hU j j1 j2
  unfold RDj
  rw [hq, hP j j1 (by omega), hP (j + 1) (by omega) (by omega), hP _ h0 (by omega), u4]
  refine ⟨RuC_c r1 (fun i i1 i2 => ?_) ⟨⟨u1, u2⟩, u3, u4⟩ (fun i i1 i2 => hC i i1 (by have : i < U.2.2.2.2.1 j := i2; omega)), r2, by omega⟩
  have := r1.2.2.1.1
  exact hS i (by omega) (by omega)
theorem em_h (hf : fr ≤ m) : hD (u1 C m (1048576 * o + a)) fr (m + 1) = hD C fr m + dlF ((1048576 * o + a) / 1048576) := by
  rw [hD_s hf, u1_same, hD_c (fun i _ i2 => by rw [u1_ne (by omega)])]
theorem RDn_em (h : RDn K U (U.2.2.1 U.1)) (hR : RS K U) (h0 : 0 ≤ U.1) (hz : U.2.2.2.2.2 U.1 < K.2.2.2.1) : RDn (emK K o a) U (U.2.2.1 U.1) := by
  obtain ⟨p, m, C, z, St, Ar⟩ := K
  obtain ⟨-, -, h3, -⟩ := hR
  dsimp only at h3 hz
  exact RDn_c h rfl (fun i i1 i2 => u1_ne (by dsimp only; omega)) (fun i i1 i2 => ⟨u1_ne (by dsimp only; omega), u1_ne (by dsimp only; omega)⟩) (fun j _ _ => ⟨⟨rfl, rfl⟩, rfl, rfl⟩) (fun j _ _ => rfl) (Int.le_refl _) h0
theorem RS_em (hR : RS K U) (hz : U.2.2.2.2.2 U.1 < K.2.2.2.1) : RS (emK K o a) U := by
  obtain ⟨p, m, C, z, St, Ar⟩ := K
  obtain ⟨h1, h2, h3, h4⟩ := hR
  dsimp only at h3 h4 hz
  exact ⟨h1, h2, by show 0 ≤ _ ∧ _ ≤ m + 1; omega, by show u1 St z _ _ = _; rw [u1_ne (by omega)]; exact h4⟩
theorem VSg_em (h : VSg K U h') (hR : RS K U) (ho : 0 ≤ o ∧ o ≤ 6) (ha : 0 ≤ a ∧ a < 1048576) (h40 : 0 ≤ h' ∧ h' ≤ 40) (hop : o = 0 ∨ (o = 1 ∧ a ≤ 6) ∨ (2 ≤ o ∧ 2 ≤ h')) : VSg (emK K o a) U (h' + dlF o) := by
  obtain ⟨p, m, C, z, St, Ar⟩ := K
  obtain ⟨-, -, hf, -⟩ := hR
  obtain ⟨h1, h2, h3, h4⟩ := h
  dsimp only at hf h2 h3 h4
  have e1 : (1048576 * o + a) / 1048576 = o := by omega
  refine ⟨h1, by show z + 1 = _ + 1 + (m + 1 - _); omega, ?_, ?_⟩
  · have := Sg_em (Y' := []) (a := a) (o := o) h3 hf.2 (by omega) ha (fun _ q => q) (by omega) (by omega)
    rw [← h2] at this
    exact this
  · show hD (u1 C m (1048576 * o + a)) _ (m + 1) = _
    rw [em_h hf.2, e1, h4]
theorem VD_em (h : VD K U) (hz : bC U ≤ K.2.2.2.1) (hf : U.2.2.1 U.1 ≤ U.2.2.2.1 U.1) : VD (emK K o a) U := by
  obtain ⟨p, m, C, z, St, Ar⟩ := K
  obtain ⟨h1, h2, h3, h4⟩ := h
  unfold bC at hz
  dsimp only at h1 h2 h3 h4 hz
  have he : 0 ≤ eLx U ∧ eLx U ≤ 1 := by unfold eLx; split <;> omega
  refine ⟨by show _ ∧ _ ≤ m + 1; omega, fun q => ?_, fun q => ?_, ?_⟩
  · obtain ⟨k1, k2, k3⟩ := h2 q
    refine ⟨k1, ?_, ?_⟩
    · show u1 St z _ _ = _; rw [u1_ne (by omega)]; exact k2
    · show u1 Ar z _ _ = _; rw [u1_ne (by omega)]; exact k3
  · obtain ⟨k1, k2⟩ := h3 q
    refine ⟨SgP_c k1 (fun i i1 i2 => u1_ne (by dsimp only; omega)) (fun i i1 i2 => ⟨u1_ne (by dsimp only; omega), u1_ne (by dsimp only; omega)⟩), ?_⟩
    show hD (u1 C m _) _ _ = 1
    rw [hD_c (C := C) (fun i _ i2 => by rw [u1_ne (by omega)])]; exact k2
  · show u1 St z _ _ = _; rw [u1_ne (by omega)]; exact h4
theorem yJ_em (h : yJ C b fr m Y) : yJ (u1 C m (1048576 * o + a)) b fr (m + 1) Y := by
  intro e he hj
  obtain ⟨h1, h2, h3, h4⟩ := h e he hj
  exact ⟨by omega, h2, by rw [u1_ne (by omega)]; exact h3, by rw [hD_c (C := C) (fun i _ i2 => by rw [u1_ne (by omega)])]; exact h4⟩
theorem CSg_em (h : CSg K U Y h') (ho : 0 ≤ o ∧ o ≤ 10) (ha : 0 ≤ a ∧ a < 1048576) (h40 : 0 ≤ h' ∧ h' ≤ 40) (hop : o = 0 ∨ (o = 1 ∧ a ≤ 6) ∨ (o = 10 ∧ 1 ≤ h' ∧ bBq K.2.2.1 (U.2.2.2.1 U.1) K.2.1) ∨ ((2 ≤ o ∧ o ≤ 9) ∧ 2 ≤ h')) : CSg (emK K o a) U Y (h' + dlF o) := by
  obtain ⟨p, m, C, z, St, Ar⟩ := K
  obtain ⟨h1, h2, ⟨h3, h4⟩, h5, h6, h7⟩ := h
  have hf := h1.1
  have hv := VD_em (o := o) (a := a) h1 (by rw [h2]; omega) hf.1
  dsimp only at hf h2 h3 h4 h5 hop
  have e1 : (1048576 * o + a) / 1048576 = o := by omega
  refine ⟨hv, by show z + 1 = _ + (m + 1 - _); omega, ⟨?_, ?_⟩, yJ_em h5, h6, h7⟩
  · have := Sg_em (Y' := Y) (a := a) (o := o) h3 hf.2 (by omega) ha (fun _ q => q) (by omega) (by
      rw [h4]
      rcases hop with e | e | e | e
      · exact Or.inl e
      · exact Or.inr (Or.inl e)
      · exact Or.inr (Or.inr (Or.inl e))
      · exact Or.inr (Or.inr (Or.inr (Or.inr e))))
    rw [← h2] at this
    exact this
  · show hD (u1 C m (1048576 * o + a)) _ (m + 1) = _
    rw [em_h hf.2, e1, h4]
/-- a leap is put -/
theorem CSg_jp (h : CSg K U Y 1) (ho : o = 11 ∨ o = 12) (hb : bBq K.2.2.1 (U.2.2.2.1 U.1) K.2.1) : CSg (emK K o 0) U ((o, K.2.1, K.2.2.2.1) :: Y) 0 := by
  obtain ⟨p, m, C, z, St, Ar⟩ := K
  obtain ⟨h1, h2, ⟨h3, h4⟩, h5, h6, h7⟩ := h
  have hf := h1.1
  have hv := VD_em (o := o) (a := 0) h1 (by rw [h2]; omega) hf.1
  dsimp only at hf h2 h3 h4 h5 hb
  have e1 : (1048576 * o + 0) / 1048576 = o := by omega
  have h5' := yJ_em (o := o) (a := 0) h5
  refine ⟨hv, by show z + 1 = _ + (m + 1 - _); omega, ⟨?_, ?_⟩, ?_, ?_, ?_⟩
  · have := Sg_em (Y' := (o, m, z) :: Y) (a := 0) (o := o) h3 hf.2 (by omega) (by omega) (fun k q => by
      obtain ⟨e, q1, q2⟩ := q
      exact ⟨e, List.mem_cons_of_mem _ q1, q2⟩) (by omega) (Or.inr (Or.inr (Or.inr (Or.inl ⟨ho, by omega, hb, ⟨(o, m, z), List.mem_cons_self, ho, rfl⟩⟩))))
    rw [← h2] at this
    exact this
  · show hD (u1 C m (1048576 * o + 0)) _ (m + 1) = _
    rw [em_h hf.2, e1, h4]
    unfold dlF
    rw [if_neg (by omega), if_neg (by omega)]; rfl
  · intro e he hj
    rcases List.mem_cons.mp he with rfl | he
    · refine ⟨by show _ ≤ m ∧ m < m + 1; omega, by show z = _ + (m - _); exact h2, ?_, ?_⟩
      · show u1 C m (1048576 * o + 0) m = _
        rw [u1_same]; show 1048576 * o + 0 = 1048576 * o; omega
      · show hD (u1 C m (1048576 * o + 0)) _ m = 1
        rw [hD_c (C := C) (fun i _ i2 => by rw [u1_ne (by omega)])]; exact h4
    · exact h5' e he hj
  · exact ⟨fun _ e' he' hj => (h5 e' he' hj).1.2, h6⟩
  · exact Or.inr h7
/-- a leap is aimed -/
theorem CSg_ln (h : CSg K U ((o, k, k') :: Y) 1) (ho : o = 11 ∨ o = 12) (hm : 0 ≤ K.2.1 ∧ K.2.1 < 1048576) : CSg (lnK K k k') U Y 1 := by
  obtain ⟨p, m, C, z, St, Ar⟩ := K
  obtain ⟨h1, h2, ⟨h3, h4⟩, h5, h6, h7⟩ := h
  have hf := h1.1
  obtain ⟨j1, j2, j3, j4⟩ := h5 (o, k, k') List.mem_cons_self ho
  obtain ⟨v1, v2, v3, v4⟩ := h1
  dsimp only at hf h2 h3 h4 h5 j1 j2 j3 j4 v1 v2 v3 v4 hm
  have he : 0 ≤ eLx U ∧ eLx U ≤ 1 := by unfold eLx; split <;> omega
  have hbC : bC U = U.2.2.2.2.2 U.1 + 2 + eLx U + (U.2.2.2.1 U.1 - U.2.2.1 U.1) := rfl
  obtain ⟨L1, L2⟩ := ln_op (C := C) (k := k) (o := o) (m := m) j3 (by omega) hm
  have hc : ∀ fr j, hD (u1 C k (C k / 1048576 * 1048576 + m)) fr j = hD C fr j := fun fr j => hD_c (fun i _ _ => L1 i)
  refine ⟨⟨hf, fun q => ?_, fun q => ?_, v4⟩, h2, ⟨?_, ?_⟩, ?_, h6.2, ?_⟩
  · obtain ⟨k1, k2, k3⟩ := v2 q
    refine ⟨k1, k2, ?_⟩
    show u1 Ar k' _ _ = _
    rw [u1_ne (by omega)]; exact k3
  · obtain ⟨k1, k2⟩ := v3 q
    refine ⟨SgP_c k1 (fun i i1 i2 => u1_ne (by omega)) (fun i i1 i2 => ⟨rfl, u1_ne (by omega)⟩), ?_⟩
    show hD (u1 C k _) _ _ = 1
    rw [hc]; exact k2
  · have := Sg_ln h3 (by omega) j2 ho j3 hm (by rw [h4, j4])
    rw [← h2] at this
    exact this
  · show hD (u1 C k _) _ _ = 1
    rw [hc]; exact h4
  · intro e he hj
    obtain ⟨g1, g2, g3, g4⟩ := h5 e (List.mem_cons_of_mem _ he) hj
    have lt : e.2.1 < k := h6.1 ho e he hj
    refine ⟨g1, g2, ?_, ?_⟩
    · show u1 C k _ e.2.1 = _
      rw [u1_ne (by omega)]; exact g3
    · show hD (u1 C k _) _ _ = 1
      rw [hc]; exact g4
  · rcases h7 with ⟨-, q⟩ | q
    · exact absurd q (by show ¬ (o = 13); omega)
    · exact q
end Iv
