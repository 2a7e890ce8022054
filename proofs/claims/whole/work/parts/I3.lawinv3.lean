/-! a law's text: every step keeps what holds -/
section Iv
variable {C C' St Ar St' Ar' : qN} {Y Y' : List (Int × Int × Int)} {b fr m k h h' o a k' c n mq : Int} {K K' : LK} {U U' : LU} {X : List Int} {f : Int → Int} {t : Nat}
theorem LV_mk3 (ht : t ≤ 3) (hc : LCm n K U X Y c) (hR : RDn K U (U.2.2.1 U.1) ∧ RS K U) (hx : xOK X ∧ nX X + nY Y ≤ 6) (hs : SGM c K U Y (nops X + cb c + (if t = 0 then 0 else 1))) (h3 : t = 3 → hdX X) : LV n (t, K, U, X, Y, c) :=
  Or.inr ⟨hc, fun _ => ⟨hR, hx, hs, h3⟩, fun z => absurd z (by show ¬ (4 ≤ t ∧ t ≤ 8); omega), fun z => absurd z (by show ¬ (t = 9 ∨ t = 11 ∨ t = 13); omega), fun z => absurd z (by show ¬ (t = 10); omega)⟩
theorem LV_mk8 (ht : 4 ≤ t ∧ t ≤ 8) (hc : LCm n K U [] Y 0) (hR : RDn K U (U.2.2.1 U.1) ∧ RS K U) (hx : nY Y ≤ 6) (hs : CSg K U Y (if t = 4 then 0 else 1)) (h5 : 5 ≤ t → bBq K.2.2.1 (U.2.2.2.1 U.1) K.2.1) (h8 : t = 8 → ∀ e Y', Y = e :: Y' → ¬ isJ e) : LV n (t, K, U, [], Y, 0) :=
  Or.inr ⟨hc, fun z => absurd z (by show ¬ (t ≤ 3); omega), fun _ => ⟨hR, hx, hs, h5, h8⟩, fun z => absurd z (by show ¬ (t = 9 ∨ t = 11 ∨ t = 13); omega), fun z => absurd z (by show ¬ (t = 10); omega)⟩
theorem LV_mkR (ht : t = 9 ∨ t = 11 ∨ t = 13) (hc : LCm n K U [] [] 0) (hR : RDn K U K.2.1) (hz : K.2.2.2.1 = U.2.2.2.2.2 U.1) : LV n (t, K, U, [], [], 0) :=
  Or.inr ⟨hc, fun z => absurd z (by show ¬ (t ≤ 3); omega), fun z => absurd z (by show ¬ (4 ≤ t ∧ t ≤ 8); omega), fun _ => ⟨hR, hz⟩, fun z => absurd z (by show ¬ (t = 10); omega)⟩
theorem LV_mkV (hc : LCm n K U [] [] 0) (hR : RDn K U (U.2.2.1 U.1) ∧ RS K U) (hs : VSg K U 1 ∨ VXg K U) : LV n (lV K U) :=
  Or.inr ⟨hc, fun z => absurd z (by show ¬ (10 ≤ 3); omega), fun z => absurd z (by show ¬ (4 ≤ 10 ∧ 10 ≤ 8); omega), fun z => absurd z (by show ¬ (10 = 9 ∨ 10 = 11 ∨ 10 = 13); omega), fun _ => ⟨hR, hs⟩⟩
theorem LV_X {k : Int} : LV n (lX k) := Or.inl rfl
theorem LV_d3 (ht : t ≤ 3) (h : LV n (t, K, U, X, Y, c)) : LCm n K U X Y c ∧ (RDn K U (U.2.2.1 U.1) ∧ RS K U) ∧ (xOK X ∧ nX X + nY Y ≤ 6) ∧ SGM c K U Y (nops X + cb c + (if t = 0 then 0 else 1)) ∧ (t = 3 → hdX X) := by
  rcases h with h | ⟨h, h1, -⟩
  · exact absurd h (by show ¬ (t = 12); omega)
  · exact ⟨h, h1 ht⟩
theorem LV_d8 (ht : 4 ≤ t ∧ t ≤ 8) (h : LV n (t, K, U, [], Y, 0)) : LCm n K U [] Y 0 ∧ (RDn K U (U.2.2.1 U.1) ∧ RS K U) ∧ nY Y ≤ 6 ∧ CSg K U Y (if t = 4 then 0 else 1) ∧ (5 ≤ t → bBq K.2.2.1 (U.2.2.2.1 U.1) K.2.1) ∧ (t = 8 → ∀ e Y', Y = e :: Y' → ¬ isJ e) := by
  rcases h with h | ⟨h, -, h1, -⟩
  · exact absurd h (by show ¬ (t = 12); omega)
  · exact ⟨h, h1 ht⟩
theorem LV_dR (ht : t = 9 ∨ t = 11 ∨ t = 13) (h : LV n (t, K, U, [], [], 0)) : LCm n K U [] [] 0 ∧ RDn K U K.2.1 ∧ K.2.2.2.1 = U.2.2.2.2.2 U.1 := by
  rcases h with h | ⟨h, -, -, h1, -⟩
  · exact absurd h (by show ¬ (t = 12); omega)
  · exact ⟨h, h1 ht⟩
theorem LV_dV (h : LV n (lV K U)) : LCm n K U [] [] 0 ∧ (RDn K U (U.2.2.1 U.1) ∧ RS K U) ∧ (VSg K U 1 ∨ VXg K U) := by
  rcases h with h | ⟨h, -, -, -, h1⟩
  · exact absurd h (by show ¬ (10 = 12); omega)
  · exact ⟨h, h1 rfl⟩
theorem CSg_z (h : CSg K U Y k) : U.2.2.2.2.2 U.1 < K.2.2.2.1 := by
  obtain ⟨⟨h1, -⟩, h2, -⟩ := h
  have he : 0 ≤ eLx U ∧ eLx U ≤ 1 := by unfold eLx; split <;> omega
  unfold bC at h2
  omega
theorem SGM_z (h : SGM c K U Y k) (hR : RS K U) : U.2.2.2.2.2 U.1 < K.2.2.2.1 := by
  rcases h with ⟨-, -, -, h2, -⟩ | ⟨-, h⟩
  · have := hR.2.2.1; omega
  · exact CSg_z h
theorem SGM_em (h : SGM c K U Y h') (hR : RS K U) (ho : 0 ≤ o ∧ o ≤ 6) (ha : 0 ≤ a ∧ a < 1048576) (h40 : 0 ≤ h' ∧ h' ≤ 40) (hop : o = 0 ∨ (o = 1 ∧ a ≤ 6) ∨ (2 ≤ o ∧ 2 ≤ h')) : SGM c (emK K o a) U Y (h' + dlF o) := by
  rcases h with ⟨h1, h2, h3⟩ | ⟨h1, h2⟩
  · exact Or.inl ⟨h1, h2, VSg_em h3 hR ho ha h40 hop⟩
  · refine Or.inr ⟨h1, CSg_em h2 (by omega) ha h40 ?_⟩
    rcases hop with e | e | e
    · exact Or.inl e
    · exact Or.inr (Or.inl e)
    · exact Or.inr (Or.inr (Or.inr ⟨by omega, e.2⟩))
theorem sg_lt {p : Int} (h : sgF f n p ≠ -1) : p < n := by
  unfold sgF at h
  split at h
  · assumption
  · exact absurd rfl h
theorem dl_0 : dlF 0 = 1 := rfl
theorem dl_1 : dlF 1 = 1 := rfl
theorem dl_n (h : 2 ≤ o ∧ o ≤ 9) : dlF o = -1 := by unfold dlF; rw [if_neg (by omega), if_neg (by omega)]
theorem nu_ok : ∀ (j : Nat) (p a : Int), p ≤ n → 0 ≤ a → p ≤ (nuF f n j p a).1 ∧ (nuF f n j p a).1 ≤ n ∧ 0 ≤ (nuF f n j p a).2
  | 0, p, a, hp, ha => ⟨Int.le_refl _, hp, ha⟩
  | j + 1, p, a, hp, ha => by
    rw [nuF]
    split
    · rename_i q
      have pl : p < n := sg_lt (f := f) (by unfold dgQ at q; omega)
      have := nu_ok j (p + 1) (a * 10 + sgF f n p - 48) (by omega) (by unfold dgQ at q; omega)
      exact ⟨by omega, this.2⟩
    · exact ⟨Int.le_refl _, hp, ha⟩
theorem nu_le : ∀ (j : Nat) (p a M : Int), 0 ≤ M → a ≤ M → (nuF f n j p a).2 ≤ (M + 1) * 10 ^ j - 1
  | 0, p, a, M, hM, ha => by rw [nuF]; simp; omega
  | j + 1, p, a, M, hM, ha => by
    have hp : (0 : Int) < 10 ^ j := Int.pow_pos (by decide)
    have e : (M + 1) * 10 ^ (j + 1) = (M * 10 + 9 + 1) * 10 ^ j := by
      rw [Int.pow_succ, show M * 10 + 9 + 1 = (M + 1) * 10 by omega, Int.mul_assoc, Int.mul_comm (10 ^ j) 10]
    rw [nuF, e]
    split
    · rename_i q
      exact nu_le j (p + 1) _ (M * 10 + 9) (by omega) (by unfold dgQ at q; omega)
    · have h1 : (M * 10 + 9 + 1) * 1 ≤ (M * 10 + 9 + 1) * 10 ^ j := Int.mul_le_mul_of_nonneg_left (by omega) (by omega)
      show a ≤ _
      omega
theorem nu_5 {p : Int} (hp : p ≤ n) (hq : dgQ (sgF f n p)) : (p < (nuF f n 5 p 0).1 ∧ (nuF f n 5 p 0).1 ≤ n) ∧ 0 ≤ (nuF f n 5 p 0).2 ∧ (nuF f n 5 p 0).2 < 1048576 := by
  have h1 := nu_le (f := f) (n := n) 5 p 0 0 (by omega) (by omega)
  have h2 := nu_ok (f := f) (n := n) 5 p 0 hp (by omega)
  have pl : p < n := sg_lt (f := f) (by unfold dgQ at hq; omega)
  have h3 := nu_ok (f := f) (n := n) 4 (p + 1) (0 * 10 + sgF f n p - 48) (by omega) (by unfold dgQ at hq; omega)
  have e : nuF f n 5 p 0 = nuF f n 4 (p + 1) (0 * 10 + sgF f n p - 48) := by rw [nuF, if_pos hq]
  rw [e] at h1 h2 ⊢
  have e5 : ((0 : Int) + 1) * 10 ^ 5 - 1 = 99999 := by decide
  rw [e5] at h1
  exact ⟨by omega, by omega⟩
theorem lp_rng {c : Int} : -1 ≤ lpF c ∧ lpF c ≤ 6 ∧ (c = -1 → lpF c = -1) := by
  refine ⟨?_, ?_, fun z => by rw [z]; decide⟩ <;> (unfold lpF; repeat' split) <;> omega
theorem ml_rng {c : Int} : (mlF c = -1 ∨ (4 ≤ mlF c ∧ mlF c ≤ 6)) ∧ (c = -1 → mlF c = -1) := by
  refine ⟨?_, fun z => by rw [z]; decide⟩ <;> (unfold mlF; repeat' split) <;> omega
theorem ad_rng {c : Int} : (adF c = -1 ∨ (2 ≤ adF c ∧ adF c ≤ 3)) ∧ (c = -1 → adF c = -1) := by
  refine ⟨?_, fun z => by rw [z]; decide⟩ <;> (unfold adF; repeat' split) <;> omega
theorem cm_rng {c : Int} : (cpF c = -1 ∨ (7 ≤ cpF c ∧ cpF c ≤ 9)) ∧ (c = -1 → cpF c = -1) := by
  refine ⟨?_, fun z => by rw [z]; decide⟩ <;> (unfold cpF; repeat' split) <;> omega
theorem cb_rng : 0 ≤ cb c ∧ cb c ≤ 1 := by unfold cb; split <;> omega
theorem LV_sF (h : LV n (lF K U X Y c)) : LV n (lsF f n K U X Y c) := by
  obtain ⟨⟨hp, hm, hq⟩, hR, hx, hs, -⟩ := LV_d3 (by omega) h
  rw [if_pos rfl] at hs
  have hz := SGM_z hs hR.2
  have xn := (xOK_n X hx.1).2.2
  have x0 := nops_0 X
  have y0 := nY_0 Y
  have cr := cb_rng (c := c)
  unfold lsF
  split
  · rename_i q
    have pl : K.1 < n := sg_lt (f := f) (by omega)
    split
    · exact LV_X
    · rename_i q6
      exact LV_mk3 (by omega) ⟨by show _ ≤ K.1 + 1 ∧ K.1 + 1 ≤ n; omega, by show 0 ≤ K.2.1 ∧ K.2.1 + ((0 + nops X) + nex Y + cb c) ≤ K.1 + 1; omega, hq⟩ hR ⟨⟨hx.1, Or.inl rfl⟩, by show (1 + nX X) + nY Y ≤ 6; omega⟩ (by
        rw [if_pos rfl]
        show SGM c (atK K (K.1 + 1)) U Y ((0 + nops X) + cb c + 0)
        rw [Int.zero_add]; exact hs) (fun z => absurd z (by omega))
  · split
    · rename_i q
      have nu := nu_5 (f := f) hp.2 q
      split
      · exact LV_X
      · generalize nuF f n 5 K.1 0 = N at *
        exact LV_mk3 (by omega) ⟨by show _ ≤ N.1 ∧ N.1 ≤ n; omega, by show 0 ≤ K.2.1 + 1 ∧ K.2.1 + 1 + _ ≤ N.1; omega, hq⟩ ⟨RDn_em (K := atK K N.1) hR.1 hR.2 hq.1 hz, RS_em (K := atK K N.1) hR.2 hz⟩ hx (by
          have := SGM_em (K := atK K N.1) (o := 0) (a := N.2) hs hR.2 (by omega) (by omega) (by omega) (Or.inl rfl)
          rw [dl_0, Int.add_zero] at this
          exact this) (fun z => absurd z (by omega))
    · have lr := lp_rng (c := sgF f n K.1)
      split
      · exact LV_X
      · rename_i q2
        have pl : K.1 < n := sg_lt (f := f) (by intro z; have := lr.2.2 z; omega)
        generalize lpF (sgF f n K.1) = N at *
        exact LV_mk3 (by omega) ⟨by show _ ≤ K.1 + 1 ∧ K.1 + 1 ≤ n; omega, by show 0 ≤ K.2.1 + 1 ∧ K.2.1 + 1 + _ ≤ K.1 + 1; omega, hq⟩ ⟨RDn_em (K := atK K (K.1 + 1)) hR.1 hR.2 hq.1 hz, RS_em (K := atK K (K.1 + 1)) hR.2 hz⟩ hx (by
          have := SGM_em (K := atK K (K.1 + 1)) (o := 1) (a := N) hs hR.2 (by omega) (by omega) (by omega) (Or.inr (Or.inl ⟨rfl, by omega⟩))
          rw [dl_1, Int.add_zero] at this
          exact this) (fun z => absurd z (by omega))
/-- an operator's code is put -/
theorem LV_op (ht : t = 1 ∨ t = 2) (h : LV n (t, K, U, a :: X, Y, c)) (ha : 2 ≤ a ∧ a ≤ 6) : LV n (t, emK K a 0, U, X, Y, c) := by
  obtain ⟨⟨hp, hm, hq⟩, hR, hx, hs, -⟩ := LV_d3 (by omega) h
  have hz := SGM_z hs hR.2
  have xn := (xOK_n _ hx.1).2.2
  have x0 := nops_0 X
  have y0 := nY_0 Y
  have cr := cb_rng (c := c)
  have e1 : nops (a :: X) = 1 + nops X := by rw [nops, if_neg (by omega)]
  have e2 : nX (a :: X) = 0 + nX X := by rw [nX, if_neg (by omega)]
  rw [e1] at hm hs xn
  rw [e2] at hx xn
  rw [if_neg (by omega)] at hs
  refine LV_mk3 (by omega) ⟨hp, by show 0 ≤ K.2.1 + 1 ∧ K.2.1 + 1 + _ ≤ K.1; omega, hq⟩ ⟨RDn_em hR.1 hR.2 hq.1 hz, RS_em hR.2 hz⟩ ⟨hx.1.1, by omega⟩ ?_ (fun z => absurd z (by omega))
  have := SGM_em (o := a) (a := 0) hs hR.2 (by omega) (by omega) (by omega) (Or.inr (Or.inr ⟨ha.1, by omega⟩))
  rw [dl_n (by omega), show 1 + nops X + cb c + 1 + -1 = nops X + cb c + 1 by omega] at this
  rw [if_neg (by omega)]
  exact this
/-- an operator waits -/
theorem LV_pu (ht : t = 1 ∨ t = 2) (h : LV n (t, K, U, X, Y, c)) (hx' : xOK (a :: X)) (ha : 2 ≤ a ∧ a ≤ 6) (pl : K.1 < n) : LV n (lF (atK K (K.1 + 1)) U (a :: X) Y c) := by
  obtain ⟨⟨hp, hm, hq⟩, hR, hx, hs, -⟩ := LV_d3 (by omega) h
  have e1 : nops (a :: X) = 1 + nops X := by rw [nops, if_neg (by omega)]
  have e2 : nX (a :: X) = 0 + nX X := by rw [nX, if_neg (by omega)]
  rw [if_neg (by omega)] at hs
  refine LV_mk3 (by omega) ⟨by show _ ≤ K.1 + 1 ∧ K.1 + 1 ≤ n; omega, by rw [e1]; show 0 ≤ K.2.1 ∧ K.2.1 + _ ≤ K.1 + 1; omega, hq⟩ hR ⟨hx', by rw [e2]; omega⟩ ?_ (fun z => absurd z (by omega))
  rw [if_pos rfl, e1, show 1 + nops X + cb c + 0 = nops X + cb c + 1 by omega]
  exact hs
theorem LV_sG (h : LV n (lG K U X Y c)) : LV n (lsG f n K U X Y c) := by
  have g0 : (∀ a X', X = a :: X' → ¬ (4 ≤ a ∧ a ≤ 6)) → LV n (lsG0 f n K U X Y c) := by
    intro hX
    obtain ⟨hc, hR, hx, hs, -⟩ := LV_d3 (by omega) h
    have mr := ml_rng (c := sgF f n K.1)
    unfold lsG0
    split
    · exact LV_mk3 (by omega) hc hR hx hs (fun z => absurd z (by omega))
    · have pl : K.1 < n := sg_lt (f := f) (by intro z; have := mr.2 z; omega)
      refine LV_pu (t := 1) (by omega) h ⟨hx.1, Or.inr (Or.inr ⟨by omega, ?_⟩)⟩ (by omega) pl
      cases X with
      | nil => exact Or.inl rfl
      | cons a X' =>
        have q := hX a X' rfl
        have hx2 := hx.1.2
        simp
        omega
  unfold lsG
  cases X with
  | nil => exact g0 (fun a X' e => by simp at e)
  | cons a X' =>
    dsimp only
    split
    · rename_i q
      exact LV_op (t := 1) (by omega) h (by omega)
    · rename_i q
      exact g0 (fun a2 X2 e => by simp at e; rw [← e.1]; exact q)
theorem LV_sH (h : LV n (lH K U X Y c)) : LV n (lsH f n K U X Y c) := by
  have g0 : (∀ a X', X = a :: X' → ¬ (2 ≤ a ∧ a ≤ 6)) → LV n (lsH0 f n K U X Y c) := by
    intro hX
    obtain ⟨hc, hR, hx, hs, -⟩ := LV_d3 (by omega) h
    have mr := ad_rng (c := sgF f n K.1)
    have hh : hdX X := by
      cases X with
      | nil => exact Or.inl rfl
      | cons a X' =>
        have q := hX a X' rfl
        have hx2 := hx.1.2
        refine Or.inr ?_
        simp
        omega
    unfold lsH0
    split
    · exact LV_mk3 (by omega) hc hR hx hs (fun _ => hh)
    · have pl : K.1 < n := sg_lt (f := f) (by intro z; have := mr.2 z; omega)
      exact LV_pu (t := 2) (by omega) h ⟨hx.1, Or.inr (Or.inl ⟨by omega, hh⟩)⟩ (by omega) pl
  unfold lsH
  cases X with
  | nil => exact g0 (fun a X' e => by simp at e)
  | cons a X' =>
    dsimp only
    split
    · rename_i q
      exact LV_op (t := 2) (by omega) h (by omega)
    · rename_i q
      exact g0 (fun a2 X2 e => by simp at e; rw [← e.1]; exact q)
theorem bB_em (hf : fr ≤ m) (ho : 7 ≤ o ∧ o ≤ 10) : bBq (u1 C m (1048576 * o + 0)) fr (m + 1) := by
  unfold bBq
  rw [show m + 1 - 1 = m by omega, u1_same]
  omega
theorem LV_sI (h : LV n (lI K U X Y c)) : LV n (lsI f n K U X Y c) := by
  obtain ⟨⟨hp, hm, hq⟩, hR, hx, hs, h3⟩ := LV_d3 (by omega) h
  rw [if_neg (by omega)] at hs
  have hz := SGM_z hs hR.2
  unfold lsI
  cases X with
  | nil =>
    dsimp only
    have e0 : nops [] = 0 := rfl
    rw [e0] at hs hm
    split
    · rename_i q0
      subst q0
      rcases hs with ⟨-, rfl, s3⟩ | ⟨z, -⟩
      · exact LV_mkV ⟨hp, hm, hq⟩ hR (Or.inl s3)
      · omega
    · split
      · rename_i q0 q7
        rcases hs with ⟨z, -⟩ | ⟨hc, s3⟩
        · omega
        · have c1 : cb c = 1 := by unfold cb; rw [if_pos q7]
          rw [c1] at hm s3
          have hf := s3.1.1.2
          refine LV_mk8 (t := 5) (by omega) ⟨hp, by show 0 ≤ K.2.1 + 1 ∧ K.2.1 + 1 + (0 + nex Y + 0) ≤ K.1; omega, hq⟩ ⟨RDn_em hR.1 hR.2 hq.1 hz, RS_em hR.2 hz⟩ (by have := hx.2; rw [show nX [] = 0 from rfl] at this; omega) ?_ (fun _ => bB_em hf (by omega)) (fun z => absurd z (by omega))
          have := CSg_em (o := c) (a := 0) s3 (by omega) (by omega) (by omega) (Or.inr (Or.inr (Or.inr ⟨by omega, by omega⟩)))
          rw [dl_n (by omega)] at this
          rw [if_neg (by omega)]
          exact this
      · rename_i q0 q7
        have mr := cm_rng (c := sgF f n K.1)
        split
        · exact LV_X
        · have pl : K.1 < n := sg_lt (f := f) (by intro z; have := mr.2 z; omega)
          rcases hs with ⟨z, -⟩ | ⟨hc, s3⟩
          · omega
          · generalize cpF (sgF f n K.1) = c2 at *
            have c1 : cb c = 0 := by unfold cb; rw [if_neg q7]
            have c3 : cb c2 = 1 := by unfold cb; rw [if_pos (by omega)]
            rw [c1] at hm s3
            refine LV_mk3 (by omega) ⟨by show _ ≤ K.1 + 1 ∧ K.1 + 1 ≤ n; omega, by rw [c3, e0]; show 0 ≤ K.2.1 ∧ K.2.1 + _ ≤ K.1 + 1; omega, hq⟩ hR hx (Or.inr ⟨by omega, ?_⟩) (fun z => absurd z (by omega))
            rw [if_pos rfl, c3, e0]
            exact s3
  | cons a X' =>
    dsimp only
    split
    · rename_i q
      have pl : K.1 < n := sg_lt (f := f) (by omega)
      have a14 : a = 14 := by
        rcases h3 rfl with z | z
        · simp at z
        · simpa using z
      subst a14
      have e1 : nops (14 :: X') = nops X' := by rw [nops, if_pos rfl]; omega
      have e2 : nX (14 :: X') = 1 + nX X' := by rw [nX, if_pos rfl]
      rw [e1] at hm hs
      have hx2 := hx.2
      rw [e2] at hx2
      refine LV_mk3 (by omega) ⟨by show _ ≤ K.1 + 1 ∧ K.1 + 1 ≤ n; omega, by show 0 ≤ K.2.1 ∧ K.2.1 + _ ≤ K.1 + 1; omega, hq⟩ hR ⟨hx.1.1, by omega⟩ ?_ (fun z => absurd z (by omega))
      rw [if_neg (by omega)]
      exact hs
    · exact LV_X
end Iv
section Iv
variable {C C' St Ar St' Ar' : qN} {Y Y' : List (Int × Int × Int)} {b fr m k h h' o a k' c n mq : Int} {K K' : LK} {U U' : LU} {X : List Int} {f : Int → Int} {t : Nat}
theorem SgP_Y (h : SgP C St Ar Y b fr m) (hY : ∀ k, Wai Y k → Wai Y' k) : SgP C St Ar Y' b fr m := by
  intro k h1 h2
  obtain ⟨b1, b2, b3⟩ := h k h1 h2
  refine ⟨b1, b2, ?_⟩
  rcases b3 with e | e | e | ⟨e, e2, e3, e4⟩ | e
  · exact Or.inl e
  · exact Or.inr (Or.inl e)
  · exact Or.inr (Or.inr (Or.inl e))
  · refine Or.inr (Or.inr (Or.inr (Or.inl ⟨e, e2, e3, ?_⟩)))
    rcases e4 with e4 | e4
    · exact Or.inl (hY k e4)
    · exact Or.inr e4
  · exact Or.inr (Or.inr (Or.inr (Or.inr e)))
theorem CSg_pop {e : Int × Int × Int} (h : CSg K U (e :: Y) k) (he : ¬ isJ e) (hy : Y ≠ []) : CSg K U Y k := by
  obtain ⟨h1, h2, ⟨h3, h4⟩, h5, h6, h7⟩ := h
  refine ⟨h1, h2, ⟨SgP_Y h3 (fun k q => ?_), h4⟩, fun e' he' => h5 e' (List.mem_cons_of_mem _ he'), h6.2, ?_⟩
  · obtain ⟨e', q1, q2, q3⟩ := q
    rcases List.mem_cons.mp q1 with rfl | q1
    · exact absurd q2 he
    · exact ⟨e', q1, q2, q3⟩
  · rcases h7 with ⟨q, -⟩ | q
    · exact absurd q hy
    · exact q
theorem CSg_push {e : Int × Int × Int} (h : CSg K U Y k) (he : ¬ isJ e) : CSg K U (e :: Y) k := by
  obtain ⟨h1, h2, ⟨h3, h4⟩, h5, h6, h7⟩ := h
  refine ⟨h1, h2, ⟨SgP_Y h3 (fun k q => ?_), h4⟩, fun e' he' hj => ?_, ⟨fun z => absurd z he, h6⟩, Or.inr h7⟩
  · obtain ⟨e', q1, q2⟩ := q
    exact ⟨e', List.mem_cons_of_mem _ q1, q2⟩
  · rcases List.mem_cons.mp he' with rfl | he'
    · exact absurd hj he
    · exact h5 e' he' hj
theorem LV_sT (h : LV n (lT K U Y)) : LV n (lsT f n K U Y) := by
  obtain ⟨⟨hp, hm, hq⟩, hR, hx, hs, -, -⟩ := LV_d8 (t := 4) (by omega) h
  rw [if_pos rfl] at hs
  have y0 := nY_0 Y
  have e0 : nops [] = 0 := rfl
  have c0 : cb 0 = 0 := rfl
  rw [e0, c0] at hm
  unfold lsT
  split
  · rename_i q
    have pl : K.1 < n := sg_lt (f := f) (by omega)
    split
    · exact LV_X
    · rename_i q6
      by_cases q33 : sgF f n K.1 = 33
      · rw [if_pos q33]
        refine LV_mk8 (t := 4) (by omega) ⟨by show _ ≤ K.1 + 1 ∧ K.1 + 1 ≤ n; omega, by show 0 ≤ K.2.1 ∧ K.2.1 + (0 + (1 + nex Y) + 0) ≤ K.1 + 1; omega, hq⟩ hR (by show 1 + nY Y ≤ 6; omega) ?_ (fun z => absurd z (by omega)) (fun z => absurd z (by omega))
        rw [if_pos rfl]
        exact CSg_push (K := atK K (K.1 + 1)) hs (by unfold isJ; show ¬ ((10 : Int) = 11 ∨ (10 : Int) = 12); omega)
      · rw [if_neg q33]
        refine LV_mk8 (t := 4) (by omega) ⟨by show _ ≤ K.1 + 1 ∧ K.1 + 1 ≤ n; omega, by show 0 ≤ K.2.1 ∧ K.2.1 + (0 + (0 + nex Y) + 0) ≤ K.1 + 1; omega, hq⟩ hR (by show 1 + nY Y ≤ 6; omega) ?_ (fun z => absurd z (by omega)) (fun z => absurd z (by omega))
        rw [if_pos rfl]
        exact CSg_push (K := atK K (K.1 + 1)) hs (by unfold isJ; show ¬ ((13 : Int) = 11 ∨ (13 : Int) = 12); omega)
  · refine LV_mk3 (t := 0) (by omega) ⟨hp, hm, hq⟩ hR ⟨trivial, by show 0 + nY Y ≤ 6; omega⟩ (Or.inr ⟨by omega, ?_⟩) (fun z => absurd z (by omega))
    exact hs
theorem LV_sE (h : LV n (lE K U Y)) : LV n (lsE K U Y) := by
  have hh := LV_d8 (t := 5) (by omega) h
  unfold lsE
  have g0 : LV n (lA K U Y) := by
    obtain ⟨hc, hR, hx, hs, hb, -⟩ := hh
    exact LV_mk8 (t := 6) (by omega) hc hR hx hs (fun _ => hb (by omega)) (fun z => absurd z (by omega))
  cases Y with
  | nil => exact g0
  | cons e Y' =>
    dsimp only
    split
    · rename_i q
      obtain ⟨⟨hp, hm, hq⟩, hR, hx, hs, hb, -⟩ := hh
      rw [if_neg (by omega)] at hs
      have hz := CSg_z hs
      have hf := hs.1.1.2
      have hb := hb (by omega)
      have e0 : nops [] = 0 := rfl
      have c0 : cb 0 = 0 := rfl
      have e1 : nex (e :: Y') = 1 + nex Y' := by rw [nex, if_pos q]
      have e2 : nY (e :: Y') = 1 + nY Y' := by rw [nY, if_pos (Or.inl q)]
      rw [e0, c0, e1] at hm
      rw [e2] at hx
      have hy : Y' ≠ [] := by
        have h7 := hs.2.2.2.2.2
        rcases h7 with ⟨-, q2⟩ | q2
        · omega
        · intro z; rw [z] at q2; exact q2
      have hs2 := CSg_pop hs (by unfold isJ; omega) hy
      refine LV_mk8 (t := 5) (by omega) ⟨hp, by show 0 ≤ K.2.1 + 1 ∧ K.2.1 + 1 + (0 + nex Y' + 0) ≤ K.1; omega, hq⟩ ⟨RDn_em hR.1 hR.2 hq.1 hz, RS_em hR.2 hz⟩ (by omega) ?_ (fun _ => bB_em hf (by omega)) (fun z => absurd z (by omega))
      have := CSg_em (o := 10) (a := 0) hs2 (by omega) (by omega) (by omega) (Or.inr (Or.inr (Or.inl ⟨rfl, by omega, hb⟩)))
      rw [if_neg (by omega)]
      exact this
    · exact g0
theorem RDn_ln (h : RDn K U (U.2.2.1 U.1)) (h0 : 0 ≤ U.1) (hk : U.2.2.1 U.1 ≤ k) (hk' : U.2.2.2.2.2 U.1 < k') : RDn (lnK K k k') U (U.2.2.1 U.1) := by
  obtain ⟨p, m, C, z, St, Ar⟩ := K
  exact RDn_c h rfl (fun i i1 i2 => u1_ne (by omega)) (fun i i1 i2 => ⟨rfl, u1_ne (by omega)⟩) (fun j _ _ => ⟨⟨rfl, rfl⟩, rfl, rfl⟩) (fun j _ _ => rfl) (Int.le_refl _) h0
theorem CSg_hd {e : Int × Int × Int} (h : CSg K U (e :: Y) k) (he : isJ e) : U.2.2.1 U.1 ≤ e.2.1 ∧ U.2.2.2.2.2 U.1 < e.2.2 := by
  obtain ⟨⟨h1, -⟩, h2, -, h5, -⟩ := h
  obtain ⟨j1, j2, -⟩ := h5 e List.mem_cons_self he
  have he : 0 ≤ eLx U ∧ eLx U ≤ 1 := by unfold eLx; split <;> omega
  unfold bC at j2
  omega
/-- a leap is aimed -/
theorem LV_am {e : Int × Int × Int} {t' : Nat} (ht : t = 6 ∨ t = 7) (hn : n ≤ 240) (h : LV n (t, K, U, [], e :: Y, 0)) (he : isJ e) : LV n (t, lnK K e.2.1 e.2.2, U, [], Y, 0) := by
  obtain ⟨⟨hp, hm, hq⟩, hR, hx, hs, hb, -⟩ := LV_d8 (by omega) h
  rw [if_neg (by omega)] at hs
  have hb := hb (by omega)
  have hd := CSg_hd hs he
  have e1 : nex (e :: Y) = 0 + nex Y := by rw [nex, if_neg (by unfold isJ at he; omega)]
  have e2 : nY (e :: Y) = 0 + nY Y := by rw [nY, if_neg (by unfold isJ at he; omega)]
  have n0 := nex_0 Y
  have e0 : nops [] = 0 := rfl
  have c0 : cb 0 = 0 := rfl
  rw [e0, c0, e1] at hm
  rw [e2] at hx
  have j3 := (hs.2.2.2.1 e List.mem_cons_self he).2.2.1
  refine LV_mk8 (by omega) ⟨hp, by show 0 ≤ K.2.1 ∧ K.2.1 + (0 + nex Y + 0) ≤ K.1; omega, hq⟩ ⟨RDn_ln hR.1 hq.1 hd.1 hd.2, hR.2⟩ (by omega) ?_ (fun _ => ?_) (fun z => absurd z (by omega))
  · rw [if_neg (by omega)]
    exact CSg_ln (o := e.1) hs he (by omega)
  · exact bB_c (fun i _ _ => (ln_op j3 (by unfold isJ at he; omega) (by omega)).1 i) hb
/-- a leap is put -/
theorem LV_jp (ht : t = 6 ∨ t = 7) (h : LV n (t, K, U, [], Y, 0)) (ho : o = 11 ∨ o = 12) (pl : K.1 < n) : LV n (lT (emK (atK K (K.1 + 1)) o 0) U ((o, K.2.1, K.2.2.2.1) :: Y)) := by
  obtain ⟨⟨hp, hm, hq⟩, hR, hx, hs, hb, -⟩ := LV_d8 (by omega) h
  rw [if_neg (by omega)] at hs
  have hb := hb (by omega)
  have hz := CSg_z hs
  have e1 : nex ((o, K.2.1, K.2.2.2.1) :: Y) = 0 + nex Y := by rw [nex, if_neg (by show ¬ (o = 10); omega)]
  have e2 : nY ((o, K.2.1, K.2.2.2.1) :: Y) = 0 + nY Y := by rw [nY, if_neg (by show ¬ (o = 10 ∨ o = 13); omega)]
  have e0 : nops [] = 0 := rfl
  have c0 : cb 0 = 0 := rfl
  rw [e0, c0] at hm
  refine LV_mk8 (t := 4) (by omega) ⟨by show _ ≤ K.1 + 1 ∧ K.1 + 1 ≤ n; omega, by rw [e1]; show 0 ≤ K.2.1 + 1 ∧ K.2.1 + 1 + (0 + (0 + nex Y) + 0) ≤ K.1 + 1; omega, hq⟩ ⟨RDn_em (K := atK K (K.1 + 1)) hR.1 hR.2 hq.1 hz, RS_em (K := atK K (K.1 + 1)) hR.2 hz⟩ (by rw [e2]; omega) ?_ (fun z => absurd z (by omega)) (fun z => absurd z (by omega))
  rw [if_pos rfl]
  exact CSg_jp (K := atK K (K.1 + 1)) hs ho hb
theorem LV_sA (hn : n ≤ 240) (h : LV n (lA K U Y)) : LV n (lsA f n K U Y) := by
  have g0 : LV n (lsA0 f n K U Y) := by
    unfold lsA0
    split
    · rename_i q
      exact LV_jp (t := 6) (by omega) h (by omega) (sg_lt (f := f) (by omega))
    · obtain ⟨hc, hR, hx, hs, hb, -⟩ := LV_d8 (t := 6) (by omega) h
      exact LV_mk8 (t := 7) (by omega) hc hR hx hs (fun _ => hb (by omega)) (fun z => absurd z (by omega))
  unfold lsA
  cases Y with
  | nil => exact g0
  | cons e Y' =>
    dsimp only
    split
    · rename_i q
      exact LV_am (t := 6) (t' := 6) (by omega) hn h (Or.inl q)
    · exact g0
theorem LV_sO (hn : n ≤ 240) (h : LV n (lO K U Y)) : LV n (lsO f n K U Y) := by
  have g0 : (∀ e Y', Y = e :: Y' → ¬ isJ e) → LV n (lsO0 f n K U Y) := by
    intro hY
    unfold lsO0
    split
    · rename_i q
      exact LV_jp (t := 7) (by omega) h (by omega) (sg_lt (f := f) (by omega))
    · obtain ⟨hc, hR, hx, hs, hb, -⟩ := LV_d8 (t := 7) (by omega) h
      exact LV_mk8 (t := 8) (by omega) hc hR hx hs (fun _ => hb (by omega)) (fun _ => hY)
  unfold lsO
  cases Y with
  | nil => exact g0 (fun e Y' z => by simp at z)
  | cons e Y' =>
    dsimp only
    split
    · rename_i q
      exact LV_am (t := 7) (t' := 7) (by omega) hn h q
    · rename_i q
      exact g0 (fun e2 Y2 z => by simp at z; rw [← z.1]; exact q)
end Iv
