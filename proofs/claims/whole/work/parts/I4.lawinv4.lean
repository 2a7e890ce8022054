/-! a law's text: rules begin and end; what holds at the end -/
section Iv
variable {C C' St Ar St' Ar' : qN} {Y Y' : List (Int × Int × Int)} {b fr m k h h' o a k' c n mq : Int} {K K' : LK} {U U' : LU} {X : List Int} {f : Int → Int} {t : Nat}
theorem mc4 : mcF St Ar 4 = St := rfl
theorem mc5 : mcF St Ar 5 = Ar := rfl
theorem LV_end (hn : n ≤ 240) (h : LV n (lZ K U Y)) (pl : K.1 < n) (hy : ∀ e, Y = [e] → e.1 = 13) (hY : Y = [] ∨ ∃ e, Y = [e]) : LV n (lNr (enK (atK K (K.1 + 1)) U) (enU K U)) := by
  obtain ⟨⟨hp, hm, hq⟩, ⟨hR, hS⟩, hx, hs, hb, -⟩ := LV_d8 (t := 8) (by omega) h
  rw [if_neg (by omega)] at hs
  have hb := hb (by omega)
  have hz := CSg_z hs
  obtain ⟨p, m, C, z, St, Ar⟩ := K
  obtain ⟨q, A, Fr, Ha, To, Po⟩ := U
  obtain ⟨⟨r1, r2, r3⟩, r4⟩ := hR
  obtain ⟨s1, s2, s3, s4⟩ := hS
  obtain ⟨⟨v1, v2, v3, v4⟩, c2, ⟨c3, c4⟩, c5, c6, c7⟩ := hs
  dsimp only at hp hm hq r1 r2 r3 s1 s2 s3 s4 v1 v2 v3 v4 c2 c3 c4 c5 hz hb pl
  have he : 0 ≤ eLx (q, A, Fr, Ha, To, Po) ∧ eLx (q, A, Fr, Ha, To, Po) ≤ 1 := by unfold eLx; split <;> omega
  have hbC : bC (q, A, Fr, Ha, To, Po) = Po q + 2 + eLx (q, A, Fr, Ha, To, Po) + (Ha q - Fr q) := rfl
  have e13 : ∃ e, Y = [e] := by
    rcases hY with rfl | hY
    · exact absurd c7 (by unfold yBo; exact fun z => z)
    · exact hY
  obtain ⟨e, rfl⟩ := e13
  have he13 := hy e rfl
  have hw : ∀ k, ¬ Wai [e] k := by
    intro k hk
    obtain ⟨e', h1, h2, -⟩ := hk
    rw [List.mem_singleton] at h1
    rw [h1] at h2
    unfold isJ at h2
    omega
  have n0 : nex [e] = 0 := by
    show (if e.1 = 10 then (1 : Int) else 0) + 0 = 0
    rw [if_neg (by omega)]; rfl
  have e0 : nops [] = 0 := rfl
  have c0 : cb 0 = 0 := rfl
  rw [e0, c0, n0] at hm
  have SB : ∀ i, 0 ≤ i → i < z → u1 St z 4 i = St i := fun i _ i2 => u1_ne (by omega)
  have AB : ∀ i, 0 ≤ i → i < z → i ≠ Po q → u1 (u1 Ar z 0) (Po q) (z + 1) i = Ar i := fun i _ i2 i3 => by rw [u1_ne i3, u1_ne (by omega)]
  refine LV_mkR (t := 11) (by omega) ⟨by show 0 ≤ p + 1 ∧ p + 1 ≤ n; omega, by show 0 ≤ m ∧ m + (0 + 0 + 0) ≤ p + 1; omega, by show 0 ≤ q + 1 ∧ q + 1 ≤ 16; omega⟩ ⟨⟨?_, ?_, ?_⟩, fun j j1 j2 => ?_⟩ ?_
  · show u1 Po (q + 1) (z + 1) 0 = 0
    rw [u1_ne (by omega)]; exact r1
  · show 0 ≤ u1 Po (q + 1) (z + 1) (q + 1)
    rw [u1_same]; omega
  · show u1 Po (q + 1) (z + 1) (q + 1) ≤ 4 * (q + 1) + m
    rw [u1_same]; omega
  · have j2 : j < q + 1 := j2
    show RuC (mcF (u1 St z 4) (u1 (u1 Ar z 0) (Po q) (z + 1))) (mrF C A Fr Ha (u1 To q m)) j (u1 Po (q + 1) (z + 1) j) (u1 Po (q + 1) (z + 1) (j + 1)) ∧ u1 Po (q + 1) (z + 1) (j + 1) ≤ u1 Po (q + 1) (z + 1) (q + 1) ∧ u1 To q m j ≤ m
    rw [u1_same]
    by_cases qj : j = q
    · subst qj
      rw [u1_same, u1_same, u1_ne (show j ≠ j + 1 by omega)]
      refine ⟨?_, Int.le_refl _, Int.le_refl _⟩
      unfold RuC
      show (A j = 100 ∨ A j = 101 ∨ A j = 108 ∨ A j = 120) ∧ (0 ≤ Fr j ∧ Fr j ≤ Ha j ∧ Ha j ≤ u1 To j m j ∧ u1 To j m j ≤ 240) ∧ (0 ≤ Po j ∧ u1 St z 4 (Po j) = A j ∧ u1 (u1 Ar z 0) (Po j) (z + 1) (Po j) = z + 1) ∧ (A j = 120 → Fr j = Ha j ∧ u1 St z 4 (Po j + 1) = 1 ∧ u1 (u1 Ar z 0) (Po j) (z + 1) (Po j + 1) = 1) ∧ (A j ≠ 120 → SegC (mcF (u1 St z 4) (u1 (u1 Ar z 0) (Po j) (z + 1))) C (Po j + 1) (Fr j) (Ha j) ∧ ∃ D B, wfC C D B (Fr j) (Ha j)) ∧ (∃ e, (e = if A j = 120 then 1 else 0) ∧ u1 St z 4 (Po j + 1 + e + (Ha j - Fr j)) = 3 ∧ SegC (mcF (u1 St z 4) (u1 (u1 Ar z 0) (Po j) (z + 1))) C (Po j + 2 + e + (Ha j - Fr j)) (Ha j) (u1 To j m j) ∧ (∃ D B, wfC C D B (Ha j) (u1 To j m j) ∧ B (u1 To j m j)) ∧ u1 St z 4 (Po j + 2 + e + (u1 To j m j - Fr j)) = 4 ∧ z + 1 = Po j + 3 + e + (u1 To j m j - Fr j))
      rw [u1_same, u1_same]
      refine ⟨by unfold ltQ at s2; omega, by omega, ⟨r2, by rw [SB _ r2 (by omega)]; exact s4, rfl⟩, fun qx => ?_, fun qx => ?_, eLx (j, A, Fr, Ha, To, Po), rfl, ?_, ?_, ⟨hD C (Ha j), bBq C (Ha j), Sg_wf (SgP_Y c3 (fun k q => absurd q (hw k))) v1.2 c4, hb⟩, ?_, by omega⟩
      · obtain ⟨k1, k2, k3⟩ := v2 qx
        have e1 : eLx (j, A, Fr, Ha, To, Po) = 1 := if_pos qx
        rw [e1] at hbC
        rw [SB _ (by omega) (by omega), AB _ (by omega) (by omega) (by omega)]
        exact ⟨k1, k2, k3⟩
      · obtain ⟨k1, k2⟩ := v3 qx
        refine ⟨Sg_seg mc4 mc5 (SgP_c k1 (fun i _ _ => rfl) (fun i i1 i2 => ⟨SB i (by omega) (by omega), AB i (by omega) (by omega) (by omega)⟩)), hD C (Fr j), bBq C (Fr j), Sg_wf k1 v1.1 k2⟩
      · rw [SB _ (by omega) (by omega)]; exact v4
      · rw [← hbC]
        exact Sg_seg mc4 mc5 (SgP_Y (SgP_c c3 (fun i _ _ => rfl) (fun i i1 i2 => ⟨SB i (by omega) (by omega), AB i (by omega) (by omega) (by omega)⟩)) (fun k q => absurd q (hw k)))
      · rw [show Po j + 2 + eLx (j, A, Fr, Ha, To, Po) + (m - Fr j) = z by omega, u1_same]
    · obtain ⟨g1, g2, g3⟩ := r4 j j1 (by show j < q; omega)
      dsimp only at g1 g2 g3
      rw [u1_ne (show j ≠ q + 1 by omega), u1_ne (show j + 1 ≠ q + 1 by omega), u1_ne qj]
      refine ⟨RuC_c g1 (fun i i1 i2 => ?_) ⟨⟨rfl, rfl⟩, rfl, ?_⟩ (fun i i1 i2 => rfl), by omega, by omega⟩
      · have := g1.2.2.1.1
        show u1 St z 4 i = St i ∧ u1 (u1 Ar z 0) (Po q) (z + 1) i = Ar i
        exact ⟨SB i (by omega) (by omega), AB i (by omega) (by omega) (by omega)⟩
      · show u1 To q m j = To j
        exact u1_ne qj
  · show z + 1 = u1 Po (q + 1) (z + 1) (q + 1)
    rw [u1_same]
theorem LV_sZ (hn : n ≤ 240) (h : LV n (lZ K U Y)) : LV n (lsZ f n K U Y) := by
  unfold lsZ
  split
  · rename_i q
    have pl : K.1 < n := sg_lt (f := f) (by omega)
    have hh := LV_d8 (t := 8) (by omega) h
    obtain ⟨⟨hp, hm, hq⟩, ⟨hR, hS⟩, hx, hs, hb, h8⟩ := hh
    rw [if_neg (by omega)] at hs
    have hyB := hs.2.2.2.2.2
    cases Y with
    | nil => exact absurd hyB (by unfold yBo; exact fun z => z)
    | cons e Y' =>
      cases Y' with
      | nil =>
        refine LV_end hn h pl (fun e2 z => ?_) (Or.inr ⟨e, rfl⟩)
        simp at z
        rw [← z]
        rcases hyB with ⟨-, q2⟩ | q2
        · exact q2
        · exact absurd q2 (by unfold yBo; exact fun z => z)
      | cons e2 Y2 =>
        dsimp only
        have nj := h8 rfl e (e2 :: Y2) rfl
        have e0 : nops [] = 0 := rfl
        have c0 : cb 0 = 0 := rfl
        have e1 : 0 ≤ nex (e :: e2 :: Y2) - nex (e2 :: Y2) := by rw [nex]; split <;> omega
        have e3 : 0 ≤ nY (e :: e2 :: Y2) - nY (e2 :: Y2) := by rw [nY]; split <;> omega
        rw [e0, c0] at hm
        refine LV_mk8 (t := 5) (by omega) ⟨by show _ ≤ K.1 + 1 ∧ K.1 + 1 ≤ n; omega, by show 0 ≤ K.2.1 ∧ K.2.1 + (0 + nex (e2 :: Y2) + 0) ≤ K.1 + 1; omega, hq⟩ ⟨hR, hS⟩ (by omega) ?_ (fun _ => hb (by omega)) (fun z => absurd z (by omega))
        rw [if_neg (by omega)]
        exact CSg_pop (K := atK K (K.1 + 1)) hs nj (by simp)
  · exact LV_X
theorem RDn_be (h : RDn K U K.2.1) (hz : K.2.2.2.1 = U.2.2.2.2.2 U.1) (h0 : 0 ≤ U.1) (K' : LK) (hC : K'.2.2.1 = K.2.2.1) (hS : ∀ i, i < K.2.2.2.1 → K'.2.2.2.2.1 i = K.2.2.2.2.1 i ∧ K'.2.2.2.2.2 i = K.2.2.2.2.2 i) : RDn K' (beU K U c) ((beU K U c).2.2.1 (beU K U c).1) := by
  have e : (beU K U c).2.2.1 (beU K U c).1 = K.2.1 := u1_same
  rw [e]
  exact RDn_c h rfl (fun i _ _ => by rw [hC]) (fun i _ i2 => hS i (by omega)) (fun j _ j2 => ⟨⟨u1_ne (by omega), u1_ne (by omega)⟩, rfl, rfl⟩) (fun j _ _ => rfl) (Int.le_refl _) h0
theorem LV_sR (h : LV n (lR K U)) : LV n (lsR f n K U) := by
  obtain ⟨⟨hp, hm, hq⟩, hR, hz⟩ := LV_dR (t := 9) (by omega) h
  have e0 : nops [] = 0 := rfl
  have e1 : nex [] = 0 := rfl
  have c0 : cb 0 = 0 := rfl
  rw [e0, e1, c0] at hm
  unfold lsR
  split
  · rename_i q
    have pl : K.1 < n := sg_lt (f := f) (by unfold ltQ at q; omega)
    split
    · exact LV_X
    · rename_i q16
      obtain ⟨p, m, C, z, St, Ar⟩ := K
      obtain ⟨k, A, Fr, Ha, To, Po⟩ := U
      dsimp only at hp hm hq hz pl q q16 ⊢
      split
      · rename_i qx
        refine LV_mkV ⟨by show 0 ≤ p + 1 ∧ p + 1 ≤ n; omega, by show 0 ≤ m ∧ m + (0 + 0 + 0) ≤ p + 1; omega, hq⟩ ⟨RDn_be hR hz hq.1 _ rfl (fun i i2 => ?_), ?_⟩ (Or.inr ?_)
        · have i2 : i < z := i2
          show u1 (u1 St z 120) (z + 1) 1 i = St i ∧ u1 (u1 Ar z 0) (z + 1) 1 i = Ar i
          rw [u1_ne (by omega), u1_ne (by omega), u1_ne (by omega), u1_ne (by omega)]
          exact ⟨rfl, rfl⟩
        · refine ⟨by show k < 16; omega, ?_, ?_, ?_⟩
          · show ltQ (u1 A k 120 k)
            rw [u1_same]; unfold ltQ; omega
          · show 0 ≤ u1 Fr k m k ∧ u1 Fr k m k ≤ m
            rw [u1_same]; omega
          · show u1 (u1 St z 120) (z + 1) 1 (Po k) = u1 A k 120 k
            rw [u1_ne (by omega), hz, u1_same, u1_same]
        · refine ⟨u1_same, by show z + 1 + 1 = Po k + 2; omega, by show m = u1 Fr k m k; rw [u1_same], ?_, ?_⟩
          · show u1 (u1 St z 120) (z + 1) 1 (Po k + 1) = 1
            rw [hz, u1_same]
          · show u1 (u1 Ar z 0) (z + 1) 1 (Po k + 1) = 1
            rw [hz, u1_same]
      · rename_i qx
        refine LV_mk3 (t := 0) (by omega) ⟨by show 0 ≤ p + 1 ∧ p + 1 ≤ n; omega, by show 0 ≤ m ∧ m + (0 + 0 + 0) ≤ p + 1; omega, hq⟩ ⟨RDn_be hR hz hq.1 _ rfl (fun i i2 => ?_), ?_⟩ ⟨trivial, by decide⟩ (Or.inl ⟨rfl, rfl, ?_⟩) (fun z => absurd z (by omega))
        · have i2 : i < z := i2
          show u1 St z (sgF f n p) i = St i ∧ u1 Ar z 0 i = Ar i
          rw [u1_ne (by omega), u1_ne (by omega)]
          exact ⟨rfl, rfl⟩
        · refine ⟨by show k < 16; omega, ?_, ?_, ?_⟩
          · show ltQ (u1 A k (sgF f n p) k)
            rw [u1_same]; exact q
          · show 0 ≤ u1 Fr k m k ∧ u1 Fr k m k ≤ m
            rw [u1_same]; omega
          · show u1 St z (sgF f n p) (Po k) = u1 A k (sgF f n p) k
            rw [hz, u1_same, u1_same]
        · refine ⟨by show u1 A k (sgF f n p) k ≠ 120; rw [u1_same]; exact qx, by show z + 1 = Po k + 1 + (m - u1 Fr k m k); rw [u1_same]; omega, ?_, ?_⟩
          · show SgP C (u1 St z (sgF f n p)) (u1 Ar z 0) [] (Po k + 1) (u1 Fr k m k) m
            rw [u1_same]; exact SgP_0
          · show hD C (u1 Fr k m k) m = 0 + 0 + 0
            rw [u1_same]; exact hD_0
  · exact LV_X
theorem LV_sV (h : LV n (lV K U)) : LV n (lsV f n K U) := by
  obtain ⟨⟨hp, hm, hq⟩, ⟨hR, hS⟩, hs⟩ := LV_dV h
  have e0 : nops [] = 0 := rfl
  have e1 : nex [] = 0 := rfl
  have c0 : cb 0 = 0 := rfl
  rw [e0, e1, c0] at hm
  unfold lsV
  split
  · rename_i q
    have pl : K.1 < n := sg_lt (f := f) (by omega)
    obtain ⟨p, m, C, z, St, Ar⟩ := K
    obtain ⟨k, A, Fr, Ha, To, Po⟩ := U
    have hS' := hS
    obtain ⟨s1, s2, s3, s4⟩ := hS'
    dsimp only at hp hm hq pl q s1 s2 s3 s4 ⊢
    have hz : z = Po k + 1 + (if A k = 120 then 1 else 0) + (m - Fr k) := by
      rcases hs with ⟨x1, x2, -⟩ | ⟨x1, x2, x3, -⟩
      · dsimp only at x1 x2; rw [if_neg x1]; omega
      · dsimp only at x1 x2 x3; rw [if_pos x1]; omega
    have he : (0 : Int) ≤ (if A k = 120 then 1 else 0) ∧ (if A k = 120 then 1 else 0) ≤ (1 : Int) := by split <;> omega
    refine LV_mk8 (t := 4) (by omega) ⟨by show 0 ≤ p + 1 ∧ p + 1 ≤ n; omega, by show 0 ≤ m ∧ m + (0 + nex [(13, 0, 0)] + 0) ≤ p + 1; rw [show nex [(13, 0, 0)] = 0 from rfl]; omega, hq⟩ ⟨?_, ?_⟩ (by decide) ?_ (fun z => absurd z (by omega)) (fun z => absurd z (by omega))
    · exact RDn_c hR rfl (fun i _ _ => rfl) (fun i _ i2 => ⟨u1_ne (by have i2 : i < Po k := i2; show i ≠ z; omega), u1_ne (by have i2 : i < Po k := i2; show i ≠ z; omega)⟩) (fun j _ j2 => ⟨⟨rfl, rfl⟩, u1_ne (by have j2 : j < k := j2; show j ≠ k; omega), rfl⟩) (fun j _ _ => rfl) (Int.le_refl _) hq.1
    · refine ⟨s1, s2, s3, ?_⟩
      show u1 St z 3 (Po k) = A k
      rw [u1_ne (by omega)]; exact s4
    · rw [if_pos rfl]
      have eHa : u1 Ha k m k = m := u1_same
      have hb : bC (haU (p, m, C, z, St, Ar) (k, A, Fr, Ha, To, Po)) = z + 1 := by
        show Po k + 2 + (if A k = 120 then 1 else 0) + (u1 Ha k m k - Fr k) = z + 1
        rw [eHa]; omega
      refine ⟨⟨?_, fun qx => ?_, fun qx => ?_, ?_⟩, ?_, ⟨?_, ?_⟩, fun e he hj => ?_, ⟨fun _ e' he' => absurd he' (by simp), trivial⟩, Or.inl ⟨rfl, rfl⟩⟩
      · show Fr k ≤ u1 Ha k m k ∧ u1 Ha k m k ≤ m
        rw [eHa]; omega
      · have qx : A k = 120 := qx
        show Fr k = u1 Ha k m k ∧ u1 St z 3 (Po k + 1) = 1 ∧ u1 Ar z 0 (Po k + 1) = 1
        rcases hs with ⟨x1, -⟩ | ⟨x1, x2, x3, x4, x5⟩
        · exact absurd qx x1
        · dsimp only at x2 x3 x4 x5
          rw [eHa, u1_ne (by omega), u1_ne (by omega)]
          exact ⟨by omega, x4, x5⟩
      · have qx : A k ≠ 120 := qx
        show SgP C (u1 St z 3) (u1 Ar z 0) [] (Po k + 1) (Fr k) (u1 Ha k m k) ∧ hD C (Fr k) (u1 Ha k m k) = 1
        rcases hs with ⟨x1, x2, x3, x4⟩ | ⟨x1, -⟩
        · dsimp only at x2 x3 x4
          rw [eHa]
          exact ⟨SgP_c x3 (fun i _ _ => rfl) (fun i i1 i2 => ⟨u1_ne (by omega), u1_ne (by omega)⟩), x4⟩
        · exact absurd x1 qx
      · show u1 St z 3 (Po k + 1 + (if A k = 120 then 1 else 0) + (u1 Ha k m k - Fr k)) = 3
        rw [eHa, ← hz, u1_same]
      · show z + 1 = _ + (m - u1 Ha k m k)
        rw [hb, eHa]; omega
      · show SgP C (u1 St z 3) (u1 Ar z 0) [(13, 0, 0)] _ (u1 Ha k m k) m
        rw [eHa]; exact SgP_0
      · show hD C (u1 Ha k m k) m = 0
        rw [eHa]; exact hD_0
      · rw [List.mem_singleton] at he
        rw [he] at hj
        exact absurd hj (by unfold isJ; decide)
  · exact LV_X
theorem LV_sN (h : LV n (lNr K U)) : LV n (lsNr f n K U) := by
  obtain ⟨⟨hp, hm, hq⟩, hR, hz⟩ := LV_dR (t := 11) (by omega) h
  unfold lsNr
  split
  · exact LV_mkR (t := 13) (by omega) ⟨hp, hm, hq⟩ hR hz
  · split
    · rename_i q
      have pl : K.1 < n := sg_lt (f := f) (by omega)
      exact LV_mkR (t := 9) (by omega) ⟨by show _ ≤ K.1 + 1 ∧ K.1 + 1 ≤ n; omega, ⟨hm.1, by have := hm.2; show K.2.1 + _ ≤ K.1 + 1; omega⟩, hq⟩ hR hz
    · exact LV_X
/-- the shape of a state -/
def LSh (x : LwS) : Prop := (4 ≤ x.1 → x.2.2.2.1 = [] ∧ x.2.2.2.2.2 = 0) ∧ (9 ≤ x.1 → x.2.2.2.2.1 = [])
theorem sh0 (ht : t ≤ 3) : LSh (t, K, U, X, Y, c) := ⟨fun z => absurd z (by show ¬ (4 ≤ t); omega), fun z => absurd z (by show ¬ (9 ≤ t); omega)⟩
theorem sh4 (ht : t ≤ 8) : LSh (t, K, U, [], Y, 0) := ⟨fun _ => ⟨rfl, rfl⟩, fun z => absurd z (by show ¬ (9 ≤ t); omega)⟩
theorem sh9 : LSh (t, K, U, [], [], 0) := ⟨fun _ => ⟨rfl, rfl⟩, fun _ => rfl⟩
theorem LV_stp (hn : n ≤ 240) {x : LwS} (h : LV n x) (hs : LSh x) : LV n (lstp f n x) ∧ LSh (lstp f n x) := by
  obtain ⟨t, K, U, X, Y, c⟩ := x
  obtain ⟨h1, h2⟩ := hs
  dsimp only at h1 h2
  unfold lstp
  dsimp only
  by_cases t0 : t = 0
  · subst t0
    rw [if_pos rfl]
    refine ⟨LV_sF h, ?_⟩
    unfold lsF
    repeat' split
    all_goals first | exact sh9 | exact sh0 (by omega)
  rw [if_neg t0]
  by_cases t1 : t = 1
  · subst t1
    rw [if_pos rfl]
    refine ⟨LV_sG h, ?_⟩
    unfold lsG lsG0
    repeat' split
    all_goals first | exact sh9 | exact sh0 (by omega)
  rw [if_neg t1]
  by_cases t2 : t = 2
  · subst t2
    rw [if_pos rfl]
    refine ⟨LV_sH h, ?_⟩
    unfold lsH lsH0
    repeat' split
    all_goals first | exact sh9 | exact sh0 (by omega)
  rw [if_neg t2]
  by_cases t3 : t = 3
  · subst t3
    rw [if_pos rfl]
    refine ⟨LV_sI h, ?_⟩
    unfold lsI
    repeat' split
    all_goals first | exact sh9 | exact sh0 (by omega) | exact sh4 (by omega)
  rw [if_neg t3]
  obtain ⟨rfl, rfl⟩ := h1 (by omega)
  by_cases t4 : t = 4
  · subst t4
    rw [if_pos rfl]
    refine ⟨LV_sT h, ?_⟩
    unfold lsT
    repeat' split
    all_goals first | exact sh9 | exact sh0 (by omega) | exact sh4 (by omega)
  rw [if_neg t4]
  by_cases t5 : t = 5
  · subst t5
    rw [if_pos rfl]
    refine ⟨LV_sE h, ?_⟩
    unfold lsE
    repeat' split
    all_goals first | exact sh9 | exact sh0 (by omega) | exact sh4 (by omega)
  rw [if_neg t5]
  by_cases t6 : t = 6
  · subst t6
    rw [if_pos rfl]
    refine ⟨LV_sA hn h, ?_⟩
    unfold lsA lsA0
    repeat' split
    all_goals first | exact sh9 | exact sh0 (by omega) | exact sh4 (by omega)
  rw [if_neg t6]
  by_cases t7 : t = 7
  · subst t7
    rw [if_pos rfl]
    refine ⟨LV_sO hn h, ?_⟩
    unfold lsO lsO0
    repeat' split
    all_goals first | exact sh9 | exact sh0 (by omega) | exact sh4 (by omega)
  rw [if_neg t7]
  by_cases t8 : t = 8
  · subst t8
    rw [if_pos rfl]
    refine ⟨LV_sZ hn h, ?_⟩
    unfold lsZ
    repeat' split
    all_goals first | exact sh9 | exact sh0 (by omega) | exact sh4 (by omega)
  rw [if_neg t8]
  have hy : Y = [] := h2 (by omega)
  subst hy
  by_cases t9 : t = 9
  · subst t9
    rw [if_pos rfl]
    refine ⟨LV_sR h, ?_⟩
    unfold lsR
    repeat' split
    all_goals first | exact sh9 | exact sh0 (by omega) | exact sh4 (by omega)
  rw [if_neg t9]
  by_cases t10 : t = 10
  · subst t10
    rw [if_pos rfl]
    refine ⟨LV_sV h, ?_⟩
    unfold lsV
    repeat' split
    all_goals first | exact sh9 | exact sh0 (by omega) | exact sh4 (by omega)
  rw [if_neg t10]
  by_cases t11 : t = 11
  · subst t11
    rw [if_pos rfl]
    refine ⟨LV_sN h, ?_⟩
    unfold lsNr
    repeat' split
    all_goals first | exact sh9 | exact sh0 (by omega) | exact sh4 (by omega)
  rw [if_neg t11]
  exact ⟨h, sh9⟩
theorem LV_it (hn : n ≤ 240) : ∀ (k : Nat) {x : LwS}, LV n x → LSh x → LV n (itl f n k x) ∧ LSh (itl f n k x)
  | 0, _, h, hs => ⟨h, hs⟩
  | k + 1, _, h, hs => LV_it hn k (LV_stp hn h hs).1 (LV_stp hn h hs).2
theorem LV_R (hn : n ≤ 240) {x y : LwS} (h : LV n x) (hs : LSh x) (hc : Lch f n x y) : LV n y := by
  obtain ⟨k, rfl⟩ := hc
  exact (LV_it hn k h hs).1
/-- where all begins -/
def lS0 (C St Ar A Fr Ha To : qN) : LwS := lR (0, 0, C, 0, St, Ar) (0, A, Fr, Ha, To, fun _ => 0)
theorem LV_0 {A Fr Ha To : qN} (hn : 0 ≤ n) : LV n (lS0 C St Ar A Fr Ha To) ∧ LSh (lS0 C St Ar A Fr Ha To) :=
  ⟨LV_mkR (t := 9) (by omega) ⟨by show 0 ≤ (0 : Int) ∧ (0 : Int) ≤ n; omega, by show 0 ≤ (0 : Int) ∧ (0 : Int) + (nops [] + nex [] + cb 0) ≤ 0; decide, by show 0 ≤ (0 : Int) ∧ (0 : Int) ≤ 16; omega⟩ ⟨⟨rfl, by show (0 : Int) ≤ 0; omega, by show (0 : Int) ≤ 4 * 0 + 0; omega⟩, fun j j1 j2 => by have j2 : j < 0 := j2; omega⟩ rfl, sh9⟩
/-- there is room for steps -/
theorem LV_z {t : Nat} (hn : n ≤ 240) (h : LV n (t, K, U, X, Y, c)) (ht : t ≤ 11 ∨ t = 13) : (0 ≤ K.2.2.2.1 ∧ K.2.2.2.1 ≤ 310) ∧ (0 ≤ K.1 ∧ K.1 ≤ n) ∧ (0 ≤ K.2.1 ∧ K.2.1 ≤ K.1) ∧ 0 ≤ U.1 ∧ U.1 ≤ 16 := by
  rcases h with h | ⟨⟨hp, hm, hq⟩, l1, l2, l3, l4⟩
  · exact absurd h (by show ¬ (t = 12); omega)
  · dsimp only at hp hm hq l1 l2 l3 l4
    have x0 := nops_0 X
    have y0 := nex_0 Y
    have c0 := cb_rng (c := c)
    have he : 0 ≤ eLx U ∧ eLx U ≤ 1 := by unfold eLx; split <;> omega
    refine ⟨?_, hp, by omega, hq⟩
    have cs : ∀ h, CSg K U Y h → RDn K U (U.2.2.1 U.1) ∧ RS K U → 0 ≤ K.2.2.2.1 ∧ K.2.2.2.1 ≤ 310 := by
      intro h hc hr
      obtain ⟨⟨r1, r2, r3⟩, -⟩ := hr.1
      obtain ⟨s1, -, s3, -⟩ := hr.2
      obtain ⟨⟨h1, -⟩, h2, -⟩ := hc
      unfold bC at h2
      omega
    have vs : ∀ h, VSg K U h → RDn K U (U.2.2.1 U.1) ∧ RS K U → 0 ≤ K.2.2.2.1 ∧ K.2.2.2.1 ≤ 310 := by
      intro h hc hr
      obtain ⟨⟨r1, r2, r3⟩, -⟩ := hr.1
      obtain ⟨s1, -, s3, -⟩ := hr.2
      obtain ⟨-, h2, -⟩ := hc
      omega
    by_cases t3 : t ≤ 3
    · obtain ⟨hr, -, hs, -⟩ := l1 t3
      rcases hs with ⟨-, -, hs⟩ | ⟨-, hs⟩
      · exact vs _ hs hr
      · exact cs _ hs hr
    by_cases t8 : t ≤ 8
    · obtain ⟨hr, -, hs, -⟩ := l2 (by omega)
      exact cs _ hs hr
    by_cases t10 : t = 10
    · obtain ⟨hr, hs⟩ := l4 t10
      rcases hs with hs | ⟨-, h2, -⟩
      · exact vs _ hs hr
      · obtain ⟨⟨r1, r2, r3⟩, -⟩ := hr.1
        obtain ⟨s1, -, s3, -⟩ := hr.2
        omega
    · obtain ⟨⟨⟨r1, r2, r3⟩, -⟩, hz⟩ := l3 (by omega)
      omega
/-- the end: the class's law is the reference's -/
theorem LV_CLw {c r : qI} (hn : n ≤ 240) (h : LV n (lD K U)) (hSB : ∀ i, 0 ≤ i → i < 320 → -1000 ≤ K.2.2.2.2.1 i ∧ K.2.2.2.2.1 i ≤ 1000) (h3 : c 3 0 = U.1 ∧ c 3 1 = K.2.2.2.1) (h4 : ∀ i, 0 ≤ i → i < 320 → c 4 i = K.2.2.2.2.1 i ∧ c 5 i = K.2.2.2.2.2 i) (h15 : r 2198 15 = U.1) (hr : ∀ j, 0 ≤ j → j < U.1 → (r 2212 j = U.2.1 j ∧ r 2213 j = U.2.2.1 j) ∧ r 2214 j = U.2.2.2.1 j ∧ r 2215 j = U.2.2.2.2.1 j) (hC : ∀ i, 0 ≤ i → i < K.2.1 → r 2211 i = K.2.2.1 i) : CLw c r := by
  have hz := LV_z (t := 13) hn h (by omega)
  obtain ⟨-, ⟨⟨p0, p1, p2⟩, hR⟩, hzp⟩ := LV_dR (t := 13) (by omega) h
  obtain ⟨⟨z1, z2⟩, -, -, u1, u2⟩ := hz
  refine ⟨by omega, by rw [h15]; exact h3.1, by rw [h3.2]; omega, fun p q1 q2 => by rw [(h4 p q1 q2).1]; exact hSB p q1 q2, U.2.2.2.2.2, p0, by rw [h15, ← hzp]; exact h3.2, fun q q1 q2 => ?_⟩
  rw [h15] at q2 ⊢
  obtain ⟨r1, r2, r3⟩ := hR q q1 q2
  refine ⟨RuC_c r1 (fun i i1 i2 => ?_) (hr q q1 q2) (fun i i1 i2 => hC i i1 (by have i2 : i < U.2.2.2.2.1 q := i2; omega)), r2⟩
  have := r1.2.2.1.1
  exact h4 i (by omega) (by omega)
end Iv
