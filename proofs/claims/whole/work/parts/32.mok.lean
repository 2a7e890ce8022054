/-! bounds of all that the reference's row holds; contracts of what changes it -/
def ml (S : qN) (m : Int) : qN := fun k => S (1708 + 27 * m + k)
def rdv (S : qN) (m : Int) : qN := fun k => S (11028 + 6 * m + k)
/-- an entry of four cells -/
def EOK (f : qN) (p : Int) : Prop := (1 ≤ f p ∧ f p ≤ 999) ∧ (0 ≤ f (p + 1) ∧ f (p + 1) ≤ 2) ∧ (0 ≤ f (p + 2) ∧ f (p + 2) ≤ 127) ∧ (0 ≤ f (p + 3) ∧ f (p + 3) ≤ 127) ∧ (f (p + 1) = 0 → f (p + 2) ≤ 7)
def NOKa (f : qN) : Prop := (f 0 = 0 ∨ f 0 = 1) ∧ (0 ≤ f 1 ∧ f 1 ≤ 999) ∧ (-1 ≤ f 2 ∧ f 2 ≤ 6) ∧ (0 ≤ f 3 ∧ f 3 ≤ 2)
def NOKb (f : qN) : Prop := (0 ≤ f 4 ∧ 0 ≤ f 8 ∧ f 8 ≤ 48 ∧ f 4 + f 8 ≤ 999) ∧ (0 ≤ f 5 ∧ f 5 ≤ 999) ∧ (0 ≤ f 6 ∧ f 6 ≤ 127) ∧ (0 ≤ f 7 ∧ f 7 ≤ 127) ∧ (f 4 ≤ f 9 ∧ f 9 ≤ f 4 + f 8)
def NOKc (R : Int) (f : qN) : Prop := (0 ≤ f 10 ∧ f 10 ≤ 49) ∧ (-1 ≤ f 11 ∧ f 11 ≤ 6) ∧ (0 ≤ f 12 ∧ f 12 ≤ 127) ∧ (0 ≤ f 13 ∧ f 13 ≤ R) ∧ (0 ≤ f 14 ∧ f 14 ≤ 3)
def NOKd (R : Int) (f : qN) : Prop := (∀ k, 15 ≤ k → k < 31 → 0 ≤ f k ∧ f k ≤ 127) ∧ (∀ k, 31 ≤ k → k < 38 → 0 ≤ f k ∧ f k ≤ 1000) ∧ (∀ k, 38 ≤ k → k < 45 → 0 ≤ f k ∧ f k ≤ 999) ∧ (∀ k, 45 ≤ k → k < 52 → 0 ≤ f k ∧ f k ≤ R)
def NOKe (f : qN) : Prop := ∀ k, 0 ≤ k → k < f 8 → EOK f (52 + 4 * k)
def NOKf (f : qN) : Prop := (f 3 = 2 → ∀ k, 31 ≤ k → k < 38 → 1 ≤ f k) ∧ (f 3 ≠ 0 → 1 ≤ f 1)
/-- a node's numbers -/
def NOK (R : Int) (f : qN) : Prop := NOKa f ∧ NOKb f ∧ NOKc R f ∧ NOKd R f ∧ NOKe f ∧ NOKf f
/-- a message's numbers -/
def MOKa (R : Int) (g : qN) : Prop := (0 ≤ g 0 ∧ g 0 ≤ 6) ∧ (0 ≤ g 1 ∧ g 1 ≤ 6) ∧ g 0 ≠ g 1 ∧ (0 ≤ g 2 ∧ g 2 ≤ 5) ∧ (0 ≤ g 3 ∧ g 3 ≤ 999) ∧ (0 ≤ g 10 ∧ g 10 ≤ R) ∧ (0 ≤ g 5 ∧ g 5 ≤ 4) ∧ (g 2 = 2 ∨ g 5 = 0)
def MOKb (g : qN) : Prop := (g 2 = 0 → (0 ≤ g 6 ∧ g 6 ≤ 999) ∧ 0 ≤ g 7 ∧ g 7 ≤ 999) ∧ (g 2 = 1 → g 6 = 0 ∨ g 6 = 1) ∧ (g 2 = 2 → 0 ≤ g 6 ∧ g 6 + g 5 ≤ 999 ∧ (0 ≤ g 8 ∧ g 8 ≤ 999) ∧ ∀ k, 0 ≤ k → k < g 5 → EOK g (11 + 4 * k)) ∧
  (g 2 = 3 → (g 6 = 0 ∨ g 6 = 1) ∧ (0 ≤ g 7 ∧ g 7 ≤ 1000) ∧ (g 6 = 1 → g 7 ≤ 999)) ∧ (g 2 = 4 → (0 ≤ g 6 ∧ g 6 ≤ 999) ∧ (0 ≤ g 7 ∧ g 7 ≤ 999) ∧ (0 ≤ g 8 ∧ g 8 ≤ 127) ∧ (0 ≤ g 9 ∧ g 9 ≤ 127) ∧ ∀ k, 11 ≤ k → k < 19 → 0 ≤ g k ∧ g k ≤ 127) ∧ (g 2 = 5 → 0 ≤ g 6 ∧ g 6 ≤ 999)
def MOK (R : Int) (g : qN) : Prop := MOKa R g ∧ MOKb g
def ROK (R : Int) (g : qN) : Prop := (0 ≤ g 0 ∧ g 0 ≤ 6) ∧ (0 ≤ g 1 ∧ g 1 ≤ 7) ∧ (0 ≤ g 2 ∧ g 2 ≤ R) ∧ (0 ≤ g 3 ∧ g 3 ≤ 999) ∧ (0 ≤ g 4 ∧ g 4 ≤ 2) ∧ (0 ≤ g 5 ∧ g 5 ≤ 127)
def GOK (S : qN) : Prop := (0 ≤ S 11131 ∧ S 11131 ≤ 9999) ∧ (0 ≤ S 11132 ∧ S 11132 ≤ 65535) ∧ (0 ≤ S 11133 ∧ S 11133 ≤ 160) ∧ (0 ≤ S 11134 ∧ S 11134 ≤ 999) ∧ (0 ≤ S 11135 ∧ S 11135 ≤ 16) ∧ (0 ≤ S 11137 ∧ S 11137 ≤ 99999)
def HOK (S : qN) : Prop := (∀ n, 0 ≤ n → n ≤ 6 → 0 ≤ S (11124 + n) ∧ S (11124 + n) ≤ 127) ∧ (∀ i, 1 ≤ i → i ≤ 999 → S (6028 + 4 * i) = 0 ∨ EOK S (6028 + 4 * i)) ∧ (∀ t, 0 ≤ t → t ≤ 999 → 0 ≤ S (10028 + t) ∧ S (10028 + t) ≤ 7)
def NsOK (R : Int) (S : qN) : Prop := ∀ n, 0 ≤ n → n ≤ 6 → NOK R (nd S n)
def MsOK (R : Int) (S : qN) : Prop := ∀ m, 0 ≤ m → m < S 11133 → MOK R (ml S m)
def RsOK (R : Int) (S : qN) : Prop := ∀ m, 0 ≤ m → m < S 11135 → ROK R (rdv S m)
/-- all of it; rounds are at most R -/
def OK (R : Int) (S : qN) : Prop := (smS S ∧ 1 ≤ R ∧ R ≤ 90000) ∧ NsOK R S ∧ MsOK R S ∧ RsOK R S ∧ GOK S ∧ HOK S
section OKs
variable {R R' : Int} {S S' : qN} {n : Int}
theorem OK_sm (h : OK R S) : smS S := h.1.1
theorem OK_R (h : OK R S) : 1 ≤ R ∧ R ≤ 90000 := h.1.2
theorem OK_n (h : OK R S) (hn : 0 ≤ n ∧ n ≤ 6) : NOK R (nd S n) := h.2.1 n hn.1 hn.2
theorem OK_m (h : OK R S) {m : Int} (h1 : 0 ≤ m) (h2 : m < S 11133) : MOK R (ml S m) := h.2.2.1 m h1 h2
theorem OK_r (h : OK R S) {m : Int} (h1 : 0 ≤ m) (h2 : m < S 11135) : ROK R (rdv S m) := h.2.2.2.1 m h1 h2
theorem OK_g (h : OK R S) : GOK S := h.2.2.2.2.1
theorem OK_h (h : OK R S) : HOK S := h.2.2.2.2.2
theorem OK_nOk (h : OK R S) (hn : 0 ≤ n ∧ n ≤ 6) : nOk S n := ⟨hn, (OK_n h hn).2.1.1⟩
theorem OK_kOk (h : OK R S) (hn : 0 ≤ n ∧ n ≤ 6) : kOk S n := (OK_n h hn).2.1.2.2.2.2
theorem OK_aOk (h : OK R S) : aOk S := (OK_g h).2.2.2.2.1
theorem OK_xOk (h : OK R S) : xOk S := ⟨(OK_g h).2.1.1, (OK_g h).2.1.2, (OK_g h).1.1⟩
theorem lpS_k {i : Int} : lpS S n i = 244 * n + (52 + 4 * (i - nd S n 4 - 1)) := by unfold lpS; omega
theorem OK_E (h : OK R S) (hn : 0 ≤ n ∧ n ≤ 6) {i : Int} (h1 : nd S n 4 < i) (h2 : i ≤ nd S n 4 + nd S n 8) : EOK S (lpS S n i) := by
  have := (OK_n h hn).2.2.2.2.1 (i - nd S n 4 - 1) (by omega) (by omega)
  unfold EOK nd at this
  unfold EOK
  rw [lpS_k]
  unfold nd
  simp only [Int.add_assoc] at this ⊢
  exact this
theorem OK_eOk (h : OK R S) (hn : 0 ≤ n ∧ n ≤ 6) {i : Int} (h1 : nd S n 4 < i) (h2 : i ≤ nd S n 4 + nd S n 8) : eOk S (lpS S n i) := by
  have := OK_E h hn h1 h2
  exact fun q => ⟨this.2.2.1.1, this.2.2.2.2 q⟩
theorem OK_gOk (h : OK R S) (hn : 0 ≤ n ∧ n ≤ 6) : gOk S n := ⟨OK_nOk h hn, OK_sm h, fun _ hi => OK_eOk h hn hi.1 hi.2⟩
theorem OK_cOk (h : OK R S) (hn : 0 ≤ n ∧ n ≤ 6) : cOk S n := by
  have h1 := OK_nOk h hn
  have h2 := cfgAt_rng (u := 999) h1
  have h3 := (OK_n h hn).2.1
  unfold cOk set7 oldS newS
  constructor
  · split
    · exact h3.2.2.1
    · have := OK_E h hn (i := cfgAt S n 999) (by omega) (by omega)
      exact this.2.2.1
  · split
    · exact h3.2.2.2.1
    · have := OK_E h hn (i := cfgAt S n 999) (by omega) (by omega)
      exact this.2.2.2.1
theorem NOK_R (h : NOK R (nd S n)) (hr : R ≤ R') : NOK R' (nd S n) := by
  obtain ⟨a, b, ⟨c1, c2, c3, c4, c5⟩, ⟨d1, d2, d3, d4⟩, e⟩ := h
  exact ⟨a, b, ⟨c1, c2, c3, ⟨c4.1, by omega⟩, c5⟩, ⟨d1, d2, d3, fun k k1 k2 => ⟨(d4 k k1 k2).1, by have := (d4 k k1 k2).2; omega⟩⟩, e⟩
theorem OK_mono (h : OK R S) (hr : R ≤ R') (h9 : R' ≤ 90000) : OK R' S := by
  obtain ⟨⟨a1, a2, a3⟩, b, c, d, e⟩ := h
  refine ⟨⟨a1, by omega, h9⟩, fun n n1 n2 => NOK_R (b n n1 n2) hr, fun m m1 m2 => ?_, fun m m1 m2 => ?_, e⟩
  · obtain ⟨⟨b1, b2, b3, b4, b5, b6, b7⟩, b8⟩ := c m m1 m2
    exact ⟨⟨b1, b2, b3, b4, b5, ⟨b6.1, by omega⟩, b7⟩, b8⟩
  · obtain ⟨b1, b2, b3, b4⟩ := d m m1 m2
    exact ⟨b1, b2, ⟨b3.1, by omega⟩, b4⟩
/-- two rows are alike but for a node's cells -/
def offN (S S' : qN) (n : Int) : Prop := ∀ j, j < 244 * n ∨ 244 * n + 244 ≤ j → S' j = S j
theorem nd_off (hn : 0 ≤ n ∧ n ≤ 6) (h : offN S S' n) {m e : Int} (hm : m ≠ n) (he : 0 ≤ e ∧ e < 244) : nd S' m e = nd S m e := h _ (by omega)
theorem EOK_c {f g : qN} {p q : Int} (h : ∀ k, 0 ≤ k → k < 4 → g (q + k) = f (p + k)) : EOK g q ↔ EOK f p := by
  have h0 := h 0 (by omega) (by omega)
  have h1 := h 1 (by omega) (by omega)
  have h2 := h 2 (by omega) (by omega)
  have h3 := h 3 (by omega) (by omega)
  rw [Int.add_zero, Int.add_zero] at h0
  unfold EOK
  rw [h0, h1, h2, h3]
theorem NOK_c {f g : qN} (h : ∀ e, 0 ≤ e → e < 244 → g e = f e) (hf : NOK R f) : NOK R g := by
  obtain ⟨a, b, c, ⟨d1, d2, d3, d4⟩, e, e2⟩ := hf
  have w := h 8 (by omega) (by omega)
  refine ⟨?_, ?_, ?_, ⟨fun k k1 k2 => ?_, fun k k1 k2 => ?_, fun k k1 k2 => ?_, fun k k1 k2 => ?_⟩, fun k k1 k2 => ?_, ?_⟩
  · unfold NOKa; rw [h 0 (by omega) (by omega), h 1 (by omega) (by omega), h 2 (by omega) (by omega), h 3 (by omega) (by omega)]; exact a
  · unfold NOKb; rw [h 4 (by omega) (by omega), h 5 (by omega) (by omega), h 6 (by omega) (by omega), h 7 (by omega) (by omega), h 9 (by omega) (by omega), w]; exact b
  · unfold NOKc; rw [h 10 (by omega) (by omega), h 11 (by omega) (by omega), h 12 (by omega) (by omega), h 13 (by omega) (by omega), h 14 (by omega) (by omega)]; exact c
  · rw [h k (by omega) (by omega)]; exact d1 k k1 k2
  · rw [h k (by omega) (by omega)]; exact d2 k k1 k2
  · rw [h k (by omega) (by omega)]; exact d3 k k1 k2
  · rw [h k (by omega) (by omega)]; exact d4 k k1 k2
  · rw [w] at k2
    have := b.1.2.2.1
    exact (EOK_c (fun i i1 i2 => h _ (by omega) (by omega))).mpr (e k k1 k2)
  · unfold NOKf; rw [h 3 (by omega) (by omega), h 1 (by omega) (by omega)]; exact ⟨fun q k k1 k2 => by rw [h k (by omega) (by omega)]; exact e2.1 q k k1 k2, e2.2⟩
theorem MOK_c {f g : qN} (h : ∀ e, 0 ≤ e → e < 27 → e ≠ 4 → g e = f e) (hf : MOK R f) : MOK R g := by
  obtain ⟨a, b1, b2, b3, b4, b5, b6⟩ := hf
  have h5 := h 5 (by omega) (by omega) (by omega)
  have h2 := h 2 (by omega) (by omega) (by omega)
  have h6 := h 6 (by omega) (by omega) (by omega)
  have h7 := h 7 (by omega) (by omega) (by omega)
  have h8 := h 8 (by omega) (by omega) (by omega)
  refine ⟨?_, ?_, ?_, ?_, ?_, ?_, ?_⟩
  · unfold MOKa; rw [h 0 (by omega) (by omega) (by omega), h 1 (by omega) (by omega) (by omega), h2, h 3 (by omega) (by omega) (by omega), h5, h 10 (by omega) (by omega) (by omega)]; exact a
  · rw [h2, h6, h7]; exact b1
  · rw [h2, h6]; exact b2
  · rw [h2, h6, h5, h8]
    intro q
    obtain ⟨q1, q2, q3, q4⟩ := b3 q
    refine ⟨q1, q2, q3, fun k k1 k2 => (EOK_c (fun i i1 i2 => h _ (by omega) ?_ (by omega))).mpr (q4 k k1 k2)⟩
    have := a.2.2.2.2.2.2.1.2; omega
  · rw [h2, h6, h7]; exact b4
  · rw [h2, h6, h7, h8, h 9 (by omega) (by omega) (by omega)]
    intro q
    obtain ⟨q1, q2, q3, q4, q5⟩ := b5 q
    exact ⟨q1, q2, q3, q4, fun k k1 k2 => by rw [h k (by omega) (by omega) (by omega)]; exact q5 k k1 k2⟩
  · rw [h2, h6]; exact b6
theorem ROK_c {f g : qN} (h : ∀ e, 0 ≤ e → e < 6 → g e = f e) (hf : ROK R f) : ROK R g := by
  unfold ROK
  rw [h 0 (by omega) (by omega), h 1 (by omega) (by omega), h 2 (by omega) (by omega), h 3 (by omega) (by omega), h 4 (by omega) (by omega), h 5 (by omega) (by omega)]
  exact hf
/-- a node's cells alone were changed -/
theorem OK_off (h : OK R S) (hn : 0 ≤ n ∧ n ≤ 6) (ho : offN S S' n) (hN : NOK R (nd S' n)) (hs : smS S') : OK R S' := by
  obtain ⟨⟨a1, a2⟩, b, c, d, e, f1, f2, f3⟩ := h
  refine ⟨⟨hs, a2⟩, fun m m1 m2 => ?_, fun m m1 m2 => ?_, fun m m1 m2 => ?_, ?_, fun m m1 m2 => ?_, fun m m1 m2 => ?_, fun m m1 m2 => ?_⟩
  · by_cases q : m = n
    · subst q; exact hN
    · exact NOK_c (fun e e1 e2 => nd_off hn ho q ⟨e1, e2⟩) (b m m1 m2)
  · rw [ho 11133 (by omega)] at m2
    exact MOK_c (fun e e1 e2 _ => ho _ (by omega)) (c m m1 m2)
  · rw [ho 11135 (by omega)] at m2
    exact ROK_c (fun e e1 e2 => ho _ (by omega)) (d m m1 m2)
  · unfold GOK; rw [ho 11131 (by omega), ho 11132 (by omega), ho 11133 (by omega), ho 11134 (by omega), ho 11135 (by omega), ho 11137 (by omega)]; exact e
  · rw [ho _ (by omega)]; exact f1 m m1 m2
  · rw [ho _ (by omega)]
    exact (f2 m m1 m2).imp id (fun q => (EOK_c (fun i i1 i2 => ho _ (by omega))).mpr q)
  · rw [ho _ (by omega)]; exact f3 m m1 m2
end OKs
/-- how many indexes are held -/
def hcF (S : qN) : Nat → Int
  | 0 => 0
  | j + 1 => hcF S j + (if S (6028 + 4 * j) = 0 then 0 else 1)
def hcnt (S : qN) : Int := hcF S 1000
theorem hcF_c {S S' : qN} : ∀ j : Nat, (∀ i : Int, 0 ≤ i → i < j → S' (6028 + 4 * i) = S (6028 + 4 * i)) → hcF S' j = hcF S j
  | 0, _ => rfl
  | j + 1, h => by
    unfold hcF
    rw [hcF_c j (fun i i1 i2 => h i i1 (by omega)), h j (by omega) (by omega)]
theorem hcnt_c {S S' : qN} (h : ∀ j, 6028 ≤ j → j < 10028 → S' j = S j) : hcnt S' = hcnt S := hcF_c 1000 (fun i i1 i2 => h _ (by omega) (by omega))
/-- what is changed but the row 'now': what was written on the way, and the count of what was held -/
def Rx (r r' : qI) : Prop := (∀ a, a ≠ 2199 → a ≠ 2202 → a ≠ 2216 → a ≠ 2217 → a ≠ 2198 → r' a = r a) ∧ (∀ k, k ≠ 29 → r' 2198 k = r 2198 k) ∧ r' 2198 29 - hcnt (r' 2199) = r 2198 29 - hcnt (r 2199)
theorem Rx_rf (r : qI) : Rx r r := ⟨fun _ _ _ _ _ _ => rfl, fun _ _ => rfl, rfl⟩
theorem Rx_tr {r r' r'' : qI} (h : Rx r r') (h' : Rx r' r'') : Rx r r'' :=
  ⟨fun a a1 a2 a3 a4 a5 => (h'.1 a a1 a2 a3 a4 a5).trans (h.1 a a1 a2 a3 a4 a5), fun k hk => (h'.2.1 k hk).trans (h.2.1 k hk), h'.2.2.trans h.2.2⟩
theorem Rx_2199 {r : qI} {f : Int → Int} (h : ∀ j, 6028 ≤ j → j < 10028 → f j = r 2199 j) : Rx r (uA r 2199 f) :=
  ⟨fun a a1 _ _ _ _ => uA_ne a1, fun _ _ => by rw [uA_ne (by omega)], by rw [uA_ne (by omega), uA_same, hcnt_c h]⟩
theorem Rx_w {r : qI} {a : Nat} {f : Int → Int} (h : a = 2202 ∨ a = 2216 ∨ a = 2217) : Rx r (uA r a f) :=
  ⟨fun b b1 b2 b3 b4 b5 => uA_ne (by omega), fun _ _ => by rw [uA_ne (by omega)], by rw [uA_ne (by omega), uA_ne (by omega)]⟩
/-- a contract of what changes the row: the answer, the new row -/
def TR (l : Launch) (V : qV) (d : Nat) (mi : qMI) (as : List Value) (s : qS) (c r : qI) (v : Option Value) (S' : qN) : Prop :=
  T l V mi (rm d) 0 0 as (mkH s (jn c r)) (fun v' h' => v' = v ∧ ∃ r', h' = mkH s (jn c r') ∧ r' 2199 = S' ∧ Rx r r')
theorem T_imp {l : Launch} {V : qV} {mi : qMI} {R : Room} {mc ms : Nat} {as : List Value} {h : qH} {Q Q' : Option Value → qH → Prop} (hT : T l V mi R mc ms as h Q) (hq : ∀ v h, Q v h → Q' v h) : T l V mi R mc ms as h Q' := by
  intro p e h1 h2 h3 s m args below h4 h5 h6 h7
  obtain ⟨n, o, a1, a2, a3, ⟨⟨v, h', b1, b2, b3⟩, b4⟩, b5⟩ := hT p e h1 h2 h3 s m args below h4 h5 h6 h7
  exact ⟨n, o, a1, a2, a3, ⟨⟨v, h', b1, hq v h' b2, b3⟩, b4⟩, b5⟩
section MS
variable {l : Launch} {V : qV} {d : Nat} {s : qS} {c r : qI}
theorem TR_of {mi : qMI} {as : List Value} {v : Option Value} {r' : qI} {S' : qN} (h : T l V mi (rm d) 0 0 as (mkH s (jn c r)) (fun v' h' => v' = v ∧ h' = mkH s (jn c r'))) (h1 : r' 2199 = S') (h2 : Rx r r') : TR l V d mi as s c r v S' :=
  T_imp h (fun _ _ q => ⟨q.1, r', q.2, h1, h2⟩)
/-- a call by such a contract -/
theorem GCR {mi : qMI} {Q : Option Value → qH → Prop} {cd : Nat → Option qE} {op nx a b w0 pc d1 : Nat} {vv : Int} {L : List (Int × Nat)} {lv st as rest : List Value} {t : qMI} {v1 : Option Value} {S' : qN} {d' : Nat} (hcd : cdok mi cd) (he : cd pc = some (op, nx, a, b, vv, L, w0)) (hop : 43 ≤ op ∧ op ≤ 45) (ht : qms[a]? = some t)
    (hT : TR l V d1 t as s c r v1 S') (hst : st = as.reverse ++ rest) (hal : as.length = b + (if op = 45 then 0 else 1)) (hrc : (op = 44 ∨ op = 43) → ∃ x as', as = .ref x :: as' ∧ (hK (mkH s (jn c r)) x).1 = t.2.2.2.2.2.1 ∧ t.2.2.2.2.2.1 < 10)
    (hrt : rest.all qtr = true) (hr8 : rest.length ≤ 8) (hd : d1 < d') (kk : ∀ r', r' 2199 = S' → Rx r r' → G l V mi (rm d') 0 0 Q 0 0 nx lv (v1.toList ++ rest) (mkH s (jn c r'))) : G l V mi (rm d') 0 0 Q 0 0 pc lv st (mkH s (jn c r)) :=
  GCQ hcd he hop ht hT hst hal hrc hrt hr8 hd (fun v1 h1 q => by obtain ⟨rfl, r', rfl, q1, q2⟩ := q; exact kk r' q1 q2)
end MS
