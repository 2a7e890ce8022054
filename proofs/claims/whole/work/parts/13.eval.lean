/-! the evaluator: blocks, with known calls by what they come to -/
theorem nrfl {α : Type _} {a b : α} (h : a = b) : a = b := h
def rm (d : Nat) : Room := { frames := d + 1, cells := 0, slots := 0, locals := 64 * (d + 1) }
theorem rm_ok (d : Nat) : 1 ≤ (rm d).frames ∧ 64 ≤ (rm d).locals ∧ (rm d).cells = 0 ∧ (rm d).slots = 0 := ⟨by simp [rm], by simp [rm]; omega, rfl, rfl⟩
theorem rm_lt {d d' : Nat} (h : d' < d) : (rm d').frames + 1 ≤ (rm d).frames ∧ (rm d').locals + 64 ≤ (rm d).locals ∧ (rm d').cells = 0 ∧ (rm d').slots = 0 := ⟨by simp [rm]; omega, by simp [rm]; omega, rfl, rfl⟩
abbrev qSm : Type := Nat → List Value → qH → Option (Prop × Option Value × qH)
def smok (l : Launch) (V : qV) (d : Nat) (sm : qSm) : Prop := ∀ (a : Nat) (as : List Value) (h : qH) (P : Prop) (v : Option Value) (h' : qH), sm a as h = some (P, v, h') → P → ∃ t, qms[a]? = some t ∧ T l V t (rm d) 0 0 as h (fun v' h'' => v' = v ∧ h'' = h') ∧ (t.2.2.2.2.2.2 ≠ 0 → ∃ x as', as = .ref x :: as' ∧ (hK h x).1 = t.2.2.2.2.2.1 ∧ t.2.2.2.2.2.1 < 10)
def qspl : Nat → List Value → List Value → Option (List Value × List Value)
  | 0, acc, st => some (acc, st)
  | n + 1, acc, v :: st => qspl n (v :: acc) st
  | _ + 1, _, [] => none
def qrest (r : List Value) : Prop := r.all qtr = true ∧ r.length ≤ 8
def qrok (ret : Option FieldType) (x : Int32) : Prop := ret = some .int ∨ (ret = some .boolean ∧ (x = 0 ∨ x = 1))
theorem qspl_len : ∀ (n : Nat) (acc st : List Value) {as rest : List Value}, qspl n acc st = some (as, rest) → as.length = n + acc.length ∧ acc.reverse ++ st = as.reverse ++ rest
  | 0, acc, st, as, rest, h => by cases h; exact ⟨by omega, rfl⟩
  | n + 1, acc, v :: st, as, rest, h => by
    obtain ⟨h1, h2⟩ := qspl_len n (v :: acc) st h
    refine ⟨by rw [h1, List.length_cons]; omega, ?_⟩
    rw [← h2]; simp
  | n + 1, acc, [], as, rest, h => by cases h
def evE (V : qV) (sm : qSm) (ret : Option FieldType) (Q : Option Value → qH → Prop) (oe : Option qE) (K Kn : qC) (pc : Nat) (lv st : List Value) (h : qH) : Prop := match oe with
  | none => False
  | some (op, nx, a, b, v, L, w) =>
    if op < 40 then wpI V (op, nx, a, b, v, L, w) lv st h Kn
    else match op with
    | 40 => (match st with | [.int x] => qrok ret x ∧ Q (some (.int x)) h | _ => False)
    | 41 => (match st with | [] => ret = none ∧ Q none h | _ => False)
    | 42 => (match st with | [.ref x] => (∃ n, ret = some (.object n)) ∧ Q (some (.ref x)) h | _ => False)
    | 43 => (match qspl (b + 1) [] st with | some (as, rest) => (match sm a as h with | some (P, v, h') => P ∧ qrest rest ∧ Kn nx lv (v.toList ++ rest) h' | none => K pc lv st h) | none => False)
    | 44 => (match qspl (b + 1) [] st with | some (as, rest) => (match sm a as h with | some (P, v, h') => P ∧ qrest rest ∧ Kn nx lv (v.toList ++ rest) h' | none => K pc lv st h) | none => False)
    | 45 => (match qspl b [] st with | some (as, rest) => (match sm a as h with | some (P, v, h') => P ∧ qrest rest ∧ Kn nx lv (v.toList ++ rest) h' | none => K pc lv st h) | none => False)
    | _ => K pc lv st h
def ev (V : qV) (sm : qSm) (ret : Option FieldType) (Q : Option Value → qH → Prop) (cd : Nat → Option qE) (stop : Nat → Bool) : Nat → qC → qC
  | 0, K => K
  | n + 1, K => fun pc lv st h => evE V sm ret Q (cd pc) K (fun pc' lv' st' h' => if stop pc' = true then K pc' lv' st' h' else ev V sm ret Q cd stop n K pc' lv' st' h') pc lv st h
theorem v_0 {V : qV} {nx a b : Nat} {v : Int} {L : List (Int × Nat)} {w0 : Nat} {lv st : List Value} {h : qH} {K : qC} : wpI V (0, nx, a, b, v, L, w0) lv st h K = (K nx lv (.int (Int32.ofInt v) :: st) h) := nrfl w_0
theorem v_1 {V : qV} {nx a b : Nat} {v : Int} {L : List (Int × Nat)} {w0 : Nat} {lv st : List Value} {h : qH} {K : qC} : wpI V (1, nx, a, b, v, L, w0) lv st h K = (match lv[a]? with | some (.int x) => K nx lv (.int x :: st) h | _ => False) := nrfl w_1
theorem v_2 {V : qV} {nx a b : Nat} {v : Int} {L : List (Int × Nat)} {w0 : Nat} {lv st : List Value} {h : qH} {K : qC} : wpI V (2, nx, a, b, v, L, w0) lv st h K = (match lv[a]? with | some (.ref x) => K nx lv (.ref x :: st) h | _ => False) := nrfl w_2
theorem v_3 {V : qV} {nx a b : Nat} {v : Int} {L : List (Int × Nat)} {w0 : Nat} {lv st : List Value} {h : qH} {K : qC} : wpI V (3, nx, a, b, v, L, w0) lv st h K = (match st with | .int x :: r => a < lv.length ∧ K nx (lv.set a (.int x)) r h | _ => False) := nrfl w_3
theorem v_4 {V : qV} {nx a b : Nat} {v : Int} {L : List (Int × Nat)} {w0 : Nat} {lv st : List Value} {h : qH} {K : qC} : wpI V (4, nx, a, b, v, L, w0) lv st h K = (match st with | .ref x :: r => a < lv.length ∧ K nx (lv.set a (.ref x)) r h | _ => False) := nrfl w_4
theorem v_5 {V : qV} {nx a b : Nat} {v : Int} {L : List (Int × Nat)} {w0 : Nat} {lv st : List Value} {h : qH} {K : qC} : wpI V (5, nx, a, b, v, L, w0) lv st h K = (match lv[a]? with | some (.int x) => K nx (lv.set a (.int (x + Int32.ofInt v))) st h | _ => False) := nrfl w_5
theorem v_6 {V : qV} {nx a b : Nat} {v : Int} {L : List (Int × Nat)} {w0 : Nat} {lv st : List Value} {h : qH} {K : qC} : wpI V (6, nx, a, b, v, L, w0) lv st h K = (match st with | .int y :: .int x :: r => K nx lv (.int (binO b x y) :: r) h | _ => False) := nrfl w_6
theorem v_7 {V : qV} {nx a b : Nat} {v : Int} {L : List (Int × Nat)} {w0 : Nat} {lv st : List Value} {h : qH} {K : qC} : wpI V (7, nx, a, b, v, L, w0) lv st h K = (match st with | .int y :: .int x :: r => ¬ y.toInt = 0 ∧ K nx lv (.int (x / y) :: r) h | _ => False) := nrfl w_7
theorem v_8 {V : qV} {nx a b : Nat} {v : Int} {L : List (Int × Nat)} {w0 : Nat} {lv st : List Value} {h : qH} {K : qC} : wpI V (8, nx, a, b, v, L, w0) lv st h K = (match st with | .int y :: .int x :: r => ¬ y.toInt = 0 ∧ K nx lv (.int (x % y) :: r) h | _ => False) := nrfl w_8
theorem v_9 {V : qV} {nx a b : Nat} {v : Int} {L : List (Int × Nat)} {w0 : Nat} {lv st : List Value} {h : qH} {K : qC} : wpI V (9, nx, a, b, v, L, w0) lv st h K = (match st with | .int x :: r => K nx lv (.int x.toInt8.toInt32 :: r) h | _ => False) := nrfl w_9
theorem v_10 {V : qV} {nx a b : Nat} {v : Int} {L : List (Int × Nat)} {w0 : Nat} {lv st : List Value} {h : qH} {K : qC} : wpI V (10, nx, a, b, v, L, w0) lv st h K = (match st with | .int x :: r => K nx lv (.int x :: .int x :: r) h | .ref x :: r => K nx lv (.ref x :: .ref x :: r) h | _ => False) := nrfl w_10
theorem v_11 {V : qV} {nx a b : Nat} {v : Int} {L : List (Int × Nat)} {w0 : Nat} {lv st : List Value} {h : qH} {K : qC} : wpI V (11, nx, a, b, v, L, w0) lv st h K = (match st with | .int _ :: r => K nx lv r h | .ref _ :: r => K nx lv r h | _ => False) := nrfl w_11
theorem v_12 {V : qV} {nx a b : Nat} {v : Int} {L : List (Int × Nat)} {w0 : Nat} {lv st : List Value} {h : qH} {K : qC} : wpI V (12, nx, a, b, v, L, w0) lv st h K = (match st with | .int y :: .ref x :: r => K nx lv (.int y :: .ref x :: .int y :: .ref x :: r) h | _ => False) := nrfl w_12
theorem v_13 {V : qV} {nx a b : Nat} {v : Int} {L : List (Int × Nat)} {w0 : Nat} {lv st : List Value} {h : qH} {K : qC} : wpI V (13, nx, a, b, v, L, w0) lv st h K = (K a lv st h) := nrfl w_13
theorem v_14 {V : qV} {nx a b : Nat} {v : Int} {L : List (Int × Nat)} {w0 : Nat} {lv st : List Value} {h : qH} {K : qC} : wpI V (14, nx, a, b, v, L, w0) lv st h K = (match st with | .int x :: r => (cmpP b x 0 → K a lv r h) ∧ (¬ cmpP b x 0 → K nx lv r h) | _ => False) := nrfl w_14
theorem v_15 {V : qV} {nx a b : Nat} {v : Int} {L : List (Int × Nat)} {w0 : Nat} {lv st : List Value} {h : qH} {K : qC} : wpI V (15, nx, a, b, v, L, w0) lv st h K = (match st with | .int y :: .int x :: r => (cmpP b x y → K a lv r h) ∧ (¬ cmpP b x y → K nx lv r h) | _ => False) := nrfl w_15
theorem v_16 {V : qV} {nx a b : Nat} {v : Int} {L : List (Int × Nat)} {w0 : Nat} {lv st : List Value} {h : qH} {K : qC} : wpI V (16, nx, a, b, v, L, w0) lv st h K = (match st with | .ref x :: r => (x = 0 → K a lv r h) ∧ (¬ x = 0 → K nx lv r h) | _ => False) := nrfl w_16
theorem v_17 {V : qV} {nx a b : Nat} {v : Int} {L : List (Int × Nat)} {w0 : Nat} {lv st : List Value} {h : qH} {K : qC} : wpI V (17, nx, a, b, v, L, w0) lv st h K = (match st with | .ref x :: r => (¬ x = 0 → K a lv r h) ∧ (x = 0 → K nx lv r h) | _ => False) := nrfl w_17
theorem v_18 {V : qV} {nx a b : Nat} {v : Int} {L : List (Int × Nat)} {w0 : Nat} {lv st : List Value} {h : qH} {K : qC} : wpI V (18, nx, a, b, v, L, w0) lv st h K = (match st with | .int x :: r => swP x a (fun t => K t lv r h) L | _ => False) := nrfl w_18
theorem v_19 {V : qV} {nx a b : Nat} {v : Int} {L : List (Int × Nat)} {w0 : Nat} {lv st : List Value} {h : qH} {K : qC} : wpI V (19, nx, a, b, v, L, w0) lv st h K = (match st with | .ref x :: r => (hK h x).1 = a ∧ K nx lv (.int (hM h x b) :: r) h | _ => False) := nrfl w_19
theorem v_20 {V : qV} {nx a b : Nat} {v : Int} {L : List (Int × Nat)} {w0 : Nat} {lv st : List Value} {h : qH} {K : qC} : wpI V (20, nx, a, b, v, L, w0) lv st h K = (match st with | .ref x :: r => (hK h x).1 = a ∧ K nx lv (.ref (hR h x b) :: r) h | _ => False) := nrfl w_20
theorem v_21 {V : qV} {nx a b : Nat} {v : Int} {L : List (Int × Nat)} {w0 : Nat} {lv st : List Value} {h : qH} {K : qC} : wpI V (21, nx, a, b, v, L, w0) lv st h K = (match st with | .int y :: .ref x :: r => (hK h x).1 = a ∧ K nx lv r (setM h x b y) | _ => False) := nrfl w_21
theorem v_22 {V : qV} {nx a b : Nat} {v : Int} {L : List (Int × Nat)} {w0 : Nat} {lv st : List Value} {h : qH} {K : qC} : wpI V (22, nx, a, b, v, L, w0) lv st h K = (match st with | .int y :: .ref x :: r => (hK h x).1 = a ∧ (y = 0 ∨ y = 1) ∧ K nx lv r (setM h x b y) | _ => False) := nrfl w_22
theorem v_23 {V : qV} {nx a b : Nat} {v : Int} {L : List (Int × Nat)} {w0 : Nat} {lv st : List Value} {h : qH} {K : qC} : wpI V (23, nx, a, b, v, L, w0) lv st h K = (match st with | .ref y :: .ref x :: r => (hK h x).1 = a ∧ K nx lv r (setR h x b y) | _ => False) := nrfl w_23
theorem v_24 {V : qV} {nx a b : Nat} {v : Int} {L : List (Int × Nat)} {w0 : Nat} {lv st : List Value} {h : qH} {K : qC} : wpI V (24, nx, a, b, v, L, w0) lv st h K = (match st with | .int i :: .ref x :: r => (hK h x).1 = 100 ∧ inB i (hK h x).2 ∧ K nx lv (.int (hM h x i.toInt) :: r) h | _ => False) := nrfl w_24
theorem v_25 {V : qV} {nx a b : Nat} {v : Int} {L : List (Int × Nat)} {w0 : Nat} {lv st : List Value} {h : qH} {K : qC} : wpI V (25, nx, a, b, v, L, w0) lv st h K = (match st with | .int y :: .int i :: .ref x :: r => (hK h x).1 = 100 ∧ inB i (hK h x).2 ∧ K nx lv r (setM h x i.toInt y) | _ => False) := nrfl w_25
theorem v_26 {V : qV} {nx a b : Nat} {v : Int} {L : List (Int × Nat)} {w0 : Nat} {lv st : List Value} {h : qH} {K : qC} : wpI V (26, nx, a, b, v, L, w0) lv st h K = (match st with | .int i :: .ref x :: r => (102 ≤ (hK h x).1 ∧ (hK h x).1 ≤ 104) ∧ inB i (hK h x).2 ∧ K nx lv (.ref (hR h x i.toInt) :: r) h | _ => False) := nrfl w_26
theorem v_27 {V : qV} {nx a b : Nat} {v : Int} {L : List (Int × Nat)} {w0 : Nat} {lv st : List Value} {h : qH} {K : qC} : wpI V (27, nx, a, b, v, L, w0) lv st h K = (match st with | .ref y :: .int i :: .ref x :: r => (((hK h x).1 = 102 ∧ (hK h y).1 = 3) ∨ ((hK h x).1 = 103 ∧ (hK h y).1 = 2) ∨ ((hK h x).1 = 104 ∧ (hK h y).1 = 5)) ∧ inB i (hK h x).2 ∧ K nx lv r (setR h x i.toInt y) | _ => False) := nrfl w_27
theorem v_28 {V : qV} {nx a b : Nat} {v : Int} {L : List (Int × Nat)} {w0 : Nat} {lv st : List Value} {h : qH} {K : qC} : wpI V (28, nx, a, b, v, L, w0) lv st h K = (match st with | .int i :: .ref x :: r => (hK h x).1 = 101 ∧ inB i (hK h x).2 ∧ K nx lv (.int (hM h x i.toInt) :: r) h | _ => False) := nrfl w_28
theorem v_29 {V : qV} {nx a b : Nat} {v : Int} {L : List (Int × Nat)} {w0 : Nat} {lv st : List Value} {h : qH} {K : qC} : wpI V (29, nx, a, b, v, L, w0) lv st h K = (match st with | .int y :: .int i :: .ref x :: r => (hK h x).1 = 101 ∧ inB i (hK h x).2 ∧ y.toInt8.toInt32 = y ∧ K nx lv r (setM h x i.toInt y) | _ => False) := nrfl w_29
theorem v_30 {V : qV} {nx a b : Nat} {v : Int} {L : List (Int × Nat)} {w0 : Nat} {lv st : List Value} {h : qH} {K : qC} : wpI V (30, nx, a, b, v, L, w0) lv st h K = (match st with | .ref x :: r => (100 ≤ (hK h x).1 ∧ (hK h x).1 ≤ 104) ∧ K nx lv (.int (Int32.ofInt (hK h x).2) :: r) h | _ => False) := nrfl w_30
theorem v_31 {V : qV} {nx a b : Nat} {v : Int} {L : List (Int × Nat)} {w0 : Nat} {lv st : List Value} {h : qH} {K : qC} : wpI V (31, nx, a, b, v, L, w0) lv st h K = (K nx lv (.ref 0 :: st) h) := nrfl w_31
theorem v_32 {V : qV} {nx a b : Nat} {v : Int} {L : List (Int × Nat)} {w0 : Nat} {lv st : List Value} {h : qH} {K : qC} : wpI V (32, nx, a, b, v, L, w0) lv st h K = (match st with | .ref x :: r => ¬ x = 0 ∧ r.length ≤ 16 ∧ K nx lv r h | _ => False) := nrfl w_32
theorem v_33 {V : qV} {nx a b : Nat} {v : Int} {L : List (Int × Nat)} {w0 : Nat} {lv st : List Value} {h : qH} {K : qC} : wpI V (33, nx, a, b, v, L, w0) lv st h K = (match st with
      | .int n :: .int dp :: .ref a1 :: .int sp :: .ref a0 :: r => (hK h a0).1 = 100 ∧ (hK h a1).1 = 100 ∧ 0 ≤ sp.toInt ∧ 0 ≤ dp.toInt ∧ 0 ≤ n.toInt ∧ sp.toInt + n.toInt ≤ (hK h a0).2 ∧ dp.toInt + n.toInt ≤ (hK h a1).2 ∧ r.length ≤ 8 ∧ K nx lv r (cpyM h a0 sp.toInt a1 dp.toInt n.toInt)
      | _ => False) := nrfl w_33
theorem v_34 {V : qV} {nx a b : Nat} {v : Int} {L : List (Int × Nat)} {w0 : Nat} {lv st : List Value} {h : qH} {K : qC} : wpI V (34, nx, a, b, v, L, w0) lv st h K = (match st with | .int i :: .ref x :: r => x = 1 ∧ inB i V.2.1 ∧ K nx lv (.int (V.2.2.2.1 i.toInt.toNat) :: r) h | _ => False) := nrfl w_34
theorem v_35 {V : qV} {nx a b : Nat} {v : Int} {L : List (Int × Nat)} {w0 : Nat} {lv st : List Value} {h : qH} {K : qC} : wpI V (35, nx, a, b, v, L, w0) lv st h K = (match st with | .ref x :: r => x = 1 ∧ K nx lv (.int (Int32.ofInt V.2.1) :: r) h | _ => False) := nrfl w_35
theorem v_36 {V : qV} {nx a b : Nat} {v : Int} {L : List (Int × Nat)} {w0 : Nat} {lv st : List Value} {h : qH} {K : qC} : wpI V (36, nx, a, b, v, L, w0) lv st h K = (match st with | .int y :: .int x :: r => r.length ≤ 8 ∧ K nx lv (.int (if x.toInt < y.toInt then y else x) :: r) h | _ => False) := nrfl w_36
theorem v_37 {V : qV} {nx a b : Nat} {v : Int} {L : List (Int × Nat)} {w0 : Nat} {lv st : List Value} {h : qH} {K : qC} : wpI V (37, nx, a, b, v, L, w0) lv st h K = (match st with | .int y :: .int x :: r => r.length ≤ 8 ∧ K nx lv (.int (if y.toInt < x.toInt then y else x) :: r) h | _ => False) := nrfl w_37
section Ev
variable {V : qV} {sm : qSm} {ret : Option FieldType} {Q : Option Value → qH → Prop} {cd : Nat → Option qE} {stop : Nat → Bool} {n : Nat} {K Kn : qC} {pc nx a b w0 : Nat} {v : Int} {L : List (Int × Nat)} {lv st : List Value} {h : qH}
def evN (V : qV) (sm : qSm) (ret : Option FieldType) (Q : Option Value → qH → Prop) (cd : Nat → Option qE) (stop : Nat → Bool) (n : Nat) (K : qC) : qC := fun pc lv st h => if stop pc = true then K pc lv st h else ev V sm ret Q cd stop n K pc lv st h
theorem ev_z : ev V sm ret Q cd stop 0 K pc lv st h = K pc lv st h := nrfl rfl
theorem ev_s : ev V sm ret Q cd stop (n + 1) K pc lv st h = evE V sm ret Q (cd pc) K (evN V sm ret Q cd stop n K) pc lv st h := nrfl rfl
theorem evN_ap : evN V sm ret Q cd stop n K pc lv st h = if stop pc = true then K pc lv st h else ev V sm ret Q cd stop n K pc lv st h := nrfl rfl
theorem e_0 : evE V sm ret Q (some (0, nx, a, b, v, L, w0)) K Kn pc lv st h = wpI V (0, nx, a, b, v, L, w0) lv st h Kn := nrfl rfl
theorem e_1 : evE V sm ret Q (some (1, nx, a, b, v, L, w0)) K Kn pc lv st h = wpI V (1, nx, a, b, v, L, w0) lv st h Kn := nrfl rfl
theorem e_2 : evE V sm ret Q (some (2, nx, a, b, v, L, w0)) K Kn pc lv st h = wpI V (2, nx, a, b, v, L, w0) lv st h Kn := nrfl rfl
theorem e_3 : evE V sm ret Q (some (3, nx, a, b, v, L, w0)) K Kn pc lv st h = wpI V (3, nx, a, b, v, L, w0) lv st h Kn := nrfl rfl
theorem e_4 : evE V sm ret Q (some (4, nx, a, b, v, L, w0)) K Kn pc lv st h = wpI V (4, nx, a, b, v, L, w0) lv st h Kn := nrfl rfl
theorem e_5 : evE V sm ret Q (some (5, nx, a, b, v, L, w0)) K Kn pc lv st h = wpI V (5, nx, a, b, v, L, w0) lv st h Kn := nrfl rfl
theorem e_6 : evE V sm ret Q (some (6, nx, a, b, v, L, w0)) K Kn pc lv st h = wpI V (6, nx, a, b, v, L, w0) lv st h Kn := nrfl rfl
theorem e_7 : evE V sm ret Q (some (7, nx, a, b, v, L, w0)) K Kn pc lv st h = wpI V (7, nx, a, b, v, L, w0) lv st h Kn := nrfl rfl
theorem e_8 : evE V sm ret Q (some (8, nx, a, b, v, L, w0)) K Kn pc lv st h = wpI V (8, nx, a, b, v, L, w0) lv st h Kn := nrfl rfl
theorem e_9 : evE V sm ret Q (some (9, nx, a, b, v, L, w0)) K Kn pc lv st h = wpI V (9, nx, a, b, v, L, w0) lv st h Kn := nrfl rfl
theorem e_10 : evE V sm ret Q (some (10, nx, a, b, v, L, w0)) K Kn pc lv st h = wpI V (10, nx, a, b, v, L, w0) lv st h Kn := nrfl rfl
theorem e_11 : evE V sm ret Q (some (11, nx, a, b, v, L, w0)) K Kn pc lv st h = wpI V (11, nx, a, b, v, L, w0) lv st h Kn := nrfl rfl
theorem e_12 : evE V sm ret Q (some (12, nx, a, b, v, L, w0)) K Kn pc lv st h = wpI V (12, nx, a, b, v, L, w0) lv st h Kn := nrfl rfl
theorem e_13 : evE V sm ret Q (some (13, nx, a, b, v, L, w0)) K Kn pc lv st h = wpI V (13, nx, a, b, v, L, w0) lv st h Kn := nrfl rfl
theorem e_14 : evE V sm ret Q (some (14, nx, a, b, v, L, w0)) K Kn pc lv st h = wpI V (14, nx, a, b, v, L, w0) lv st h Kn := nrfl rfl
theorem e_15 : evE V sm ret Q (some (15, nx, a, b, v, L, w0)) K Kn pc lv st h = wpI V (15, nx, a, b, v, L, w0) lv st h Kn := nrfl rfl
theorem e_16 : evE V sm ret Q (some (16, nx, a, b, v, L, w0)) K Kn pc lv st h = wpI V (16, nx, a, b, v, L, w0) lv st h Kn := nrfl rfl
theorem e_17 : evE V sm ret Q (some (17, nx, a, b, v, L, w0)) K Kn pc lv st h = wpI V (17, nx, a, b, v, L, w0) lv st h Kn := nrfl rfl
theorem e_18 : evE V sm ret Q (some (18, nx, a, b, v, L, w0)) K Kn pc lv st h = wpI V (18, nx, a, b, v, L, w0) lv st h Kn := nrfl rfl
theorem e_19 : evE V sm ret Q (some (19, nx, a, b, v, L, w0)) K Kn pc lv st h = wpI V (19, nx, a, b, v, L, w0) lv st h Kn := nrfl rfl
theorem e_20 : evE V sm ret Q (some (20, nx, a, b, v, L, w0)) K Kn pc lv st h = wpI V (20, nx, a, b, v, L, w0) lv st h Kn := nrfl rfl
theorem e_21 : evE V sm ret Q (some (21, nx, a, b, v, L, w0)) K Kn pc lv st h = wpI V (21, nx, a, b, v, L, w0) lv st h Kn := nrfl rfl
theorem e_22 : evE V sm ret Q (some (22, nx, a, b, v, L, w0)) K Kn pc lv st h = wpI V (22, nx, a, b, v, L, w0) lv st h Kn := nrfl rfl
theorem e_23 : evE V sm ret Q (some (23, nx, a, b, v, L, w0)) K Kn pc lv st h = wpI V (23, nx, a, b, v, L, w0) lv st h Kn := nrfl rfl
theorem e_24 : evE V sm ret Q (some (24, nx, a, b, v, L, w0)) K Kn pc lv st h = wpI V (24, nx, a, b, v, L, w0) lv st h Kn := nrfl rfl
theorem e_25 : evE V sm ret Q (some (25, nx, a, b, v, L, w0)) K Kn pc lv st h = wpI V (25, nx, a, b, v, L, w0) lv st h Kn := nrfl rfl
theorem e_26 : evE V sm ret Q (some (26, nx, a, b, v, L, w0)) K Kn pc lv st h = wpI V (26, nx, a, b, v, L, w0) lv st h Kn := nrfl rfl
theorem e_27 : evE V sm ret Q (some (27, nx, a, b, v, L, w0)) K Kn pc lv st h = wpI V (27, nx, a, b, v, L, w0) lv st h Kn := nrfl rfl
theorem e_28 : evE V sm ret Q (some (28, nx, a, b, v, L, w0)) K Kn pc lv st h = wpI V (28, nx, a, b, v, L, w0) lv st h Kn := nrfl rfl
theorem e_29 : evE V sm ret Q (some (29, nx, a, b, v, L, w0)) K Kn pc lv st h = wpI V (29, nx, a, b, v, L, w0) lv st h Kn := nrfl rfl
theorem e_30 : evE V sm ret Q (some (30, nx, a, b, v, L, w0)) K Kn pc lv st h = wpI V (30, nx, a, b, v, L, w0) lv st h Kn := nrfl rfl
theorem e_31 : evE V sm ret Q (some (31, nx, a, b, v, L, w0)) K Kn pc lv st h = wpI V (31, nx, a, b, v, L, w0) lv st h Kn := nrfl rfl
theorem e_32 : evE V sm ret Q (some (32, nx, a, b, v, L, w0)) K Kn pc lv st h = wpI V (32, nx, a, b, v, L, w0) lv st h Kn := nrfl rfl
theorem e_33 : evE V sm ret Q (some (33, nx, a, b, v, L, w0)) K Kn pc lv st h = wpI V (33, nx, a, b, v, L, w0) lv st h Kn := nrfl rfl
theorem e_34 : evE V sm ret Q (some (34, nx, a, b, v, L, w0)) K Kn pc lv st h = wpI V (34, nx, a, b, v, L, w0) lv st h Kn := nrfl rfl
theorem e_35 : evE V sm ret Q (some (35, nx, a, b, v, L, w0)) K Kn pc lv st h = wpI V (35, nx, a, b, v, L, w0) lv st h Kn := nrfl rfl
theorem e_36 : evE V sm ret Q (some (36, nx, a, b, v, L, w0)) K Kn pc lv st h = wpI V (36, nx, a, b, v, L, w0) lv st h Kn := nrfl rfl
theorem e_37 : evE V sm ret Q (some (37, nx, a, b, v, L, w0)) K Kn pc lv st h = wpI V (37, nx, a, b, v, L, w0) lv st h Kn := nrfl rfl
theorem e_40 {x : Int32} : evE V sm ret Q (some (40, nx, a, b, v, L, w0)) K Kn pc lv [.int x] h = (qrok ret x ∧ Q (some (.int x)) h) := nrfl rfl
theorem e_41 : evE V sm ret Q (some (41, nx, a, b, v, L, w0)) K Kn pc lv [] h = (ret = none ∧ Q none h) := nrfl rfl
theorem e_42 {x : Nat} : evE V sm ret Q (some (42, nx, a, b, v, L, w0)) K Kn pc lv [.ref x] h = ((∃ n, ret = some (.object n)) ∧ Q (some (.ref x)) h) := nrfl rfl
def evC (sm : qSm) (K Kn : qC) (pc nx a : Nat) (lv st : List Value) (h : qH) (o : Option (List Value × List Value)) : Prop := match o with
  | some (as, rest) => (match sm a as h with | some (P, v, h') => P ∧ qrest rest ∧ Kn nx lv (v.toList ++ rest) h' | none => K pc lv st h)
  | none => False
theorem e_43 : evE V sm ret Q (some (43, nx, a, b, v, L, w0)) K Kn pc lv st h = evC sm K Kn pc nx a lv st h (qspl (b + 1) [] st) := nrfl rfl
theorem e_44 : evE V sm ret Q (some (44, nx, a, b, v, L, w0)) K Kn pc lv st h = evC sm K Kn pc nx a lv st h (qspl (b + 1) [] st) := nrfl rfl
theorem e_45 : evE V sm ret Q (some (45, nx, a, b, v, L, w0)) K Kn pc lv st h = evC sm K Kn pc nx a lv st h (qspl b [] st) := nrfl rfl
theorem qspl_z {acc st : List Value} : qspl 0 acc st = some (acc, st) := nrfl rfl
theorem qspl_s {acc st : List Value} {u : Value} : qspl (n + 1) acc (u :: st) = qspl n (u :: acc) st := nrfl rfl
def evD (K Kn : qC) (pc nx : Nat) (lv st rest : List Value) (h : qH) (o : Option (Prop × Option Value × qH)) : Prop := match o with
  | some (P, v, h') => P ∧ qrest rest ∧ Kn nx lv (v.toList ++ rest) h'
  | none => K pc lv st h
theorem evC_s {as rest : List Value} : evC sm K Kn pc nx a lv st h (some (as, rest)) = evD K Kn pc nx lv st rest h (sm a as h) := nrfl rfl
theorem evD_none {rest : List Value} : evD K Kn pc nx lv st rest h none = K pc lv st h := nrfl rfl
theorem evD_v {rest : List Value} {P : Prop} {h' : qH} : evD K Kn pc nx lv st rest h (some (P, none, h')) = (P ∧ qrest rest ∧ Kn nx lv rest h') := nrfl rfl
theorem evD_s {rest : List Value} {P : Prop} {u : Value} {h' : qH} : evD K Kn pc nx lv st rest h (some (P, some u, h')) = (P ∧ qrest rest ∧ Kn nx lv (u :: rest) h') := nrfl rfl
theorem qrest_n : qrest [] = True := by simp [qrest]
theorem qrest_1 {u1 : Value} : qrest [u1] = (qtr u1 = true) := by simp [qrest]
theorem qrest_2 {u1 u2 : Value} : qrest [u1, u2] = (qtr u1 = true ∧ qtr u2 = true) := by simp [qrest]
theorem qrest_3 {u1 u2 u3 : Value} : qrest [u1, u2, u3] = (qtr u1 = true ∧ qtr u2 = true ∧ qtr u3 = true) := by simp [qrest]
theorem qrest_4 {u1 u2 u3 u4 : Value} : qrest [u1, u2, u3, u4] = (qtr u1 = true ∧ qtr u2 = true ∧ qtr u3 = true ∧ qtr u4 = true) := by simp [qrest]
theorem qrest_5 {u1 u2 u3 u4 u5 : Value} : qrest [u1, u2, u3, u4, u5] = (qtr u1 = true ∧ qtr u2 = true ∧ qtr u3 = true ∧ qtr u4 = true ∧ qtr u5 = true) := by simp [qrest]
theorem qrest_6 {u1 u2 u3 u4 u5 u6 : Value} : qrest [u1, u2, u3, u4, u5, u6] = (qtr u1 = true ∧ qtr u2 = true ∧ qtr u3 = true ∧ qtr u4 = true ∧ qtr u5 = true ∧ qtr u6 = true) := by simp [qrest]
theorem qtr_i {x : Int32} : (qtr (.int x) = true) = True := by simp [qtr]
theorem qtr_r {x : Nat} : (qtr (.ref x) = true) = True := by simp [qtr]
theorem c_0 {x y : Int32} : cmpP 0 x y = (x.toInt = y.toInt) := nrfl rfl
theorem c_1 {x y : Int32} : cmpP 1 x y = (¬ x.toInt = y.toInt) := nrfl rfl
theorem c_2 {x y : Int32} : cmpP 2 x y = (x.toInt < y.toInt) := nrfl rfl
theorem c_3 {x y : Int32} : cmpP 3 x y = (y.toInt ≤ x.toInt) := nrfl rfl
theorem c_4 {x y : Int32} : cmpP 4 x y = (y.toInt < x.toInt) := nrfl rfl
theorem c_5 {x y : Int32} : cmpP 5 x y = (x.toInt ≤ y.toInt) := nrfl rfl
theorem b_0 {x y : Int32} : binO 0 x y = x + y := nrfl rfl
theorem b_1 {x y : Int32} : binO 1 x y = x - y := nrfl rfl
theorem b_2 {x y : Int32} : binO 2 x y = x * y := nrfl rfl
theorem b_3 {x y : Int32} : binO 3 x y = x &&& y := nrfl rfl
theorem b_4 {x y : Int32} : binO 4 x y = x ||| y := nrfl rfl
theorem b_5 {x y : Int32} : binO 5 x y = x ^^^ y := nrfl rfl
theorem b_6 {x y : Int32} : binO 6 x y = x <<< (y &&& 31) := nrfl rfl
theorem b_7 {x y : Int32} : binO 7 x y = x >>> (y &&& 31) := nrfl rfl
theorem b_8 {x y : Int32} : binO 8 x y = (x.toUInt32 >>> (y.toUInt32 &&& Int32.toUInt32 31)).toInt32 := nrfl rfl
end Ev
section EvG
variable {l : Launch} {V : qV} {mi : qMI} {d mc ms nc ns : Nat} {Q : Option Value → qH → Prop} {cd : Nat → Option qE} {sm : qSm} {R : Room}
theorem G_ev0 (hcd : cdok mi cd) (h33 : nc = 0 ∨ ∀ pc e, cd pc = some e → e.1 ≠ 33) (hnc : nc ≤ R.cells) (hns : ns ≤ R.slots) (hmc : nc = mc ∧ ns = ms) (hsm : smok l V d sm) (hrm : (rm d).frames + 1 ≤ R.frames ∧ (rm d).locals + 64 ≤ R.locals) (stop : Nat → Bool) {K : qC} (hK : ∀ pc lv st h, K pc lv st h → G l V mi R mc ms Q nc ns pc lv st h) : ∀ (n : Nat) {pc : Nat} {lv st : List Value} {h : qH}, ev V sm mi.2.2.2.1 Q cd stop n K pc lv st h → G l V mi R mc ms Q nc ns pc lv st h
  | 0, _, _, _, _, w => hK _ _ _ _ w
  | n + 1, pc, lv, st, h, w => by
    have ih := @G_ev0 hcd h33 hnc hns hmc hsm hrm stop K hK n
    have hKn : ∀ pc' lv' st' h', (if stop pc' = true then K pc' lv' st' h' else ev V sm mi.2.2.2.1 Q cd stop n K pc' lv' st' h') → G l V mi R mc ms Q nc ns pc' lv' st' h' := by
      intro pc' lv' st' h' k
      split at k
      · exact hK _ _ _ _ k
      · exact ih k
    unfold ev evE at w
    split at w
    · exact w.elim
    · rename_i op nx a b v L w0 he
      split at w
      · rename_i hlt
        intro p e s m args below meth c Z C RT
        obtain ⟨i, len, hdec, hrel⟩ := hcd _ _ he
        refine st_all C hnc hns hdec hrel hlt (h33.imp id (fun q => q _ _ he)) (wpI_mono (fun pc' lv' st' h' k => hKn _ _ _ _ k p e s m args below meth c Z C RT) w)
      · have calls : ∀ (bb : Nat), (43 ≤ op ∧ op ≤ 45) → bb = b + (if op = 45 then 0 else 1) → (match qspl bb [] st with
              | some (as, rest) => (match sm a as h with | some (P, v, h') => P ∧ qrest rest ∧ (if stop nx = true then K nx lv (v.toList ++ rest) h' else ev V sm mi.2.2.2.1 Q cd stop n K nx lv (v.toList ++ rest) h') | none => K pc lv st h)
              | none => False) → G l V mi R mc ms Q nc ns pc lv st h := by
          intro bb hop hbb w
          split at w
          · rename_i as rest hsp
            obtain ⟨h1, h2⟩ := qspl_len _ _ _ hsp
            split at w
            · rename_i P v' h' hs
              obtain ⟨w1, w2, w3⟩ := w
              obtain ⟨t, t1, t2, t3⟩ := hsm _ _ _ _ _ _ hs w1
              refine G_call st hcd he hop t1 t2 (by simpa using h2) (by simp at h1; omega) (fun ho => t3 ?_) w2.1 w2.2 ⟨hrm.1, hrm.2, rfl, rfl⟩ ⟨hnc, hns⟩ (fun v2 h2 hq => ?_)
              · intro hk0
                obtain ⟨i, len, hdec, hrel⟩ := hcd _ _ he
                obtain ⟨-, -, t', idx, f1, -, f3⟩ := qrel_call hop hrel
                have e0 : t' = t := Option.some.inj (f1.symm.trans t1)
                subst e0
                rcases f3 with ⟨-, -, f4, -⟩ | ⟨-, -, f4, -⟩ | ⟨-, -, f4, -⟩ | ⟨f5, -⟩ | ⟨f5, -⟩ <;> omega
              · obtain ⟨rfl, rfl⟩ := hq
                exact hKn _ _ _ _ w3
            · exact hK _ _ _ _ w
          · exact w.elim
        split at w
        · split at w
          · rename_i x
            obtain ⟨rfl, rfl⟩ := hmc
            exact G_iret hcd he w.1 w.2
          · exact w.elim
        · split at w
          · obtain ⟨rfl, rfl⟩ := hmc
            exact G_vret hcd he w.1 w.2
          · exact w.elim
        · split at w
          · obtain ⟨rfl, rfl⟩ := hmc
            exact G_aret hcd he w.1 w.2
          · exact w.elim
        · exact calls (b + 1) (by omega) rfl w
        · exact calls (b + 1) (by omega) rfl w
        · exact calls b (by omega) rfl w
        · exact hK _ _ _ _ w
/-- the walk of a method without makings, from a place on -/
theorem G_ev (hcd : cdok mi cd) (hsm : smok l V d sm) (stop : Nat → Bool) (n : Nat) {d' : Nat} (hd : d < d') {pc : Nat} {lv st : List Value} {h : qH}
    (w : ∀ K : qC, (∀ pc lv st h, G l V mi (rm d') 0 0 Q 0 0 pc lv st h → K pc lv st h) → ev V sm mi.2.2.2.1 Q cd stop n K pc lv st h) : G l V mi (rm d') 0 0 Q 0 0 pc lv st h :=
  G_ev0 hcd (Or.inl rfl) (Nat.zero_le _) (Nat.zero_le _) ⟨rfl, rfl⟩ hsm ⟨(rm_lt hd).1, (rm_lt hd).2.1⟩ stop (fun _ _ _ _ k => k) n (w _ (fun _ _ _ _ k => k))
theorem T_ev {k : Nat} {as : List Value} {h : qH} (hm : qms[k]? = some mi) (lv : List Value) (hlv : lv = as ++ List.replicate (mi.2.2.1 - as.length) (.retAddr 0)) (hta : as.all qtr = true) (hal : as.length ≤ mi.2.2.1) (hcd : cdok mi cd) (hsm : smok l V d sm) (stop : Nat → Bool) (n : Nat) {d' : Nat} (hd : d < d')
    (w : ∀ K : qC, (∀ pc lv st h, G l V mi (rm d') 0 0 Q 0 0 pc lv st h → K pc lv st h) → ev V sm mi.2.2.2.1 Q cd stop n K 0 lv [] h) : T l V mi (rm d') 0 0 as h Q := by
  subst hlv
  exact T_of hm hta hal (rm_ok d') (G_ev hcd hsm stop n hd w)
/-- a call whose contract says exactly what comes back -/
theorem GCD {op nx a b w0 pc d1 : Nat} {vv : Int} {L : List (Int × Nat)} {lv st as rest : List Value} {h h1 : qH} {t : qMI} {v1 : Option Value} {d' : Nat} (hcd : cdok mi cd) (he : cd pc = some (op, nx, a, b, vv, L, w0)) (hop : 43 ≤ op ∧ op ≤ 45) (ht : qms[a]? = some t)
    (hT : T l V t (rm d1) 0 0 as h (fun v h' => v = v1 ∧ h' = h1)) (hst : st = as.reverse ++ rest) (hal : as.length = b + (if op = 45 then 0 else 1)) (hrc : (op = 44 ∨ op = 43) → ∃ x as', as = .ref x :: as' ∧ (hK h x).1 = t.2.2.2.2.2.1 ∧ t.2.2.2.2.2.1 < 10)
    (hrt : rest.all qtr = true) (hr8 : rest.length ≤ 8) (hd : d1 < d') (kk : G l V mi (rm d') 0 0 Q 0 0 nx lv (v1.toList ++ rest) h1) : G l V mi (rm d') 0 0 Q 0 0 pc lv st h :=
  G_call st hcd he hop ht hT hst hal hrc hrt hr8 (rm_lt hd) ⟨Nat.zero_le _, Nat.zero_le _⟩ (fun v h' q => by obtain ⟨rfl, rfl⟩ := q; exact kk)
/-- a call by what its contract says of the end -/
theorem GCQ {op nx a b w0 pc d1 : Nat} {vv : Int} {L : List (Int × Nat)} {lv st as rest : List Value} {h : qH} {t : qMI} {Q' : Option Value → qH → Prop} {d' : Nat} (hcd : cdok mi cd) (he : cd pc = some (op, nx, a, b, vv, L, w0)) (hop : 43 ≤ op ∧ op ≤ 45) (ht : qms[a]? = some t)
    (hT : T l V t (rm d1) 0 0 as h Q') (hst : st = as.reverse ++ rest) (hal : as.length = b + (if op = 45 then 0 else 1)) (hrc : (op = 44 ∨ op = 43) → ∃ x as', as = .ref x :: as' ∧ (hK h x).1 = t.2.2.2.2.2.1 ∧ t.2.2.2.2.2.1 < 10)
    (hrt : rest.all qtr = true) (hr8 : rest.length ≤ 8) (hd : d1 < d') (kk : ∀ v1 h1, Q' v1 h1 → G l V mi (rm d') 0 0 Q 0 0 nx lv (v1.toList ++ rest) h1) : G l V mi (rm d') 0 0 Q 0 0 pc lv st h :=
  G_call st hcd he hop ht hT hst hal hrc hrt hr8 (rm_lt hd) ⟨Nat.zero_le _, Nat.zero_le _⟩ kk
def sm0 : qSm := fun _ _ _ => none
theorem sm0_no {a : Nat} {as : List Value} {h : qH} : sm0 a as h = none := nrfl rfl
theorem sm0_ok {d : Nat} (_ : 0 ≤ d := Nat.zero_le _) : smok l V d sm0 := fun _ _ _ _ _ _ h => by cases h
end EvG
