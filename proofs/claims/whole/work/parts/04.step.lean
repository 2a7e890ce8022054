/-! one step of the small machine, as what must hold ahead of it -/
def cmpP (b : Nat) (x y : Int32) : Prop := match b with
  | 0 => x.toInt = y.toInt
  | 1 => ¬ x.toInt = y.toInt
  | 2 => x.toInt < y.toInt
  | 3 => y.toInt ≤ x.toInt
  | 4 => y.toInt < x.toInt
  | _ => x.toInt ≤ y.toInt
def binO (b : Nat) (x y : Int32) : Int32 := match b with
  | 0 => x + y
  | 1 => x - y
  | 2 => x * y
  | 3 => x &&& y
  | 4 => x ||| y
  | 5 => x ^^^ y
  | 6 => x <<< (y &&& 31)
  | 7 => x >>> (y &&& 31)
  | _ => (x.toUInt32 >>> (y.toUInt32 &&& Int32.toUInt32 31)).toInt32
def inB (i : Int32) (n : Nat) : Prop := 0 ≤ i.toInt ∧ i.toInt < n
abbrev qC : Type := Nat → List Value → List Value → qH → Prop
def swP (x : Int32) (dflt : Nat) (K : Nat → Prop) : List (Int × Nat) → Prop
  | [] => K dflt
  | (v, t) :: l => (x.toInt = v → K t) ∧ (¬ x.toInt = v → swP x dflt K l)
def wpI (V : qV) (e : qE) (lv st : List Value) (h : qH) (K : qC) : Prop :=
  match e with
  | (op, nx, a, b, v, L, _) =>
    match op with
    | 0 => K nx lv (.int (Int32.ofInt v) :: st) h
    | 1 => match lv[a]? with | some (.int x) => K nx lv (.int x :: st) h | _ => False
    | 2 => match lv[a]? with | some (.ref x) => K nx lv (.ref x :: st) h | _ => False
    | 3 => match st with | .int x :: r => a < lv.length ∧ K nx (lv.set a (.int x)) r h | _ => False
    | 4 => match st with | .ref x :: r => a < lv.length ∧ K nx (lv.set a (.ref x)) r h | _ => False
    | 5 => match lv[a]? with | some (.int x) => K nx (lv.set a (.int (x + Int32.ofInt v))) st h | _ => False
    | 6 => match st with | .int y :: .int x :: r => K nx lv (.int (binO b x y) :: r) h | _ => False
    | 7 => match st with | .int y :: .int x :: r => ¬ y.toInt = 0 ∧ K nx lv (.int (x / y) :: r) h | _ => False
    | 8 => match st with | .int y :: .int x :: r => ¬ y.toInt = 0 ∧ K nx lv (.int (x % y) :: r) h | _ => False
    | 9 => match st with | .int x :: r => K nx lv (.int x.toInt8.toInt32 :: r) h | _ => False
    | 10 => match st with | .int x :: r => K nx lv (.int x :: .int x :: r) h | .ref x :: r => K nx lv (.ref x :: .ref x :: r) h | _ => False
    | 11 => match st with | .int _ :: r => K nx lv r h | .ref _ :: r => K nx lv r h | _ => False
    | 12 => match st with | .int y :: .ref x :: r => K nx lv (.int y :: .ref x :: .int y :: .ref x :: r) h | _ => False
    | 13 => K a lv st h
    | 14 => match st with | .int x :: r => (cmpP b x 0 → K a lv r h) ∧ (¬ cmpP b x 0 → K nx lv r h) | _ => False
    | 15 => match st with | .int y :: .int x :: r => (cmpP b x y → K a lv r h) ∧ (¬ cmpP b x y → K nx lv r h) | _ => False
    | 16 => match st with | .ref x :: r => (x = 0 → K a lv r h) ∧ (¬ x = 0 → K nx lv r h) | _ => False
    | 17 => match st with | .ref x :: r => (¬ x = 0 → K a lv r h) ∧ (x = 0 → K nx lv r h) | _ => False
    | 18 => match st with | .int x :: r => swP x a (fun t => K t lv r h) L | _ => False
    | 19 => match st with | .ref x :: r => (hK h x).1 = a ∧ K nx lv (.int (hM h x b) :: r) h | _ => False
    | 20 => match st with | .ref x :: r => (hK h x).1 = a ∧ K nx lv (.ref (hR h x b) :: r) h | _ => False
    | 21 => match st with | .int y :: .ref x :: r => (hK h x).1 = a ∧ K nx lv r (setM h x b y) | _ => False
    | 22 => match st with | .int y :: .ref x :: r => (hK h x).1 = a ∧ (y = 0 ∨ y = 1) ∧ K nx lv r (setM h x b y) | _ => False
    | 23 => match st with | .ref y :: .ref x :: r => (hK h x).1 = a ∧ K nx lv r (setR h x b y) | _ => False
    | 24 => match st with | .int i :: .ref x :: r => (hK h x).1 = 100 ∧ inB i (hK h x).2 ∧ K nx lv (.int (hM h x i.toInt) :: r) h | _ => False
    | 25 => match st with | .int y :: .int i :: .ref x :: r => (hK h x).1 = 100 ∧ inB i (hK h x).2 ∧ K nx lv r (setM h x i.toInt y) | _ => False
    | 26 => match st with | .int i :: .ref x :: r => (102 ≤ (hK h x).1 ∧ (hK h x).1 ≤ 104) ∧ inB i (hK h x).2 ∧ K nx lv (.ref (hR h x i.toInt) :: r) h | _ => False
    | 27 => match st with | .ref y :: .int i :: .ref x :: r => (((hK h x).1 = 102 ∧ (hK h y).1 = 3) ∨ ((hK h x).1 = 103 ∧ (hK h y).1 = 2) ∨ ((hK h x).1 = 104 ∧ (hK h y).1 = 5)) ∧ inB i (hK h x).2 ∧ K nx lv r (setR h x i.toInt y) | _ => False
    | 28 => match st with | .int i :: .ref x :: r => (hK h x).1 = 101 ∧ inB i (hK h x).2 ∧ K nx lv (.int (hM h x i.toInt) :: r) h | _ => False
    | 29 => match st with | .int y :: .int i :: .ref x :: r => (hK h x).1 = 101 ∧ inB i (hK h x).2 ∧ y.toInt8.toInt32 = y ∧ K nx lv r (setM h x i.toInt y) | _ => False
    | 30 => match st with | .ref x :: r => (100 ≤ (hK h x).1 ∧ (hK h x).1 ≤ 104) ∧ K nx lv (.int (Int32.ofInt (hK h x).2) :: r) h | _ => False
    | 31 => K nx lv (.ref 0 :: st) h
    | 32 => match st with | .ref x :: r => ¬ x = 0 ∧ r.length ≤ 16 ∧ K nx lv r h | _ => False
    | 33 => match st with
      | .int n :: .int dp :: .ref a1 :: .int sp :: .ref a0 :: r => (hK h a0).1 = 100 ∧ (hK h a1).1 = 100 ∧ 0 ≤ sp.toInt ∧ 0 ≤ dp.toInt ∧ 0 ≤ n.toInt ∧ sp.toInt + n.toInt ≤ (hK h a0).2 ∧ dp.toInt + n.toInt ≤ (hK h a1).2 ∧ r.length ≤ 8 ∧ K nx lv r (cpyM h a0 sp.toInt a1 dp.toInt n.toInt)
      | _ => False
    | 34 => match st with | .int i :: .ref x :: r => x = 1 ∧ inB i V.2.1 ∧ K nx lv (.int (V.2.2.2.1 i.toInt.toNat) :: r) h | _ => False
    | 35 => match st with | .ref x :: r => x = 1 ∧ K nx lv (.int (Int32.ofInt V.2.1) :: r) h | _ => False
    | 36 => match st with | .int y :: .int x :: r => r.length ≤ 8 ∧ K nx lv (.int (if x.toInt < y.toInt then y else x) :: r) h | _ => False
    | 37 => match st with | .int y :: .int x :: r => r.length ≤ 8 ∧ K nx lv (.int (if y.toInt < x.toInt then y else x) :: r) h | _ => False
    | _ => False
theorem w_0 {V : qV} {nx a b : Nat} {v : Int} {L : List (Int × Nat)} {w0 : Nat} {lv st : List Value} {h : qH} {K : qC} : wpI V (0, nx, a, b, v, L, w0) lv st h K = (K nx lv (.int (Int32.ofInt v) :: st) h) := rfl
theorem w_1 {V : qV} {nx a b : Nat} {v : Int} {L : List (Int × Nat)} {w0 : Nat} {lv st : List Value} {h : qH} {K : qC} : wpI V (1, nx, a, b, v, L, w0) lv st h K = (match lv[a]? with | some (.int x) => K nx lv (.int x :: st) h | _ => False) := rfl
theorem w_2 {V : qV} {nx a b : Nat} {v : Int} {L : List (Int × Nat)} {w0 : Nat} {lv st : List Value} {h : qH} {K : qC} : wpI V (2, nx, a, b, v, L, w0) lv st h K = (match lv[a]? with | some (.ref x) => K nx lv (.ref x :: st) h | _ => False) := rfl
theorem w_3 {V : qV} {nx a b : Nat} {v : Int} {L : List (Int × Nat)} {w0 : Nat} {lv st : List Value} {h : qH} {K : qC} : wpI V (3, nx, a, b, v, L, w0) lv st h K = (match st with | .int x :: r => a < lv.length ∧ K nx (lv.set a (.int x)) r h | _ => False) := rfl
theorem w_4 {V : qV} {nx a b : Nat} {v : Int} {L : List (Int × Nat)} {w0 : Nat} {lv st : List Value} {h : qH} {K : qC} : wpI V (4, nx, a, b, v, L, w0) lv st h K = (match st with | .ref x :: r => a < lv.length ∧ K nx (lv.set a (.ref x)) r h | _ => False) := rfl
theorem w_5 {V : qV} {nx a b : Nat} {v : Int} {L : List (Int × Nat)} {w0 : Nat} {lv st : List Value} {h : qH} {K : qC} : wpI V (5, nx, a, b, v, L, w0) lv st h K = (match lv[a]? with | some (.int x) => K nx (lv.set a (.int (x + Int32.ofInt v))) st h | _ => False) := rfl
theorem w_6 {V : qV} {nx a b : Nat} {v : Int} {L : List (Int × Nat)} {w0 : Nat} {lv st : List Value} {h : qH} {K : qC} : wpI V (6, nx, a, b, v, L, w0) lv st h K = (match st with | .int y :: .int x :: r => K nx lv (.int (binO b x y) :: r) h | _ => False) := rfl
theorem w_7 {V : qV} {nx a b : Nat} {v : Int} {L : List (Int × Nat)} {w0 : Nat} {lv st : List Value} {h : qH} {K : qC} : wpI V (7, nx, a, b, v, L, w0) lv st h K = (match st with | .int y :: .int x :: r => ¬ y.toInt = 0 ∧ K nx lv (.int (x / y) :: r) h | _ => False) := rfl
theorem w_8 {V : qV} {nx a b : Nat} {v : Int} {L : List (Int × Nat)} {w0 : Nat} {lv st : List Value} {h : qH} {K : qC} : wpI V (8, nx, a, b, v, L, w0) lv st h K = (match st with | .int y :: .int x :: r => ¬ y.toInt = 0 ∧ K nx lv (.int (x % y) :: r) h | _ => False) := rfl
theorem w_9 {V : qV} {nx a b : Nat} {v : Int} {L : List (Int × Nat)} {w0 : Nat} {lv st : List Value} {h : qH} {K : qC} : wpI V (9, nx, a, b, v, L, w0) lv st h K = (match st with | .int x :: r => K nx lv (.int x.toInt8.toInt32 :: r) h | _ => False) := rfl
theorem w_10 {V : qV} {nx a b : Nat} {v : Int} {L : List (Int × Nat)} {w0 : Nat} {lv st : List Value} {h : qH} {K : qC} : wpI V (10, nx, a, b, v, L, w0) lv st h K = (match st with | .int x :: r => K nx lv (.int x :: .int x :: r) h | .ref x :: r => K nx lv (.ref x :: .ref x :: r) h | _ => False) := rfl
theorem w_11 {V : qV} {nx a b : Nat} {v : Int} {L : List (Int × Nat)} {w0 : Nat} {lv st : List Value} {h : qH} {K : qC} : wpI V (11, nx, a, b, v, L, w0) lv st h K = (match st with | .int _ :: r => K nx lv r h | .ref _ :: r => K nx lv r h | _ => False) := rfl
theorem w_12 {V : qV} {nx a b : Nat} {v : Int} {L : List (Int × Nat)} {w0 : Nat} {lv st : List Value} {h : qH} {K : qC} : wpI V (12, nx, a, b, v, L, w0) lv st h K = (match st with | .int y :: .ref x :: r => K nx lv (.int y :: .ref x :: .int y :: .ref x :: r) h | _ => False) := rfl
theorem w_13 {V : qV} {nx a b : Nat} {v : Int} {L : List (Int × Nat)} {w0 : Nat} {lv st : List Value} {h : qH} {K : qC} : wpI V (13, nx, a, b, v, L, w0) lv st h K = (K a lv st h) := rfl
theorem w_14 {V : qV} {nx a b : Nat} {v : Int} {L : List (Int × Nat)} {w0 : Nat} {lv st : List Value} {h : qH} {K : qC} : wpI V (14, nx, a, b, v, L, w0) lv st h K = (match st with | .int x :: r => (cmpP b x 0 → K a lv r h) ∧ (¬ cmpP b x 0 → K nx lv r h) | _ => False) := rfl
theorem w_15 {V : qV} {nx a b : Nat} {v : Int} {L : List (Int × Nat)} {w0 : Nat} {lv st : List Value} {h : qH} {K : qC} : wpI V (15, nx, a, b, v, L, w0) lv st h K = (match st with | .int y :: .int x :: r => (cmpP b x y → K a lv r h) ∧ (¬ cmpP b x y → K nx lv r h) | _ => False) := rfl
theorem w_16 {V : qV} {nx a b : Nat} {v : Int} {L : List (Int × Nat)} {w0 : Nat} {lv st : List Value} {h : qH} {K : qC} : wpI V (16, nx, a, b, v, L, w0) lv st h K = (match st with | .ref x :: r => (x = 0 → K a lv r h) ∧ (¬ x = 0 → K nx lv r h) | _ => False) := rfl
theorem w_17 {V : qV} {nx a b : Nat} {v : Int} {L : List (Int × Nat)} {w0 : Nat} {lv st : List Value} {h : qH} {K : qC} : wpI V (17, nx, a, b, v, L, w0) lv st h K = (match st with | .ref x :: r => (¬ x = 0 → K a lv r h) ∧ (x = 0 → K nx lv r h) | _ => False) := rfl
theorem w_18 {V : qV} {nx a b : Nat} {v : Int} {L : List (Int × Nat)} {w0 : Nat} {lv st : List Value} {h : qH} {K : qC} : wpI V (18, nx, a, b, v, L, w0) lv st h K = (match st with | .int x :: r => swP x a (fun t => K t lv r h) L | _ => False) := rfl
theorem w_19 {V : qV} {nx a b : Nat} {v : Int} {L : List (Int × Nat)} {w0 : Nat} {lv st : List Value} {h : qH} {K : qC} : wpI V (19, nx, a, b, v, L, w0) lv st h K = (match st with | .ref x :: r => (hK h x).1 = a ∧ K nx lv (.int (hM h x b) :: r) h | _ => False) := rfl
theorem w_20 {V : qV} {nx a b : Nat} {v : Int} {L : List (Int × Nat)} {w0 : Nat} {lv st : List Value} {h : qH} {K : qC} : wpI V (20, nx, a, b, v, L, w0) lv st h K = (match st with | .ref x :: r => (hK h x).1 = a ∧ K nx lv (.ref (hR h x b) :: r) h | _ => False) := rfl
theorem w_21 {V : qV} {nx a b : Nat} {v : Int} {L : List (Int × Nat)} {w0 : Nat} {lv st : List Value} {h : qH} {K : qC} : wpI V (21, nx, a, b, v, L, w0) lv st h K = (match st with | .int y :: .ref x :: r => (hK h x).1 = a ∧ K nx lv r (setM h x b y) | _ => False) := rfl
theorem w_22 {V : qV} {nx a b : Nat} {v : Int} {L : List (Int × Nat)} {w0 : Nat} {lv st : List Value} {h : qH} {K : qC} : wpI V (22, nx, a, b, v, L, w0) lv st h K = (match st with | .int y :: .ref x :: r => (hK h x).1 = a ∧ (y = 0 ∨ y = 1) ∧ K nx lv r (setM h x b y) | _ => False) := rfl
theorem w_23 {V : qV} {nx a b : Nat} {v : Int} {L : List (Int × Nat)} {w0 : Nat} {lv st : List Value} {h : qH} {K : qC} : wpI V (23, nx, a, b, v, L, w0) lv st h K = (match st with | .ref y :: .ref x :: r => (hK h x).1 = a ∧ K nx lv r (setR h x b y) | _ => False) := rfl
theorem w_24 {V : qV} {nx a b : Nat} {v : Int} {L : List (Int × Nat)} {w0 : Nat} {lv st : List Value} {h : qH} {K : qC} : wpI V (24, nx, a, b, v, L, w0) lv st h K = (match st with | .int i :: .ref x :: r => (hK h x).1 = 100 ∧ inB i (hK h x).2 ∧ K nx lv (.int (hM h x i.toInt) :: r) h | _ => False) := rfl
theorem w_25 {V : qV} {nx a b : Nat} {v : Int} {L : List (Int × Nat)} {w0 : Nat} {lv st : List Value} {h : qH} {K : qC} : wpI V (25, nx, a, b, v, L, w0) lv st h K = (match st with | .int y :: .int i :: .ref x :: r => (hK h x).1 = 100 ∧ inB i (hK h x).2 ∧ K nx lv r (setM h x i.toInt y) | _ => False) := rfl
theorem w_26 {V : qV} {nx a b : Nat} {v : Int} {L : List (Int × Nat)} {w0 : Nat} {lv st : List Value} {h : qH} {K : qC} : wpI V (26, nx, a, b, v, L, w0) lv st h K = (match st with | .int i :: .ref x :: r => (102 ≤ (hK h x).1 ∧ (hK h x).1 ≤ 104) ∧ inB i (hK h x).2 ∧ K nx lv (.ref (hR h x i.toInt) :: r) h | _ => False) := rfl
theorem w_27 {V : qV} {nx a b : Nat} {v : Int} {L : List (Int × Nat)} {w0 : Nat} {lv st : List Value} {h : qH} {K : qC} : wpI V (27, nx, a, b, v, L, w0) lv st h K = (match st with | .ref y :: .int i :: .ref x :: r => (((hK h x).1 = 102 ∧ (hK h y).1 = 3) ∨ ((hK h x).1 = 103 ∧ (hK h y).1 = 2) ∨ ((hK h x).1 = 104 ∧ (hK h y).1 = 5)) ∧ inB i (hK h x).2 ∧ K nx lv r (setR h x i.toInt y) | _ => False) := rfl
theorem w_28 {V : qV} {nx a b : Nat} {v : Int} {L : List (Int × Nat)} {w0 : Nat} {lv st : List Value} {h : qH} {K : qC} : wpI V (28, nx, a, b, v, L, w0) lv st h K = (match st with | .int i :: .ref x :: r => (hK h x).1 = 101 ∧ inB i (hK h x).2 ∧ K nx lv (.int (hM h x i.toInt) :: r) h | _ => False) := rfl
theorem w_29 {V : qV} {nx a b : Nat} {v : Int} {L : List (Int × Nat)} {w0 : Nat} {lv st : List Value} {h : qH} {K : qC} : wpI V (29, nx, a, b, v, L, w0) lv st h K = (match st with | .int y :: .int i :: .ref x :: r => (hK h x).1 = 101 ∧ inB i (hK h x).2 ∧ y.toInt8.toInt32 = y ∧ K nx lv r (setM h x i.toInt y) | _ => False) := rfl
theorem w_30 {V : qV} {nx a b : Nat} {v : Int} {L : List (Int × Nat)} {w0 : Nat} {lv st : List Value} {h : qH} {K : qC} : wpI V (30, nx, a, b, v, L, w0) lv st h K = (match st with | .ref x :: r => (100 ≤ (hK h x).1 ∧ (hK h x).1 ≤ 104) ∧ K nx lv (.int (Int32.ofInt (hK h x).2) :: r) h | _ => False) := rfl
theorem w_31 {V : qV} {nx a b : Nat} {v : Int} {L : List (Int × Nat)} {w0 : Nat} {lv st : List Value} {h : qH} {K : qC} : wpI V (31, nx, a, b, v, L, w0) lv st h K = (K nx lv (.ref 0 :: st) h) := rfl
theorem w_32 {V : qV} {nx a b : Nat} {v : Int} {L : List (Int × Nat)} {w0 : Nat} {lv st : List Value} {h : qH} {K : qC} : wpI V (32, nx, a, b, v, L, w0) lv st h K = (match st with | .ref x :: r => ¬ x = 0 ∧ r.length ≤ 16 ∧ K nx lv r h | _ => False) := rfl
theorem w_33 {V : qV} {nx a b : Nat} {v : Int} {L : List (Int × Nat)} {w0 : Nat} {lv st : List Value} {h : qH} {K : qC} : wpI V (33, nx, a, b, v, L, w0) lv st h K = (match st with
      | .int n :: .int dp :: .ref a1 :: .int sp :: .ref a0 :: r => (hK h a0).1 = 100 ∧ (hK h a1).1 = 100 ∧ 0 ≤ sp.toInt ∧ 0 ≤ dp.toInt ∧ 0 ≤ n.toInt ∧ sp.toInt + n.toInt ≤ (hK h a0).2 ∧ dp.toInt + n.toInt ≤ (hK h a1).2 ∧ r.length ≤ 8 ∧ K nx lv r (cpyM h a0 sp.toInt a1 dp.toInt n.toInt)
      | _ => False) := rfl
theorem w_34 {V : qV} {nx a b : Nat} {v : Int} {L : List (Int × Nat)} {w0 : Nat} {lv st : List Value} {h : qH} {K : qC} : wpI V (34, nx, a, b, v, L, w0) lv st h K = (match st with | .int i :: .ref x :: r => x = 1 ∧ inB i V.2.1 ∧ K nx lv (.int (V.2.2.2.1 i.toInt.toNat) :: r) h | _ => False) := rfl
theorem w_35 {V : qV} {nx a b : Nat} {v : Int} {L : List (Int × Nat)} {w0 : Nat} {lv st : List Value} {h : qH} {K : qC} : wpI V (35, nx, a, b, v, L, w0) lv st h K = (match st with | .ref x :: r => x = 1 ∧ K nx lv (.int (Int32.ofInt V.2.1) :: r) h | _ => False) := rfl
theorem w_36 {V : qV} {nx a b : Nat} {v : Int} {L : List (Int × Nat)} {w0 : Nat} {lv st : List Value} {h : qH} {K : qC} : wpI V (36, nx, a, b, v, L, w0) lv st h K = (match st with | .int y :: .int x :: r => r.length ≤ 8 ∧ K nx lv (.int (if x.toInt < y.toInt then y else x) :: r) h | _ => False) := rfl
theorem w_37 {V : qV} {nx a b : Nat} {v : Int} {L : List (Int × Nat)} {w0 : Nat} {lv st : List Value} {h : qH} {K : qC} : wpI V (37, nx, a, b, v, L, w0) lv st h K = (match st with | .int y :: .int x :: r => r.length ≤ 8 ∧ K nx lv (.int (if y.toInt < x.toInt then y else x) :: r) h | _ => False) := rfl
theorem swP_mono {x : Int32} {d : Nat} {K1 K2 : Nat → Prop} (hk : ∀ t, K1 t → K2 t) : ∀ L, swP x d K1 L → swP x d K2 L
  | [], h => hk _ h
  | (v, t) :: l, h => ⟨fun e => hk _ (h.1 e), fun e => swP_mono hk l (h.2 e)⟩
theorem wpI_mono {V : qV} {e : qE} {lv st : List Value} {h : qH} {K1 K2 : qC} (hk : ∀ pc lv st h, K1 pc lv st h → K2 pc lv st h) (w : wpI V e lv st h K1) : wpI V e lv st h K2 := by
  obtain ⟨op, nx, a, b, v, L, w0⟩ := e
  unfold wpI at w ⊢
  dsimp only at w ⊢
  split at w <;> first
    | exact hk _ _ _ _ w
    | exact w
    | (split at w <;> first
        | exact hk _ _ _ _ w
        | exact w
        | exact swP_mono (fun t h => hk _ _ _ _ h) _ w
        | exact ⟨w.1, hk _ _ _ _ w.2⟩
        | exact ⟨fun e => hk _ _ _ _ (w.1 e), fun e => hk _ _ _ _ (w.2 e)⟩
        | exact ⟨w.1, w.2.1, hk _ _ _ _ w.2.2⟩
        | exact ⟨w.1, w.2.1, w.2.2.1, hk _ _ _ _ w.2.2.2⟩
        | exact ⟨w.1, w.2.1, w.2.2.1, w.2.2.2.1, w.2.2.2.2.1, w.2.2.2.2.2.1, w.2.2.2.2.2.2.1, w.2.2.2.2.2.2.2.1, hk _ _ _ _ w.2.2.2.2.2.2.2.2⟩)
/-! which entry stands for which instruction -/
def qcn : Jvm.ClassFile.Cond → Nat
  | .eq => 0
  | .ne => 1
  | .lt => 2
  | .ge => 3
  | .gt => 4
  | .le => 5
def qswt (pc : Nat) (lo : Int) : List Int → List (Int × Nat) → Bool
  | [], [] => true
  | o :: os, (v, t) :: l => decide (v = lo) && decide ((pc : Int) + o = (t : Int)) && qswt pc (lo + 1) os l
  | _, _ => false
def qswl (pc : Nat) : List (Int × Int) → List (Int × Nat) → Bool
  | [], [] => true
  | (w, o) :: os, (v, t) :: l => decide (v = w) && decide ((pc : Int) + o = (t : Int)) && qswl pc os l
  | _, _ => false
def qflk (o idx ci k w : Nat) (g : String × String × String × Bool → FieldType → Bool) : Bool := match qFL[w]?, qcl[ci]? with
  | some q, some r => decide (q.1 = o ∧ q.2.1 = idx ∧ q.2.2.1 = ci ∧ q.2.2.2.1 = k) && g (r.2.1 k) (qty ci k)
  | _, _ => false
def qrel (mi : qMI) (pc : Nat) (i : Instr) (len : Nat) (e : qE) : Bool :=
  match e with
  | (op, nx, a, b, v, L, w) => decide (nx = pc + len) &&
    match i with
    | .iconst n => decide (op = 0 ∧ len = 1 ∧ n = v)
    | .bipush n => decide (op = 0 ∧ len = 2 ∧ (Int8.ofInt n).toInt32 = Int32.ofInt v)
    | .sipush n => decide (op = 0 ∧ len = 3 ∧ (Int16.ofInt n).toInt32 = Int32.ofInt v)
    | .ldc idx => decide (op = 0 ∧ len = 2) && (match qKo[w]? with | some q => decide (q.1 = mi.2.2.2.2.2.1 ∧ q.2.1 = idx ∧ q.2.2.1 = v) | none => false)
    | .ldc_w idx => decide (op = 0 ∧ len = 3) && (match qKo[w]? with | some q => decide (q.1 = mi.2.2.2.2.2.1 ∧ q.2.1 = idx ∧ q.2.2.1 = v) | none => false)
    | .iload_n k => decide (op = 1 ∧ len = 1 ∧ k.val = a)
    | .iload k => decide (op = 1 ∧ len = 2 ∧ k = a)
    | .aload_n k => decide (op = 2 ∧ len = 1 ∧ k.val = a)
    | .aload k => decide (op = 2 ∧ len = 2 ∧ k = a)
    | .istore_n k => decide (op = 3 ∧ len = 1 ∧ k.val = a)
    | .istore k => decide (op = 3 ∧ len = 2 ∧ k = a)
    | .astore_n k => decide (op = 4 ∧ len = 1 ∧ k.val = a)
    | .astore k => decide (op = 4 ∧ len = 2 ∧ k = a)
    | .iinc k n => decide (op = 5 ∧ len = 3 ∧ k = a ∧ n = v)
    | .iadd => decide (op = 6 ∧ len = 1 ∧ b = 0)
    | .isub => decide (op = 6 ∧ len = 1 ∧ b = 1)
    | .imul => decide (op = 6 ∧ len = 1 ∧ b = 2)
    | .iand => decide (op = 6 ∧ len = 1 ∧ b = 3)
    | .ior => decide (op = 6 ∧ len = 1 ∧ b = 4)
    | .ixor => decide (op = 6 ∧ len = 1 ∧ b = 5)
    | .ishl => decide (op = 6 ∧ len = 1 ∧ b = 6)
    | .ishr => decide (op = 6 ∧ len = 1 ∧ b = 7)
    | .iushr => decide (op = 6 ∧ len = 1 ∧ b = 8)
    | .idiv => decide (op = 7 ∧ len = 1)
    | .irem => decide (op = 8 ∧ len = 1)
    | .i2b => decide (op = 9 ∧ len = 1)
    | .dup => decide (op = 10 ∧ len = 1)
    | .pop => decide (op = 11 ∧ len = 1)
    | .dup2 => decide (op = 12 ∧ len = 1)
    | .goto o => decide (op = 13 ∧ len = 3 ∧ (pc : Int) + o = (a : Int))
    | .ifCond cd o => decide (op = 14 ∧ len = 3 ∧ b = qcn cd ∧ (pc : Int) + o = (a : Int))
    | .if_icmp cd o => decide (op = 15 ∧ len = 3 ∧ b = qcn cd ∧ (pc : Int) + o = (a : Int))
    | .ifnull o => decide (op = 16 ∧ len = 3 ∧ (pc : Int) + o = (a : Int))
    | .ifnonnull o => decide (op = 17 ∧ len = 3 ∧ (pc : Int) + o = (a : Int))
    | .tableswitch d lo hi offs => decide (op = 18 ∧ (pc : Int) + d = (a : Int) ∧ hi = lo + offs.toList.length - 1) && qswt pc lo offs.toList L
    | .lookupswitch d ps => decide (op = 18 ∧ (pc : Int) + d = (a : Int)) && (ps.toList.zip (ps.toList.drop 1)).all (fun (x, y) => decide (x.1 < y.1)) && qswl pc ps.toList L
    | .getfield idx => decide (len = 3) && qflk mi.2.2.2.2.2.1 idx a b w (fun _ ty => if qisR ty then decide (op = 20) else decide (op = 19))
    | .putfield idx => decide (len = 3) && qflk mi.2.2.2.2.2.1 idx a b w (fun f ty => (if qisR ty then decide (op = 23) else if ty = .int then decide (op = 21) else decide (op = 22 ∧ ty = .boolean)) && (!f.2.2.2 || decide (mi.1.name = "<init>" ∧ f.1 = qon mi.2.2.2.2.2.1)))
    | .iaload => decide (len = 1 ∧ (op = 24 ∨ op = 34))
    | .iastore => decide (len = 1 ∧ op = 25)
    | .aaload => decide (len = 1 ∧ op = 26)
    | .aastore => decide (len = 1 ∧ op = 27)
    | .baload => decide (len = 1 ∧ op = 28)
    | .bastore => decide (len = 1 ∧ op = 29)
    | .arraylength => decide (len = 1 ∧ (op = 30 ∨ op = 35))
    | .aconst_null => decide (len = 1 ∧ op = 31)
    | .invokespecial idx => decide (len = 3) && ((decide (op = 32) && decide (tables_1[w]? = some (.methodLink (qon mi.2.2.2.2.2.1) idx objectInit))) || (decide (op = 43 ∧ v = 0) && (match qCL[w]?, qms[a]? with | some q, some t => decide (q.1 = mi.2.2.2.2.2.1 ∧ q.2.1 = idx ∧ q.2.2.1 = a ∧ b = t.2.2.2.2.1 ∧ t.2.2.2.2.2.2 = 2) | _, _ => false)) || (decide (op = 43 ∧ v = 1) && (match qNL[w]?, qms[a]? with | some q, some t => decide (q.1 = mi.2.2.2.2.2.1 ∧ q.2.1 = idx ∧ q.2.2.1 = a ∧ b = t.2.2.2.2.1 ∧ t.2.2.2.2.2.2 = 2) | _, _ => false)))
    | .invokevirtual idx => decide (len = 3) && (decide (op = 44 ∧ v = 0) && (match qCL[w]?, qms[a]? with | some q, some t => decide (q.1 = mi.2.2.2.2.2.1 ∧ q.2.1 = idx ∧ q.2.2.1 = a ∧ b = t.2.2.2.2.1 ∧ t.2.2.2.2.2.2 = 1) | _, _ => false))
    | .invokestatic idx => decide (len = 3) && ((decide (op = 33) && decide (tables_1[w]? = some (.methodLink (qon mi.2.2.2.2.2.1) idx arraycopyName))) || (decide (op = 36) && decide (tables_1[w]? = some (.methodLink (qon mi.2.2.2.2.2.1) idx Lib.Math.max.name))) || (decide (op = 37) && decide (tables_1[w]? = some (.methodLink (qon mi.2.2.2.2.2.1) idx Lib.Math.min.name))) || (decide (op = 45 ∧ v = 0) && (match qCL[w]?, qms[a]? with | some q, some t => decide (q.1 = mi.2.2.2.2.2.1 ∧ q.2.1 = idx ∧ q.2.2.1 = a ∧ b = t.2.2.2.2.1 ∧ t.2.2.2.2.2.2 = 0) | _, _ => false)) || (decide (op = 45 ∧ v = 1) && (match qNL[w]?, qms[a]? with | some q, some t => decide (q.1 = mi.2.2.2.2.2.1 ∧ q.2.1 = idx ∧ q.2.2.1 = a ∧ b = t.2.2.2.2.1 ∧ t.2.2.2.2.2.2 = 0) | _, _ => false)))
    | .ireturn => decide (len = 1 ∧ op = 40)
    | .return_ => decide (len = 1 ∧ op = 41)
    | .areturn => decide (len = 1 ∧ op = 42)
    | .new idx => decide (len = 3 ∧ op = 46) && (match qKL[w]? with | some q => decide (q.1 = mi.2.2.2.2.2.1 ∧ q.2.1 = idx ∧ q.2.2.1 = a) | none => false)
    | .newarray t => decide (len = 2) && ((decide (t = .int) && decide (op = 47)) || (decide (t = .byte) && decide (op = 48)))
    | .anewarray idx => decide (len = 3 ∧ op = 49) && (match qKL[w]? with | some q => decide (q.1 = mi.2.2.2.2.2.1 ∧ q.2.1 = idx ∧ q.2.2.1 = a) | none => false)
    | _ => false
def qrelA (mi : qMI) (cd : List (Nat × qE)) : Bool := cd.all (fun q => match decode mi.2.1 q.1 with
  | .ok (i, len) => qrel mi q.1 i len q.2
  | .error _ => false)
