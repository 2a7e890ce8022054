/-! a law's text: what it says, step by step -/
abbrev LK := Int × Int × (Int → Int) × Int × (Int → Int) × (Int → Int)
abbrev LU := Int × (Int → Int) × (Int → Int) × (Int → Int) × (Int → Int) × (Int → Int)
abbrev LwS := Nat × LK × LU × List Int × List (Int × Int × Int) × Int
def lpF (c : Int) : Int := if c = 102 then 0 else if c = 116 then 1 else if c = 107 then 2 else if c = 110 then 3 else if c = 113 then 4 else if c = 115 then 5 else if c = 119 then 6 else -1
def mlF (c : Int) : Int := if c = 42 then 4 else if c = 47 then 5 else if c = 37 then 6 else -1
def adF (c : Int) : Int := if c = 43 then 2 else if c = 45 then 3 else -1
def cpF (c : Int) : Int := if c = 60 then 7 else if c = 62 then 8 else if c = 61 then 9 else -1
abbrev dgQ (c : Int) : Prop := 48 ≤ c ∧ c ≤ 57
def nuF (f : Int → Int) (n : Int) : Nat → Int → Int → Int × Int
  | 0, p, a => (p, a)
  | j + 1, p, a => if dgQ (sgF f n p) then nuF f n j (p + 1) (a * 10 + sgF f n p - 48) else (p, a)
def atK (K : LK) (p : Int) : LK := (p, K.2)
/-- a step of the class alone; a code; a leap's aim -/
def ecK (K : LK) (o a : Int) : LK := (K.1, K.2.1, K.2.2.1, K.2.2.2.1 + 1, u1 K.2.2.2.2.1 K.2.2.2.1 o, u1 K.2.2.2.2.2 K.2.2.2.1 a)
def emK (K : LK) (o a : Int) : LK := (K.1, K.2.1 + 1, u1 K.2.2.1 K.2.1 (1048576 * o + a), K.2.2.2.1 + 1, u1 K.2.2.2.2.1 K.2.2.2.1 (opm o), u1 K.2.2.2.2.2 K.2.2.2.1 a)
def amK (K : LK) (k' : Int) : LK := (K.1, K.2.1, K.2.2.1, K.2.2.2.1, K.2.2.2.2.1, u1 K.2.2.2.2.2 k' K.2.2.2.1)
def lnK (K : LK) (k k' : Int) : LK := (K.1, K.2.1, u1 K.2.2.1 k (K.2.2.1 k / 1048576 * 1048576 + K.2.1), K.2.2.2.1, K.2.2.2.2.1, u1 K.2.2.2.2.2 k' K.2.2.2.1)
/-- how many are open -/
def nX : List Int → Int
  | [] => 0
  | a :: X => (if a = 14 then 1 else 0) + nX X
def nY : List (Int × Int × Int) → Int
  | [] => 0
  | e :: Y => (if e.1 = 10 ∨ e.1 = 13 then 1 else 0) + nY Y
/-- wanted: a factor F, a test T, a rule R; behind: a factor G, a product H, a sum I, a test U, the tests of & W, all parts Z, a rule's E V, a rule N; a fault X; the end D -/
def lF (K : LK) (U : LU) (X : List Int) (Y : List (Int × Int × Int)) (c : Int) : LwS := (0, K, U, X, Y, c)
def lG (K : LK) (U : LU) (X : List Int) (Y : List (Int × Int × Int)) (c : Int) : LwS := (1, K, U, X, Y, c)
def lH (K : LK) (U : LU) (X : List Int) (Y : List (Int × Int × Int)) (c : Int) : LwS := (2, K, U, X, Y, c)
def lI (K : LK) (U : LU) (X : List Int) (Y : List (Int × Int × Int)) (c : Int) : LwS := (3, K, U, X, Y, c)
def lT (K : LK) (U : LU) (Y : List (Int × Int × Int)) : LwS := (4, K, U, [], Y, 0)
def lE (K : LK) (U : LU) (Y : List (Int × Int × Int)) : LwS := (5, K, U, [], Y, 0)
def lA (K : LK) (U : LU) (Y : List (Int × Int × Int)) : LwS := (6, K, U, [], Y, 0)
def lO (K : LK) (U : LU) (Y : List (Int × Int × Int)) : LwS := (7, K, U, [], Y, 0)
def lZ (K : LK) (U : LU) (Y : List (Int × Int × Int)) : LwS := (8, K, U, [], Y, 0)
def lR (K : LK) (U : LU) : LwS := (9, K, U, [], [], 0)
def lV (K : LK) (U : LU) : LwS := (10, K, U, [], [], 0)
def lNr (K : LK) (U : LU) : LwS := (11, K, U, [], [], 0)
def lX (k : Int) : LwS := (12, (k, 0, fun _ => 0, 0, fun _ => 0, fun _ => 0), (0, fun _ => 0, fun _ => 0, fun _ => 0, fun _ => 0, fun _ => 0), [], [], 0)
def lD (K : LK) (U : LU) : LwS := (13, K, U, [], [], 0)
section St
variable (f : Int → Int) (n : Int)
def lsF (K : LK) (U : LU) (X : List Int) (Y : List (Int × Int × Int)) (c : Int) : LwS :=
  if sgF f n K.1 = 91 then (if 6 ≤ nX X + nY Y then lX (-5000 - K.1) else lF (atK K (K.1 + 1)) U (14 :: X) Y c) else
  if dgQ (sgF f n K.1) then (if dgQ (sgF f n (nuF f n 5 K.1 0).1) then lX (-2000 - (nuF f n 5 K.1 0).1) else lG (emK (atK K (nuF f n 5 K.1 0).1) 0 (nuF f n 5 K.1 0).2) U X Y c) else
  if lpF (sgF f n K.1) < 0 then lX (-1000 - K.1) else lG (emK (atK K (K.1 + 1)) 1 (lpF (sgF f n K.1))) U X Y c
def lsG0 (K : LK) (U : LU) (X : List Int) (Y : List (Int × Int × Int)) (c : Int) : LwS :=
  if mlF (sgF f n K.1) < 0 then lH K U X Y c else lF (atK K (K.1 + 1)) U (mlF (sgF f n K.1) :: X) Y c
def lsG (K : LK) (U : LU) (X : List Int) (Y : List (Int × Int × Int)) (c : Int) : LwS := match X with
  | [] => lsG0 f n K U [] Y c
  | a :: X' => if 4 ≤ a ∧ a ≤ 6 then lG (emK K a 0) U X' Y c else lsG0 f n K U (a :: X') Y c
def lsH0 (K : LK) (U : LU) (X : List Int) (Y : List (Int × Int × Int)) (c : Int) : LwS :=
  if adF (sgF f n K.1) < 0 then lI K U X Y c else lF (atK K (K.1 + 1)) U (adF (sgF f n K.1) :: X) Y c
def lsH (K : LK) (U : LU) (X : List Int) (Y : List (Int × Int × Int)) (c : Int) : LwS := match X with
  | [] => lsH0 f n K U [] Y c
  | a :: X' => if 2 ≤ a ∧ a ≤ 6 then lH (emK K a 0) U X' Y c else lsH0 f n K U (a :: X') Y c
def lsI (K : LK) (U : LU) (X : List Int) (Y : List (Int × Int × Int)) (c : Int) : LwS := match X with
  | [] => if c = 0 then lV K U else if 7 ≤ c then lE (emK K c 0) U Y else if cpF (sgF f n K.1) < 0 then lX (-1000 - K.1) else lF (atK K (K.1 + 1)) U [] Y (cpF (sgF f n K.1))
  | _ :: X' => if sgF f n K.1 = 93 then lG (atK K (K.1 + 1)) U X' Y c else lX (-1000 - K.1)
def lsT (K : LK) (U : LU) (Y : List (Int × Int × Int)) : LwS :=
  if sgF f n K.1 = 33 ∨ sgF f n K.1 = 40 then (if 6 ≤ nY Y then lX (-5000 - K.1) else lT (atK K (K.1 + 1)) U ((if sgF f n K.1 = 33 then 10 else 13, 0, 0) :: Y)) else lF K U [] Y 1
def lsE (K : LK) (U : LU) (Y : List (Int × Int × Int)) : LwS := match Y with
  | [] => lA K U []
  | e :: Y' => if e.1 = 10 then lE (emK K 10 0) U Y' else lA K U (e :: Y')
def lsA0 (K : LK) (U : LU) (Y : List (Int × Int × Int)) : LwS :=
  if sgF f n K.1 = 38 then lT (emK (atK K (K.1 + 1)) 11 0) U ((11, K.2.1, K.2.2.2.1) :: Y) else lO K U Y
def lsA (K : LK) (U : LU) (Y : List (Int × Int × Int)) : LwS := match Y with
  | [] => lsA0 f n K U []
  | e :: Y' => if e.1 = 11 then lA (lnK K e.2.1 e.2.2) U Y' else lsA0 f n K U (e :: Y')
def lsO0 (K : LK) (U : LU) (Y : List (Int × Int × Int)) : LwS :=
  if sgF f n K.1 = 124 then lT (emK (atK K (K.1 + 1)) 12 0) U ((12, K.2.1, K.2.2.2.1) :: Y) else lZ K U Y
def lsO (K : LK) (U : LU) (Y : List (Int × Int × Int)) : LwS := match Y with
  | [] => lsO0 f n K U []
  | e :: Y' => if e.1 = 11 ∨ e.1 = 12 then lO (lnK K e.2.1 e.2.2) U Y' else lsO0 f n K U (e :: Y')
/-- a rule is over -/
def enK (K : LK) (U : LU) : LK := amK (ecK K 4 0) (U.2.2.2.2.2 U.1)
def enU (K : LK) (U : LU) : LU := (U.1 + 1, U.2.1, U.2.2.1, U.2.2.2.1, u1 U.2.2.2.2.1 U.1 K.2.1, u1 U.2.2.2.2.2 (U.1 + 1) (K.2.2.2.1 + 1))
def lsZ (K : LK) (U : LU) (Y : List (Int × Int × Int)) : LwS :=
  if sgF f n K.1 = 41 then (match Y with
    | [] => lNr (enK (atK K (K.1 + 1)) U) (enU K U)
    | _ :: [] => lNr (enK (atK K (K.1 + 1)) U) (enU K U)
    | _ :: e :: Y' => lE (atK K (K.1 + 1)) U (e :: Y')) else lX (-1000 - K.1)
abbrev ltQ (c : Int) : Prop := c = 100 ∨ c = 108 ∨ c = 101 ∨ c = 120
def beU (K : LK) (U : LU) (c : Int) : LU := (U.1, u1 U.2.1 U.1 c, u1 U.2.2.1 U.1 K.2.1, U.2.2.2.1, U.2.2.2.2.1, U.2.2.2.2.2)
def lsR (K : LK) (U : LU) : LwS :=
  if ltQ (sgF f n K.1) then (if 16 ≤ U.1 then lX (-4000 - K.1) else if sgF f n K.1 = 120 then lV (ecK (ecK (atK K (K.1 + 1)) 120 0) 1 1) (beU K U 120) else lF (ecK (atK K (K.1 + 1)) (sgF f n K.1) 0) (beU K U (sgF f n K.1)) [] [] 0) else lX (-1000 - K.1)
def haU (K : LK) (U : LU) : LU := (U.1, U.2.1, U.2.2.1, u1 U.2.2.2.1 U.1 K.2.1, U.2.2.2.2.1, U.2.2.2.2.2)
def lsV (K : LK) (U : LU) : LwS :=
  if sgF f n K.1 = 40 then lT (ecK (atK K (K.1 + 1)) 3 0) (haU K U) [(13, 0, 0)] else lX (-1000 - K.1)
def lsNr (K : LK) (U : LU) : LwS :=
  if K.1 = n then lD K U else if sgF f n K.1 = 59 then lR (atK K (K.1 + 1)) U else lX (-1000 - K.1)
def lstp (x : LwS) : LwS := match x with
  | (t, K, U, X, Y, c) => if t = 0 then lsF f n K U X Y c else if t = 1 then lsG f n K U X Y c else if t = 2 then lsH f n K U X Y c else if t = 3 then lsI f n K U X Y c else if t = 4 then lsT f n K U Y else if t = 5 then lsE K U Y else if t = 6 then lsA f n K U Y else if t = 7 then lsO f n K U Y else if t = 8 then lsZ f n K U Y else if t = 9 then lsR f n K U else if t = 10 then lsV f n K U else if t = 11 then lsNr f n K U else (t, K, U, X, Y, c)
def itl : Nat → LwS → LwS
  | 0, x => x
  | k + 1, x => itl k (lstp f n x)
def Lch (x y : LwS) : Prop := ∃ k, itl f n k x = y
end St
section Lc
variable {f : Int → Int} {n c : Int} {x y z : LwS} {K : LK} {U : LU} {X : List Int} {Y : List (Int × Int × Int)}
theorem lst_F : lstp f n (lF K U X Y c) = lsF f n K U X Y c := rfl
theorem lst_G : lstp f n (lG K U X Y c) = lsG f n K U X Y c := rfl
theorem lst_H : lstp f n (lH K U X Y c) = lsH f n K U X Y c := rfl
theorem lst_I : lstp f n (lI K U X Y c) = lsI f n K U X Y c := rfl
theorem lst_T : lstp f n (lT K U Y) = lsT f n K U Y := rfl
theorem lst_E : lstp f n (lE K U Y) = lsE K U Y := rfl
theorem lst_A : lstp f n (lA K U Y) = lsA f n K U Y := rfl
theorem lst_O : lstp f n (lO K U Y) = lsO f n K U Y := rfl
theorem lst_Z : lstp f n (lZ K U Y) = lsZ f n K U Y := rfl
theorem lst_R : lstp f n (lR K U) = lsR f n K U := rfl
theorem lst_V : lstp f n (lV K U) = lsV f n K U := rfl
theorem lst_N : lstp f n (lNr K U) = lsNr f n K U := rfl
theorem Lch_rf : Lch f n x x := ⟨0, rfl⟩
theorem itl_add : ∀ (k j : Nat) (x : LwS), itl f n (k + j) x = itl f n j (itl f n k x)
  | 0, j, x => by rw [Nat.zero_add]; rfl
  | k + 1, j, x => by
    rw [show k + 1 + j = (k + j) + 1 by omega]
    exact itl_add k j (lstp f n x)
theorem Lch_tr (h : Lch f n x y) (h' : Lch f n y z) : Lch f n x z := by
  obtain ⟨k, rfl⟩ := h
  obtain ⟨j, rfl⟩ := h'
  exact ⟨k + j, itl_add k j x⟩
theorem Lch_1 : Lch f n x (lstp f n x) := ⟨1, rfl⟩
/-- on from a state reached -/
theorem Lch_n (h : Lch f n x y) (e : lstp f n y = z) : Lch f n x z := Lch_tr h (by rw [← e]; exact Lch_1)
def LT_ (x : LwS) : Prop := 12 ≤ x.1
theorem itl_T (h : LT_ x) : ∀ k, itl f n k x = x
  | 0 => rfl
  | k + 1 => by
    have e : lstp f n x = x := by
      obtain ⟨t, K, U, X, Y, c⟩ := x
      have h : 12 ≤ t := h
      unfold lstp
      dsimp only
      rw [if_neg (by omega), if_neg (by omega), if_neg (by omega), if_neg (by omega), if_neg (by omega), if_neg (by omega), if_neg (by omega), if_neg (by omega), if_neg (by omega), if_neg (by omega), if_neg (by omega), if_neg (by omega)]
    rw [itl, e, itl_T h k]
theorem Lch_u {t t' : LwS} (h : Lch f n x t) (h' : Lch f n x t') (ht : LT_ t) (ht' : LT_ t') : t = t' := by
  obtain ⟨k, rfl⟩ := h
  obtain ⟨j, rfl⟩ := h'
  rcases Nat.le_total k j with q | q
  · have e := itl_add (f := f) (n := n) k (j - k) x
    rw [show k + (j - k) = j by omega, itl_T ht] at e
    exact e.symm
  · have e := itl_add (f := f) (n := n) j (k - j) x
    rw [show j + (k - j) = k by omega, itl_T ht'] at e
    exact e
end Lc
