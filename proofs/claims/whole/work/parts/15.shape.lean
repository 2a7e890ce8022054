/-! the shape of the reference's object (number 2198) and its rows, of the class's objects below it -/
def ShM (h : qH) : Prop := hK h 2198 = (9, 0) ∧ (hR h 2198 0 = 2199 ∧ hK h 2199 = (100, 11138)) ∧ (hR h 2198 1 = 2200 ∧ hK h 2200 = (100, 11138)) ∧ (hR h 2198 2 = 2201 ∧ hK h 2201 = (100, 11138)) ∧ (hR h 2198 3 = 2202 ∧ hK h 2202 = (100, 27)) ∧ (hR h 2198 4 = 2203 ∧ hK h 2203 = (100, 27)) ∧ (hR h 2198 5 = 2204 ∧ hK h 2204 = (101, 260)) ∧ (hR h 2198 16 = 2205 ∧ hK h 2205 = (100, 260)) ∧ (hR h 2198 17 = 2206 ∧ hK h 2206 = (100, 260)) ∧ (hR h 2198 18 = 2207 ∧ hK h 2207 = (100, 16)) ∧ (hR h 2198 19 = 2208 ∧ hK h 2208 = (100, 16)) ∧ (hR h 2198 20 = 2209 ∧ hK h 2209 = (100, 16)) ∧ (hR h 2198 21 = 2210 ∧ hK h 2210 = (100, 16)) ∧ (hR h 2198 22 = 2211 ∧ hK h 2211 = (100, 260)) ∧ (hR h 2198 23 = 2212 ∧ hK h 2212 = (100, 16)) ∧ (hR h 2198 24 = 2213 ∧ hK h 2213 = (100, 16)) ∧ (hR h 2198 25 = 2214 ∧ hK h 2214 = (100, 16)) ∧ (hR h 2198 26 = 2215 ∧ hK h 2215 = (100, 16)) ∧ (hR h 2198 27 = 2216 ∧ hK h 2216 = (100, 260)) ∧ (hR h 2198 28 = 2217 ∧ hK h 2217 = (100, 7)) ∧ (hR h 2198 30 = 2218 ∧ hK h 2218 = (100, 200)) ∧ (hR h 2198 31 = 2219 ∧ hK h 2219 = (100, 200)) ∧ (hR h 2198 32 = 2220 ∧ hK h 2220 = (100, 200)) ∧ (hR h 2198 33 = 2221 ∧ hK h 2221 = (100, 200)) ∧ (hR h 2198 34 = 2222 ∧ hK h 2222 = (100, 2)) ∧ (hR h 2198 35 = 2223 ∧ hK h 2223 = (100, 2)) ∧ (hR h 2198 36 = 2224 ∧ hK h 2224 = (100, 2))
theorem ShM_set {h : qH} {a : Nat} {k : Int} {v : Int32} : ShM (setM h a k v) = ShM h := nrfl rfl
theorem ShM_cpy {h : qH} {a0 a : Nat} {sp dp n : Int} : ShM (cpyM h a0 sp a dp n) = ShM h := nrfl rfl
def ShMs (s : qS) : Prop := ShM (mkH s (fun _ _ => 0))
theorem ShM_mk {s : qS} {m : qI} : ShM (mkH s m) = ShMs s := nrfl rfl
theorem shM_o {h : qH} (hs : ShM h) : hK h 2198 = (9, 0) := hs.1
theorem shM_r_now {h : qH} (hs : ShM h) : hR h 2198 0 = 2199 := hs.2.1.1
theorem shM_k_now {h : qH} (hs : ShM h) : hK h 2199 = (100, 11138) := hs.2.1.2
theorem shM_r_aside {h : qH} (hs : ShM h) : hR h 2198 1 = 2200 := hs.2.2.1.1
theorem shM_k_aside {h : qH} (hs : ShM h) : hK h 2200 = (100, 11138) := hs.2.2.1.2
theorem shM_r_kept {h : qH} (hs : ShM h) : hR h 2198 2 = 2201 := hs.2.2.2.1.1
theorem shM_k_kept {h : qH} (hs : ShM h) : hK h 2201 = (100, 11138) := hs.2.2.2.1.2
theorem shM_r_mailNow {h : qH} (hs : ShM h) : hR h 2198 3 = 2202 := hs.2.2.2.2.1.1
theorem shM_k_mailNow {h : qH} (hs : ShM h) : hK h 2202 = (100, 27) := hs.2.2.2.2.1.2
theorem shM_r_mailIn {h : qH} (hs : ShM h) : hR h 2198 4 = 2203 := hs.2.2.2.2.2.1.1
theorem shM_k_mailIn {h : qH} (hs : ShM h) : hK h 2203 = (100, 27) := hs.2.2.2.2.2.1.2
theorem shM_r_tape {h : qH} (hs : ShM h) : hR h 2198 5 = 2204 := hs.2.2.2.2.2.2.1.1
theorem shM_k_tape {h : qH} (hs : ShM h) : hK h 2204 = (101, 260) := hs.2.2.2.2.2.2.1.2
theorem shM_r_said {h : qH} (hs : ShM h) : hR h 2198 16 = 2205 := hs.2.2.2.2.2.2.2.1.1
theorem shM_k_said {h : qH} (hs : ShM h) : hK h 2205 = (100, 260) := hs.2.2.2.2.2.2.2.1.2
theorem shM_r_waitsAt {h : qH} (hs : ShM h) : hR h 2198 17 = 2206 := hs.2.2.2.2.2.2.2.2.1.1
theorem shM_k_waitsAt {h : qH} (hs : ShM h) : hK h 2206 = (100, 260) := hs.2.2.2.2.2.2.2.2.1.2
theorem shM_r_saidLetter {h : qH} (hs : ShM h) : hR h 2198 18 = 2207 := hs.2.2.2.2.2.2.2.2.2.1.1
theorem shM_k_saidLetter {h : qH} (hs : ShM h) : hK h 2207 = (100, 16) := hs.2.2.2.2.2.2.2.2.2.1.2
theorem shM_r_saidFrom {h : qH} (hs : ShM h) : hR h 2198 19 = 2208 := hs.2.2.2.2.2.2.2.2.2.2.1.1
theorem shM_k_saidFrom {h : qH} (hs : ShM h) : hK h 2208 = (100, 16) := hs.2.2.2.2.2.2.2.2.2.2.1.2
theorem shM_r_saidHalf {h : qH} (hs : ShM h) : hR h 2198 20 = 2209 := hs.2.2.2.2.2.2.2.2.2.2.2.1.1
theorem shM_k_saidHalf {h : qH} (hs : ShM h) : hK h 2209 = (100, 16) := hs.2.2.2.2.2.2.2.2.2.2.2.1.2
theorem shM_r_saidTo {h : qH} (hs : ShM h) : hR h 2198 21 = 2210 := hs.2.2.2.2.2.2.2.2.2.2.2.2.1.1
theorem shM_k_saidTo {h : qH} (hs : ShM h) : hK h 2210 = (100, 16) := hs.2.2.2.2.2.2.2.2.2.2.2.2.1.2
theorem shM_r_codes {h : qH} (hs : ShM h) : hR h 2198 22 = 2211 := hs.2.2.2.2.2.2.2.2.2.2.2.2.2.1.1
theorem shM_k_codes {h : qH} (hs : ShM h) : hK h 2211 = (100, 260) := hs.2.2.2.2.2.2.2.2.2.2.2.2.2.1.2
theorem shM_r_clauseOf {h : qH} (hs : ShM h) : hR h 2198 23 = 2212 := hs.2.2.2.2.2.2.2.2.2.2.2.2.2.2.1.1
theorem shM_k_clauseOf {h : qH} (hs : ShM h) : hK h 2212 = (100, 16) := hs.2.2.2.2.2.2.2.2.2.2.2.2.2.2.1.2
theorem shM_r_codeFrom {h : qH} (hs : ShM h) : hR h 2198 24 = 2213 := hs.2.2.2.2.2.2.2.2.2.2.2.2.2.2.2.1.1
theorem shM_k_codeFrom {h : qH} (hs : ShM h) : hK h 2213 = (100, 16) := hs.2.2.2.2.2.2.2.2.2.2.2.2.2.2.2.1.2
theorem shM_r_codeHalf {h : qH} (hs : ShM h) : hR h 2198 25 = 2214 := hs.2.2.2.2.2.2.2.2.2.2.2.2.2.2.2.2.1.1
theorem shM_k_codeHalf {h : qH} (hs : ShM h) : hK h 2214 = (100, 16) := hs.2.2.2.2.2.2.2.2.2.2.2.2.2.2.2.2.1.2
theorem shM_r_codeTo {h : qH} (hs : ShM h) : hR h 2198 26 = 2215 := hs.2.2.2.2.2.2.2.2.2.2.2.2.2.2.2.2.2.1.1
theorem shM_k_codeTo {h : qH} (hs : ShM h) : hK h 2215 = (100, 16) := hs.2.2.2.2.2.2.2.2.2.2.2.2.2.2.2.2.2.1.2
theorem shM_r_stack {h : qH} (hs : ShM h) : hR h 2198 27 = 2216 := hs.2.2.2.2.2.2.2.2.2.2.2.2.2.2.2.2.2.2.1.1
theorem shM_k_stack {h : qH} (hs : ShM h) : hK h 2216 = (100, 260) := hs.2.2.2.2.2.2.2.2.2.2.2.2.2.2.2.2.2.2.1.2
theorem shM_r_facts {h : qH} (hs : ShM h) : hR h 2198 28 = 2217 := hs.2.2.2.2.2.2.2.2.2.2.2.2.2.2.2.2.2.2.2.1.1
theorem shM_k_facts {h : qH} (hs : ShM h) : hK h 2217 = (100, 7) := hs.2.2.2.2.2.2.2.2.2.2.2.2.2.2.2.2.2.2.2.1.2
theorem shM_r_actOf {h : qH} (hs : ShM h) : hR h 2198 30 = 2218 := hs.2.2.2.2.2.2.2.2.2.2.2.2.2.2.2.2.2.2.2.2.1.1
theorem shM_k_actOf {h : qH} (hs : ShM h) : hK h 2218 = (100, 200) := hs.2.2.2.2.2.2.2.2.2.2.2.2.2.2.2.2.2.2.2.2.1.2
theorem shM_r_actA {h : qH} (hs : ShM h) : hR h 2198 31 = 2219 := hs.2.2.2.2.2.2.2.2.2.2.2.2.2.2.2.2.2.2.2.2.2.1.1
theorem shM_k_actA {h : qH} (hs : ShM h) : hK h 2219 = (100, 200) := hs.2.2.2.2.2.2.2.2.2.2.2.2.2.2.2.2.2.2.2.2.2.1.2
theorem shM_r_actB {h : qH} (hs : ShM h) : hR h 2198 32 = 2220 := hs.2.2.2.2.2.2.2.2.2.2.2.2.2.2.2.2.2.2.2.2.2.2.1.1
theorem shM_k_actB {h : qH} (hs : ShM h) : hK h 2220 = (100, 200) := hs.2.2.2.2.2.2.2.2.2.2.2.2.2.2.2.2.2.2.2.2.2.2.1.2
theorem shM_r_actC {h : qH} (hs : ShM h) : hR h 2198 33 = 2221 := hs.2.2.2.2.2.2.2.2.2.2.2.2.2.2.2.2.2.2.2.2.2.2.2.1.1
theorem shM_k_actC {h : qH} (hs : ShM h) : hK h 2221 = (100, 200) := hs.2.2.2.2.2.2.2.2.2.2.2.2.2.2.2.2.2.2.2.2.2.2.2.1.2
theorem shM_r_roundFrom {h : qH} (hs : ShM h) : hR h 2198 34 = 2222 := hs.2.2.2.2.2.2.2.2.2.2.2.2.2.2.2.2.2.2.2.2.2.2.2.2.1.1
theorem shM_k_roundFrom {h : qH} (hs : ShM h) : hK h 2222 = (100, 2) := hs.2.2.2.2.2.2.2.2.2.2.2.2.2.2.2.2.2.2.2.2.2.2.2.2.1.2
theorem shM_r_roundAt {h : qH} (hs : ShM h) : hR h 2198 35 = 2223 := hs.2.2.2.2.2.2.2.2.2.2.2.2.2.2.2.2.2.2.2.2.2.2.2.2.2.1.1
theorem shM_k_roundAt {h : qH} (hs : ShM h) : hK h 2223 = (100, 2) := hs.2.2.2.2.2.2.2.2.2.2.2.2.2.2.2.2.2.2.2.2.2.2.2.2.2.1.2
theorem shM_r_roundTimes {h : qH} (hs : ShM h) : hR h 2198 36 = 2224 := hs.2.2.2.2.2.2.2.2.2.2.2.2.2.2.2.2.2.2.2.2.2.2.2.2.2.2.1
theorem shM_k_roundTimes {h : qH} (hs : ShM h) : hK h 2224 = (100, 2) := hs.2.2.2.2.2.2.2.2.2.2.2.2.2.2.2.2.2.2.2.2.2.2.2.2.2.2.2
def jn (c r : qI) : qI := fun a k => if 2198 ≤ a then r a k else c a k
theorem jn_r {c r : qI} {a : Nat} {k : Int} (h : 2198 ≤ a) : jn c r a k = r a k := by simp [jn, h]
theorem jn_c {c r : qI} {a : Nat} {k : Int} (h : a < 2198) : jn c r a k = c a k := by unfold jn; rw [if_neg (by omega)]
theorem up_jr {c r : qI} {a : Nat} {k v : Int} (h : 2198 ≤ a) : up (jn c r) a k v = jn c (up r a k v) := by
  funext a' k'
  unfold up jn
  by_cases h1 : a' = a ∧ k' = k
  · simp [h1, h]
  · simp [h1]
theorem up_jc {c r : qI} {a : Nat} {k v : Int} (h : a < 2198) : up (jn c r) a k v = jn (up c a k v) r := by
  funext a' k'
  unfold up jn
  by_cases h1 : a' = a ∧ k' = k
  · have h2 : ¬ 2198 ≤ a := by omega
    simp [h1, h2]
  · simp [h1]
noncomputable def bI (c : Prop) : Int32 := @ite _ c (Classical.propDecidable c) 1 0
theorem bI_t {c : Prop} (h : c) : bI c = 1 := by unfold bI; rw [if_pos h]
theorem bI_f {c : Prop} (h : ¬ c) : bI c = 0 := by unfold bI; rw [if_neg h]
theorem bI_z {c : Prop} : ((bI c).toInt = 0) = ¬ c := by
  unfold bI; split
  · rename_i h; simp [h]
  · rename_i h; simp [h]
theorem bI_01 {c : Prop} : bI c = 0 ∨ bI c = 1 := by unfold bI; split <;> simp
theorem J_bI0 {c : Prop} : (Int32.ofInt 0 = bI c) = ¬ c := by
  unfold bI; split
  · rename_i h; simp [h]
  · rename_i h; simp [h]
theorem J_bI1 {c : Prop} : (Int32.ofInt 1 = bI c) = c := by
  unfold bI; split
  · rename_i h; simp [h]
  · rename_i h; simp [h]
theorem qrok_i {x : Int32} : qrok (some .int) x = True := by simp [qrok]
theorem qrok_b0 : qrok (some .boolean) (Int32.ofInt 0) = True := by simp [qrok]
theorem qrok_b1 : qrok (some .boolean) (Int32.ofInt 1) = True := by simp [qrok]
theorem qrok_bI {c : Prop} : qrok (some .boolean) (bI c) = True := by
  have := bI_01 (c := c)
  simp [qrok, this]
def mnI (x y : Int32) : Int32 := if x.toInt < y.toInt then x else y
def mxI (x y : Int32) : Int32 := if y.toInt < x.toInt then x else y
/-- the reference's row 'now' of a node -/
def nA (h : qH) (x : Int32) (c : Int) : Int32 := hM h 2199 (244 * x.toInt + c)
def ndB (x : Int32) : Prop := 0 ≤ x.toInt ∧ x.toInt ≤ 6
def hasP (x k : Int32) : Prop := ((x >>> (k &&& 31)) &&& Int32.ofInt 1).toInt = 1
theorem ShM_of {s : qS} (hs : ShMs s) {m : qI} : ShM (mkH s m) := by rw [ShM_mk]; exact hs
theorem shS_o {s : qS} (hs : ShMs s) {m : qI} : hK (mkH s m) 2198 = (9, 0) := shM_o (ShM_of hs)
theorem shS_r_now {s : qS} (hs : ShMs s) {m : qI} : hR (mkH s m) 2198 0 = 2199 := shM_r_now (ShM_of hs)
theorem shS_k_now {s : qS} (hs : ShMs s) {m : qI} : hK (mkH s m) 2199 = (100, 11138) := shM_k_now (ShM_of hs)
theorem shS_r_aside {s : qS} (hs : ShMs s) {m : qI} : hR (mkH s m) 2198 1 = 2200 := shM_r_aside (ShM_of hs)
theorem shS_k_aside {s : qS} (hs : ShMs s) {m : qI} : hK (mkH s m) 2200 = (100, 11138) := shM_k_aside (ShM_of hs)
theorem shS_r_kept {s : qS} (hs : ShMs s) {m : qI} : hR (mkH s m) 2198 2 = 2201 := shM_r_kept (ShM_of hs)
theorem shS_k_kept {s : qS} (hs : ShMs s) {m : qI} : hK (mkH s m) 2201 = (100, 11138) := shM_k_kept (ShM_of hs)
theorem shS_r_mailNow {s : qS} (hs : ShMs s) {m : qI} : hR (mkH s m) 2198 3 = 2202 := shM_r_mailNow (ShM_of hs)
theorem shS_k_mailNow {s : qS} (hs : ShMs s) {m : qI} : hK (mkH s m) 2202 = (100, 27) := shM_k_mailNow (ShM_of hs)
theorem shS_r_mailIn {s : qS} (hs : ShMs s) {m : qI} : hR (mkH s m) 2198 4 = 2203 := shM_r_mailIn (ShM_of hs)
theorem shS_k_mailIn {s : qS} (hs : ShMs s) {m : qI} : hK (mkH s m) 2203 = (100, 27) := shM_k_mailIn (ShM_of hs)
theorem shS_r_tape {s : qS} (hs : ShMs s) {m : qI} : hR (mkH s m) 2198 5 = 2204 := shM_r_tape (ShM_of hs)
theorem shS_k_tape {s : qS} (hs : ShMs s) {m : qI} : hK (mkH s m) 2204 = (101, 260) := shM_k_tape (ShM_of hs)
theorem shS_r_said {s : qS} (hs : ShMs s) {m : qI} : hR (mkH s m) 2198 16 = 2205 := shM_r_said (ShM_of hs)
theorem shS_k_said {s : qS} (hs : ShMs s) {m : qI} : hK (mkH s m) 2205 = (100, 260) := shM_k_said (ShM_of hs)
theorem shS_r_waitsAt {s : qS} (hs : ShMs s) {m : qI} : hR (mkH s m) 2198 17 = 2206 := shM_r_waitsAt (ShM_of hs)
theorem shS_k_waitsAt {s : qS} (hs : ShMs s) {m : qI} : hK (mkH s m) 2206 = (100, 260) := shM_k_waitsAt (ShM_of hs)
theorem shS_r_saidLetter {s : qS} (hs : ShMs s) {m : qI} : hR (mkH s m) 2198 18 = 2207 := shM_r_saidLetter (ShM_of hs)
theorem shS_k_saidLetter {s : qS} (hs : ShMs s) {m : qI} : hK (mkH s m) 2207 = (100, 16) := shM_k_saidLetter (ShM_of hs)
theorem shS_r_saidFrom {s : qS} (hs : ShMs s) {m : qI} : hR (mkH s m) 2198 19 = 2208 := shM_r_saidFrom (ShM_of hs)
theorem shS_k_saidFrom {s : qS} (hs : ShMs s) {m : qI} : hK (mkH s m) 2208 = (100, 16) := shM_k_saidFrom (ShM_of hs)
theorem shS_r_saidHalf {s : qS} (hs : ShMs s) {m : qI} : hR (mkH s m) 2198 20 = 2209 := shM_r_saidHalf (ShM_of hs)
theorem shS_k_saidHalf {s : qS} (hs : ShMs s) {m : qI} : hK (mkH s m) 2209 = (100, 16) := shM_k_saidHalf (ShM_of hs)
theorem shS_r_saidTo {s : qS} (hs : ShMs s) {m : qI} : hR (mkH s m) 2198 21 = 2210 := shM_r_saidTo (ShM_of hs)
theorem shS_k_saidTo {s : qS} (hs : ShMs s) {m : qI} : hK (mkH s m) 2210 = (100, 16) := shM_k_saidTo (ShM_of hs)
theorem shS_r_codes {s : qS} (hs : ShMs s) {m : qI} : hR (mkH s m) 2198 22 = 2211 := shM_r_codes (ShM_of hs)
theorem shS_k_codes {s : qS} (hs : ShMs s) {m : qI} : hK (mkH s m) 2211 = (100, 260) := shM_k_codes (ShM_of hs)
theorem shS_r_clauseOf {s : qS} (hs : ShMs s) {m : qI} : hR (mkH s m) 2198 23 = 2212 := shM_r_clauseOf (ShM_of hs)
theorem shS_k_clauseOf {s : qS} (hs : ShMs s) {m : qI} : hK (mkH s m) 2212 = (100, 16) := shM_k_clauseOf (ShM_of hs)
theorem shS_r_codeFrom {s : qS} (hs : ShMs s) {m : qI} : hR (mkH s m) 2198 24 = 2213 := shM_r_codeFrom (ShM_of hs)
theorem shS_k_codeFrom {s : qS} (hs : ShMs s) {m : qI} : hK (mkH s m) 2213 = (100, 16) := shM_k_codeFrom (ShM_of hs)
theorem shS_r_codeHalf {s : qS} (hs : ShMs s) {m : qI} : hR (mkH s m) 2198 25 = 2214 := shM_r_codeHalf (ShM_of hs)
theorem shS_k_codeHalf {s : qS} (hs : ShMs s) {m : qI} : hK (mkH s m) 2214 = (100, 16) := shM_k_codeHalf (ShM_of hs)
theorem shS_r_codeTo {s : qS} (hs : ShMs s) {m : qI} : hR (mkH s m) 2198 26 = 2215 := shM_r_codeTo (ShM_of hs)
theorem shS_k_codeTo {s : qS} (hs : ShMs s) {m : qI} : hK (mkH s m) 2215 = (100, 16) := shM_k_codeTo (ShM_of hs)
theorem shS_r_stack {s : qS} (hs : ShMs s) {m : qI} : hR (mkH s m) 2198 27 = 2216 := shM_r_stack (ShM_of hs)
theorem shS_k_stack {s : qS} (hs : ShMs s) {m : qI} : hK (mkH s m) 2216 = (100, 260) := shM_k_stack (ShM_of hs)
theorem shS_r_facts {s : qS} (hs : ShMs s) {m : qI} : hR (mkH s m) 2198 28 = 2217 := shM_r_facts (ShM_of hs)
theorem shS_k_facts {s : qS} (hs : ShMs s) {m : qI} : hK (mkH s m) 2217 = (100, 7) := shM_k_facts (ShM_of hs)
theorem shS_r_actOf {s : qS} (hs : ShMs s) {m : qI} : hR (mkH s m) 2198 30 = 2218 := shM_r_actOf (ShM_of hs)
theorem shS_k_actOf {s : qS} (hs : ShMs s) {m : qI} : hK (mkH s m) 2218 = (100, 200) := shM_k_actOf (ShM_of hs)
theorem shS_r_actA {s : qS} (hs : ShMs s) {m : qI} : hR (mkH s m) 2198 31 = 2219 := shM_r_actA (ShM_of hs)
theorem shS_k_actA {s : qS} (hs : ShMs s) {m : qI} : hK (mkH s m) 2219 = (100, 200) := shM_k_actA (ShM_of hs)
theorem shS_r_actB {s : qS} (hs : ShMs s) {m : qI} : hR (mkH s m) 2198 32 = 2220 := shM_r_actB (ShM_of hs)
theorem shS_k_actB {s : qS} (hs : ShMs s) {m : qI} : hK (mkH s m) 2220 = (100, 200) := shM_k_actB (ShM_of hs)
theorem shS_r_actC {s : qS} (hs : ShMs s) {m : qI} : hR (mkH s m) 2198 33 = 2221 := shM_r_actC (ShM_of hs)
theorem shS_k_actC {s : qS} (hs : ShMs s) {m : qI} : hK (mkH s m) 2221 = (100, 200) := shM_k_actC (ShM_of hs)
theorem shS_r_roundFrom {s : qS} (hs : ShMs s) {m : qI} : hR (mkH s m) 2198 34 = 2222 := shM_r_roundFrom (ShM_of hs)
theorem shS_k_roundFrom {s : qS} (hs : ShMs s) {m : qI} : hK (mkH s m) 2222 = (100, 2) := shM_k_roundFrom (ShM_of hs)
theorem shS_r_roundAt {s : qS} (hs : ShMs s) {m : qI} : hR (mkH s m) 2198 35 = 2223 := shM_r_roundAt (ShM_of hs)
theorem shS_k_roundAt {s : qS} (hs : ShMs s) {m : qI} : hK (mkH s m) 2223 = (100, 2) := shM_k_roundAt (ShM_of hs)
theorem shS_r_roundTimes {s : qS} (hs : ShMs s) {m : qI} : hR (mkH s m) 2198 36 = 2224 := shM_r_roundTimes (ShM_of hs)
theorem shS_k_roundTimes {s : qS} (hs : ShMs s) {m : qI} : hK (mkH s m) 2224 = (100, 2) := shM_k_roundTimes (ShM_of hs)
