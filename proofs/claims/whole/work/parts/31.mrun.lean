/-! the law's code is run: one step, as numbers -/
/-- where the code stands: next place, top of the stack, the stack -/
abbrev rkT : Type := Int × Int × qN
/-- one step: the next state, or an answer -/
noncomputable def rkS (C F : qN) (b : Int) (x : rkT) : rkT ⊕ Int :=
  let o := C x.1 / 1048576
  let v := C x.1 % 1048576
  if o = 0 then .inl (x.1 + 1, x.2.1 + 1, u1 x.2.2 x.2.1 v)
  else if o = 1 then .inl (x.1 + 1, x.2.1 + 1, u1 x.2.2 x.2.1 (F v))
  else if o = 10 then .inl (x.1 + 1, x.2.1, u1 x.2.2 (x.2.1 - 1) (1 - x.2.2 (x.2.1 - 1)))
  else if o = 11 ∨ o = 12 then
    (if x.2.2 (x.2.1 - 1) = (if o = 12 then 1 else 0) then .inl (b + v, x.2.1, x.2.2) else .inl (x.1 + 1, x.2.1 - 1, x.2.2))
  else if (o = 5 ∨ o = 6) ∧ x.2.2 (x.2.1 - 1) = 0 then .inr 0
  else .inl (x.1 + 1, x.2.1 - 1, u1 x.2.2 (x.2.1 - 2) (reK o (Int32.ofInt (x.2.2 (x.2.1 - 2))) (Int32.ofInt (x.2.2 (x.2.1 - 1)))).toInt)
