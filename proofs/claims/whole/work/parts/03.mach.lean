/-! the small machine: objects by numbers (0: null, 1: the script, 2 on: what was made since the law began) -/
abbrev qH : Type := Nat × (Nat → Nat × Nat) × (Nat → Int → Int32) × (Nat → Int → Nat)
def hn (h : qH) : Nat := h.1
def hK (h : qH) (a : Nat) : Nat × Nat := h.2.1 a
def hM (h : qH) (a : Nat) (k : Int) : Int32 := h.2.2.1 a k
def hR (h : qH) (a : Nat) (k : Int) : Nat := h.2.2.2 a k
def setM (h : qH) (a : Nat) (k : Int) (v : Int32) : qH := (h.1, h.2.1, fun a' k' => if a' = a ∧ k' = k then v else h.2.2.1 a' k', h.2.2.2)
def setR (h : qH) (a : Nat) (k : Int) (v : Nat) : qH := (h.1, h.2.1, h.2.2.1, fun a' k' => if a' = a ∧ k' = k then v else h.2.2.2 a' k')
def cpyM (h : qH) (a0 : Nat) (sp : Int) (a : Nat) (dp n : Int) : qH := (h.1, h.2.1, fun a' k' => if a' = a ∧ dp ≤ k' ∧ k' < dp + n then h.2.2.1 a0 (sp + (k' - dp)) else h.2.2.1 a' k', h.2.2.2)
def newO (h : qH) (kd : Nat × Nat) : qH := (h.1 + 1, fun a => if a = h.1 + 2 then kd else h.2.1 a, fun a k => if a = h.1 + 2 then 0 else h.2.2.1 a k, fun a k => if a = h.1 + 2 then 0 else h.2.2.2 a k)
theorem hn_setM {h : qH} {a : Nat} {k : Int} {v : Int32} : hn (setM h a k v) = hn h := rfl
theorem hK_setM {h : qH} {a b : Nat} {k : Int} {v : Int32} : hK (setM h a k v) b = hK h b := rfl
theorem hR_setM {h : qH} {a b : Nat} {k j : Int} {v : Int32} : hR (setM h a k v) b j = hR h b j := rfl
theorem hM_setM {h : qH} {a b : Nat} {k j : Int} {v : Int32} : hM (setM h a k v) b j = if b = a ∧ j = k then v else hM h b j := rfl
theorem hn_setR {h : qH} {a : Nat} {k : Int} {v : Nat} : hn (setR h a k v) = hn h := rfl
theorem hK_setR {h : qH} {a b : Nat} {k : Int} {v : Nat} : hK (setR h a k v) b = hK h b := rfl
theorem hM_setR {h : qH} {a b : Nat} {k j : Int} {v : Nat} : hM (setR h a k v) b j = hM h b j := rfl
theorem hR_setR {h : qH} {a b : Nat} {k j : Int} {v : Nat} : hR (setR h a k v) b j = if b = a ∧ j = k then v else hR h b j := rfl
theorem hn_cpyM {h : qH} {a0 a : Nat} {sp dp n : Int} : hn (cpyM h a0 sp a dp n) = hn h := rfl
theorem hK_cpyM {h : qH} {a0 a b : Nat} {sp dp n : Int} : hK (cpyM h a0 sp a dp n) b = hK h b := rfl
theorem hR_cpyM {h : qH} {a0 a b : Nat} {sp dp n j : Int} : hR (cpyM h a0 sp a dp n) b j = hR h b j := rfl
theorem hM_cpyM {h : qH} {a0 a b : Nat} {sp dp n j : Int} : hM (cpyM h a0 sp a dp n) b j = if b = a ∧ dp ≤ j ∧ j < dp + n then hM h a0 (sp + (j - dp)) else hM h b j := rfl
theorem hn_newO {h : qH} {kd : Nat × Nat} : hn (newO h kd) = hn h + 1 := rfl
theorem hK_newO {h : qH} {kd : Nat × Nat} {b : Nat} : hK (newO h kd) b = if b = hn h + 2 then kd else hK h b := rfl
theorem hM_newO {h : qH} {kd : Nat × Nat} {b : Nat} {j : Int} : hM (newO h kd) b j = if b = hn h + 2 then 0 else hM h b j := rfl
theorem hR_newO {h : qH} {kd : Nat × Nat} {b : Nat} {j : Int} : hR (newO h kd) b j = if b = hn h + 2 then 0 else hR h b j := rfl
/-! its values in the real machine -/
abbrev qV : Type := Nat × Nat × Nat × (Nat → Int32) × va_G × (Nat → ClassId)
def qad (V : qV) (a : Nat) : Nat := if a = 1 then V.1 else V.2.2.1 + (a - 2)
def qop (V : qV) (a : Nat) : Option Nat := if a = 0 then none else some (qad V a)
def qvv (V : qV) : Value → Value := fun v => match v with
  | .ref a => va_rf (qop V a)
  | v => v
def qisR (ty : FieldType) : Bool := match ty with
  | .object _ => true
  | .array _ => true
  | _ => false
def qfv (V : qV) (h : qH) (a ci k : Nat) : Value := if qisR (qty ci k) = true then va_rf (qop V (hR h a k)) else .int (hM h a k)
def qnf (ci : Nat) : Nat := match qcl[ci]? with
  | some r => r.2.2
  | none => 0
def qce (V : qV) (h : qH) (a : Nat) : va_E :=
  if (hK h a).1 < 10 then .inr ((hK h a).1, (List.range (qnf (hK h a).1)).map (fun k => qfv V h a (hK h a).1 k))
  else if (hK h a).1 ≤ 101 then .inl (V.2.2.2.2.2 ((hK h a).1 - 100), (hK h a).2, .inl (fun j => hM h a j))
  else .inl (V.2.2.2.2.2 ((hK h a).1 - 100), (hK h a).2, .inr (.inr (.inr (.inr (fun j => qop V (hR h a j))))))
def qws (V : qV) (h : qH) : va_W := (List.range (hn h)).map (fun i => (V.2.2.1 + i, qce V h (i + 2)))
def qtys (V : qV) : List (ClassId × FieldType) := [(V.2.2.2.2.2 0, .int), (V.2.2.2.2.2 1, .byte), (V.2.2.2.2.2 2, .object RX3), (V.2.2.2.2.2 3, .object RX2), (V.2.2.2.2.2 4, .object RX5)]
def Rep (V : qV) (h : qH) (H : Heap) : Prop := va_P V.2.2.2.2.1 qcl (qws V h) H ∧ H.size = V.2.2.1 + hn h ∧ ∀ a, (hK h a).1 < 200 → 2 ≤ a ∧ a < hn h + 2
def qA (V : qV) : Nat → Prop := fun q => V.2.2.1 ≤ q
def qKf (V : qV) (U : State) : Prop := va_K V.2.2.2.2.1 qcl (qtys V) U ∧ (va_AO RX3 U ∧ va_AO RX2 U ∧ va_AO RX5 U) ∧ ∀ (o : String) (i : Nat) (y : MethodName), Cond.methodLinkNest o i y "TermLog" ∈ tables_1 → va_Nw (.methodLinkNest o i y "TermLog") U
theorem qKf.moved {V : qV} {u U : State} (hW : u.WarmedH U.vm) (h : qKf V u) : qKf V U :=
  ⟨va_K.moved hW.alike h.1, ⟨h.2.1.1.moved hW.alike, h.2.1.2.1.moved hW.alike, h.2.1.2.2.moved hW.alike⟩, fun o i y hm => va_Nw.warmM hW (h.2.2 o i y hm)⟩
theorem qKf.same {V : qV} {u U : State} (e : u.vm = U.vm) (h : qKf V u) : qKf V U :=
  ⟨va_K.moved (by rw [e]; exact Vm.Alike.refl U.vm) h.1, ⟨h.2.1.1.moved (by rw [e]; exact Vm.Alike.refl U.vm), h.2.1.2.1.moved (by rw [e]; exact Vm.Alike.refl U.vm), h.2.1.2.2.moved (by rw [e]; exact Vm.Alike.refl U.vm)⟩, fun o i y hm => va_Nw.same rfl e (h.2.2 o i y hm)⟩
theorem qws_get {V : qV} {h : qH} {i : Nat} (hi : i < hn h) : (qws V h)[i]? = some (V.2.2.1 + i, qce V h (i + 2)) := by
  simp [qws, hi]
theorem qws_at {V : qV} {h : qH} {a : Nat} (h1 : 2 ≤ a) (h2 : a < hn h + 2) : (qws V h)[a - 2]? = some (qad V a, qce V h a) := by
  rw [qws_get (by omega), qad, if_neg (by omega)]
  congr 3; omega
theorem qws_len {V : qV} {h : qH} : (qws V h).length = hn h := by simp [qws]
theorem qws_D (V : qV) (h : qH) : va_D (qA V) (qws V h) := by
  have key : ∀ (k : Nat) (q : Nat × va_E), (qws V h)[k]? = some q → q.1 = V.2.2.1 + k := by
    intro k q hk
    have hl := (List.getElem?_eq_some_iff.mp hk).1
    rw [qws_len] at hl
    rw [qws_get hl] at hk
    cases hk; rfl
  refine ⟨fun i j p q hi hj e => ?_, fun k q hk => ?_⟩
  · have := key i p hi; have := key j q hj; omega
  · have := key k q hk; show V.2.2.1 ≤ q.1; omega
theorem qws_set {V : qV} {h h' : qH} {a : Nat} (h1 : 2 ≤ a) (hnn : hn h' = hn h) (e : va_E) (hs : qce V h' a = e) (ho : ∀ b, b ≠ a → qce V h' b = qce V h b) : (qws V h).set (a - 2) (qad V a, e) = qws V h' := by
  apply List.ext_getElem?
  intro i
  by_cases hi : i < hn h
  · rw [qws_get (h := h') (by omega)]
    by_cases hia : i = a - 2
    · subst hia
      rw [List.getElem?_set_self (by rw [qws_len]; exact hi)]
      rw [← hs, qad, if_neg (by omega)]
      congr 3; omega
    · rw [List.getElem?_set_ne (Ne.symm hia), qws_get hi, ho (i + 2) (by omega)]
  · rw [List.getElem?_eq_none (by rw [List.length_set, qws_len]; omega), List.getElem?_eq_none (by rw [qws_len]; omega)]
theorem qws_new {V : qV} {h : qH} {kd : Nat × Nat} (e : va_E) (hs : qce V (newO h kd) (hn h + 2) = e) (ho : ∀ b, b < hn h + 2 → qce V (newO h kd) b = qce V h b) : qws V h ++ [(V.2.2.1 + hn h, e)] = qws V (newO h kd) := by
  apply List.ext_getElem?
  intro i
  by_cases hi : i < hn h
  · rw [List.getElem?_append_left (by rw [qws_len]; exact hi), qws_get hi, qws_get (h := newO h kd) (by rw [hn_newO]; omega), ho (i + 2) (by omega)]
  · by_cases hi2 : i = hn h
    · subst hi2
      rw [List.getElem?_append_right (by rw [qws_len]; omega), qws_len, qws_get (h := newO h kd) (by rw [hn_newO]; omega), hs]
      simp
    · rw [List.getElem?_eq_none (by simp [qws_len]; omega), List.getElem?_eq_none (by rw [qws_len, hn_newO]; omega)]
theorem qce_setM_ne {V : qV} {h : qH} {a b : Nat} {k : Int} {v : Int32} (hb : b ≠ a) : qce V (setM h a k v) b = qce V h b := by
  simp only [qce, hK_setM, qfv, hR_setM, hM_setM, hb, false_and, if_false]
theorem qce_setR_ne {V : qV} {h : qH} {a b : Nat} {k : Int} {v : Nat} (hb : b ≠ a) : qce V (setR h a k v) b = qce V h b := by
  simp only [qce, hK_setR, qfv, hM_setR, hR_setR, hb, false_and, if_false]
theorem qce_cpyM_ne {V : qV} {h : qH} {a0 a b : Nat} {sp dp n : Int} (hb : b ≠ a) : qce V (cpyM h a0 sp a dp n) b = qce V h b := by
  simp only [qce, hK_cpyM, qfv, hR_cpyM, hM_cpyM, hb, false_and, if_false]
theorem qce_obj {V : qV} {h : qH} {a ci : Nat} {z : Nat} (hk : hK h a = (ci, z)) (hc : ci < 10) : qce V h a = .inr (ci, (List.range (qnf ci)).map (fun k => qfv V h a ci k)) := by
  simp only [qce, hk, hc, if_true]
theorem qce_ints {V : qV} {h : qH} {a t n : Nat} (hk : hK h a = (100 + t, n)) (ht : t ≤ 1) : qce V h a = .inl (V.2.2.2.2.2 t, n, .inl (fun j => hM h a j)) := by
  simp only [qce, hk]
  rw [if_neg (by omega), if_pos (by omega), show 100 + t - 100 = t by omega]
theorem qce_refs {V : qV} {h : qH} {a t n : Nat} (hk : hK h a = (100 + t, n)) (ht : 2 ≤ t) : qce V h a = .inl (V.2.2.2.2.2 t, n, .inr (.inr (.inr (.inr (fun j => qop V (hR h a j)))))) := by
  simp only [qce, hk]
  rw [if_neg (by omega), if_neg (by omega), show 100 + t - 100 = t by omega]
theorem qfs_get {V : qV} {h : qH} {a ci k : Nat} (hk : k < qnf ci) : ((List.range (qnf ci)).map (fun k => qfv V h a ci k))[k]? = some (qfv V h a ci k) := by
  simp [hk]
theorem qnf_of {ci : Nat} {r : vw_C} (h : qcl[ci]? = some r) : qnf ci = r.2.2 := by simp [qnf, h]
theorem qcl_lt {ci : Nat} {r : vw_C} (h : qcl[ci]? = some r) : ci < 10 := (List.getElem?_eq_some_iff.mp h).1
theorem qcl_ty {ci : Nat} {r : vw_C} (h : qcl[ci]? = some r) : ∀ k, k < r.2.2 → parseFieldDescriptor (r.2.1 k).2.2.1 = some (qty ci k) := by
  have hc := qcl_lt h
  match ci, hc, h with
  | 0, _, h => cases h; exact tyX0_ok
  | 1, _, h => cases h; exact tyX1_ok
  | 2, _, h => cases h; exact tyX2_ok
  | 3, _, h => cases h; exact tyX3_ok
  | 4, _, h => cases h; exact tyX4_ok
  | 5, _, h => cases h; exact tyX5_ok
  | 6, _, h => cases h; exact tyX6_ok
  | 7, _, h => cases h; exact tyX7_ok
  | 8, _, h => cases h; exact tyX8_ok
  | 9, _, h => cases h; exact tyX9_ok
theorem qcl_nm {ci : Nat} {r : vw_C} (h : qcl[ci]? = some r) : ∀ a, a < r.2.2 → ∀ b, b < r.2.2 → a ≠ b → (r.2.1 a).2.1 ≠ (r.2.1 b).2.1 := by
  have hc := qcl_lt h
  match ci, hc, h with
  | 0, _, h => cases h; exact nmX0
  | 1, _, h => cases h; exact nmX1
  | 2, _, h => cases h; exact nmX2
  | 3, _, h => cases h; exact nmX3
  | 4, _, h => cases h; exact nmX4
  | 5, _, h => cases h; exact nmX5
  | 6, _, h => cases h; exact nmX6
  | 7, _, h => cases h; exact nmX7
  | 8, _, h => cases h; exact nmX8
  | 9, _, h => cases h; exact nmX9
/-- a field's store in the world -/
theorem qws_putI {V : qV} {h : qH} {a ci z k : Nat} {v : Int32} (hk : hK h a = (ci, z)) (hc : ci < 10) (h1 : 2 ≤ a) (hkk : k < qnf ci) (hr : qisR (qty ci k) = false) :
    (qws V h).set (a - 2) (qad V a, .inr (ci, ((List.range (qnf ci)).map (fun k => qfv V h a ci k)).set k (.int v))) = qws V (setM h a k v) := by
  refine qws_set h1 hn_setM _ ?_ (fun b hb => qce_setM_ne hb)
  rw [qce_obj (by rw [hK_setM]; exact hk) hc]
  congr 2
  apply List.ext_getElem?
  intro i
  by_cases hi : i < qnf ci
  · by_cases hik : i = k
    · subst hik
      rw [List.getElem?_set_self (by simpa using hi), qfs_get hi]
      simp [qfv, hr, hM_setM]
    · rw [List.getElem?_set_ne (Ne.symm hik), qfs_get hi, qfs_get hi]
      have : (i : Int) ≠ (k : Int) := by omega
      simp [qfv, hM_setM, hR_setM, this]
  · rw [List.getElem?_eq_none (by simpa using hi), List.getElem?_eq_none (by simpa using hi)]
theorem qws_putR {V : qV} {h : qH} {a ci z k v : Nat} (hk : hK h a = (ci, z)) (hc : ci < 10) (h1 : 2 ≤ a) (hkk : k < qnf ci) (hr : qisR (qty ci k) = true) :
    (qws V h).set (a - 2) (qad V a, .inr (ci, ((List.range (qnf ci)).map (fun k => qfv V h a ci k)).set k (va_rf (qop V v)))) = qws V (setR h a k v) := by
  refine qws_set h1 hn_setR _ ?_ (fun b hb => qce_setR_ne hb)
  rw [qce_obj (by rw [hK_setR]; exact hk) hc]
  congr 2
  apply List.ext_getElem?
  intro i
  by_cases hi : i < qnf ci
  · by_cases hik : i = k
    · subst hik
      rw [List.getElem?_set_self (by simpa using hi), qfs_get hi]
      simp [qfv, hr, hR_setR]
    · rw [List.getElem?_set_ne (Ne.symm hik), qfs_get hi, qfs_get hi]
      have : (i : Int) ≠ (k : Int) := by omega
      simp [qfv, hM_setR, hR_setR, this]
  · rw [List.getElem?_eq_none (by simpa using hi), List.getElem?_eq_none (by simpa using hi)]
theorem qws_astI {V : qV} {h : qH} {a t n : Nat} {j : Int} {v : Int32} (hk : hK h a = (100 + t, n)) (ht : t ≤ 1) (h1 : 2 ≤ a) (hj : 0 ≤ j) :
    (qws V h).set (a - 2) (qad V a, .inl (V.2.2.2.2.2 t, n, .inl (upd (fun j => hM h a j) j.toNat v))) = qws V (setM h a j v) := by
  refine qws_set h1 hn_setM _ ?_ (fun b hb => qce_setM_ne hb)
  rw [qce_ints (by rw [hK_setM]; exact hk) ht]
  congr 3
  congr 1
  funext i
  simp only [hM_setM, upd, true_and]
  by_cases hi : i = j.toNat
  · rw [if_pos hi, if_pos (by omega)]
  · rw [if_neg hi, if_neg (by omega)]
theorem qws_astR {V : qV} {h : qH} {a t n v : Nat} {j : Int} (hk : hK h a = (100 + t, n)) (ht : 2 ≤ t) (h1 : 2 ≤ a) (hj : 0 ≤ j) :
    (qws V h).set (a - 2) (qad V a, .inl (V.2.2.2.2.2 t, n, .inr (.inr (.inr (.inr (va_up (fun j => qop V (hR h a j)) j.toNat (qop V v))))))) = qws V (setR h a j v) := by
  refine qws_set h1 hn_setR _ ?_ (fun b hb => qce_setR_ne hb)
  rw [qce_refs (by rw [hK_setR]; exact hk) ht]
  congr 6
  congr 1
  funext i
  simp only [hR_setR, va_up, true_and]
  by_cases hi : i = j.toNat
  · rw [if_pos hi, if_pos (by omega)]
  · rw [if_neg hi, if_neg (by omega)]
theorem qws_cpy {V : qV} {h : qH} {a0 a t n : Nat} {sp dp nn : Int} (hk : hK h a = (100 + t, n)) (ht : t ≤ 1) (h1 : 2 ≤ a) (hs : 0 ≤ sp) (hd : 0 ≤ dp) (hl : 0 ≤ nn) :
    (qws V h).set (a - 2) (qad V a, .inl (V.2.2.2.2.2 t, n, .inl (va_cpy (fun j => hM h a0 j) (fun j => hM h a j) sp.toNat dp.toNat nn.toNat))) = qws V (cpyM h a0 sp a dp nn) := by
  refine qws_set h1 hn_cpyM _ ?_ (fun b hb => qce_cpyM_ne hb)
  rw [qce_ints (by rw [hK_cpyM]; exact hk) ht]
  congr 3
  congr 1
  funext i
  simp only [hM_cpyM, va_cpy, true_and]
  by_cases hi : dp.toNat ≤ i ∧ i < dp.toNat + nn.toNat
  · rw [if_pos hi, if_pos (by omega)]
    congr 1; omega
  · rw [if_neg hi, if_neg (by omega)]
