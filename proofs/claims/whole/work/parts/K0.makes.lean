/-! makings: new objects, new arrays -/
theorem qce_old {V : qV} {h : qH} {kd : Nat × Nat} {b : Nat} (hb : b ≠ hn h + 2) : qce V (newO h kd) b = qce V h b := by
  have e1 : hK (newO h kd) b = hK h b := by rw [hK_newO, if_neg hb]
  have e2 : ∀ j, hM (newO h kd) b j = hM h b j := fun j => by rw [hM_newO, if_neg hb]
  have e3 : ∀ j, hR (newO h kd) b j = hR h b j := fun j => by rw [hR_newO, if_neg hb]
  unfold qce qfv
  simp only [e1, e2, e3]
theorem Rep_new {V : qV} {h : qH} {H H1 : Heap} {kd : Nat × Nat} {e : va_E} (hR : Rep V h H) (e1 : va_P V.2.2.2.2.1 qcl [(V.2.2.1 + hn h, e)] H1) (z1 : H1.size = H.size + 1) (o1 : ∀ q, q < H.size → H1[q]? = H[q]?) (hs : qce V (newO h kd) (hn h + 2) = e) : Rep V (newO h kd) H1 := by
  obtain ⟨h1, h2, h3⟩ := hR
  refine ⟨?_, by rw [z1, h2, hn_newO]; omega, fun a ha => ?_⟩
  · rw [← qws_new e hs (fun b hb => qce_old (by omega))]
    exact (h1.kept (fun k x hx => o1 x.1 ((h1 k x hx).lt))).app e1
  · rw [hK_newO] at ha
    rw [hn_newO]
    by_cases q : a = hn h + 2
    · omega
    · rw [if_neg q] at ha
      have := h3 a ha
      omega
theorem va_S_new {V : qV} {H0 H H1 : Heap} {locs : List Loc} (hS : va_S (qA V) H0 H locs) (z1 : H1.size = H.size + 1) (o1 : ∀ q, q < H.size → H1[q]? = H[q]?) : va_S (qA V) H0 H1 locs :=
  ⟨Nat.le_trans hS.1 (by omega), fun x h1 h2 => (o1 x (Nat.lt_of_lt_of_le h1 hS.1)).trans (hS.2.1 x h1 h2), hS.2.2⟩
theorem qty_fin : (List.range 10).all (fun a => (List.range (qnf a)).all (fun k => match qty a k with | .int => true | .boolean => true | .object _ => true | .array _ => true | _ => false)) = true := by decide +kernel
theorem qty_def {a k : Nat} (ha : a < 10) (hk : k < qnf a) : defaultValue (qty a k) = if qisR (qty a k) = true then .null else .int 0 := by
  have h1 := List.all_eq_true.mp (List.all_eq_true.mp qty_fin a (List.mem_range.mpr ha)) k (List.mem_range.mpr hk)
  generalize qty a k = ty at h1 ⊢
  cases ty <;> first | rfl | exact absurd h1 Bool.false_ne_true
theorem qT_arr : Cond.arrayClass .int ∈ qT ∧ Cond.arrayClass .byte ∈ qT :=
  ⟨qT_mem (List.mem_of_getElem? (i := 50) (by decide +kernel)) rfl, qT_mem (List.mem_of_getElem? (i := 1287) (by decide +kernel)) rfl⟩
section Mk
variable {l : Launch} {V : qV} {mi : qMI} {R : Room} {mc ms nc ns : Nat} {Q : Option Value → qH → Prop} {cd : Nat → Option qE}
theorem qrel_mk {pc len : Nat} {i : Instr} {op nx a b : Nat} {v : Int} {L : List (Int × Nat)} {w0 : Nat} (hop : 46 ≤ op ∧ op ≤ 49) (hrel : qrel mi pc i len (op, nx, a, b, v, L, w0) = true) : nx = pc + len ∧
    ((op = 46 ∧ len = 3 ∧ ∃ idx, i = .new idx ∧ ∃ r, qcl[a]? = some r ∧ Cond.classLink (qon mi.2.2.2.2.2.1) idx r.1 ∈ qT) ∨ (op = 47 ∧ len = 2 ∧ i = .newarray .int) ∨ (op = 48 ∧ len = 2 ∧ i = .newarray .byte) ∨ (op = 49 ∧ len = 3 ∧ ∃ idx, i = .anewarray idx ∧ ∃ r, qcl[a]? = some r ∧ Cond.classLink (qon mi.2.2.2.2.2.1) idx r.1 ∈ qT)) := by
  have kl : ∀ {idx : Nat}, (match qKL[w0]? with | some q => decide (q.1 = mi.2.2.2.2.2.1 ∧ q.2.1 = idx ∧ q.2.2.1 = a) | none => false) = true → ∃ r, qcl[a]? = some r ∧ Cond.classLink (qon mi.2.2.2.2.2.1) idx r.1 ∈ qT := by
    intro idx h
    split at h
    · rename_i q hq
      obtain ⟨q1, q2, q3, q4⟩ := q
      simp only [decide_eq_true_eq] at h
      obtain ⟨rfl, rfl, rfl⟩ := h
      exact qKL_spec hq
    · cases h
  simp only [qrel, Bool.and_eq_true, decide_eq_true_eq] at hrel
  obtain ⟨h0, hrel⟩ := hrel
  refine ⟨h0, ?_⟩
  cases i with
  | new idx => simp only [Bool.and_eq_true, decide_eq_true_eq] at hrel; exact Or.inl ⟨hrel.1.2, hrel.1.1, idx, rfl, kl hrel.2⟩
  | anewarray idx => simp only [Bool.and_eq_true, decide_eq_true_eq] at hrel; exact Or.inr (Or.inr (Or.inr ⟨hrel.1.2, hrel.1.1, idx, rfl, kl hrel.2⟩))
  | newarray t =>
    simp only [Bool.and_eq_true, Bool.or_eq_true, decide_eq_true_eq] at hrel
    obtain ⟨h1, ⟨rfl, h2⟩ | ⟨rfl, h2⟩⟩ := hrel
    · exact Or.inr (Or.inl ⟨h2, h1, rfl⟩)
    · exact Or.inr (Or.inr (Or.inl ⟨h2, h1, rfl⟩))
  | getfield idx => exfalso; simp only [Bool.and_eq_true, decide_eq_true_eq] at hrel; obtain ⟨-, e1⟩ := hrel; obtain ⟨r, -, -, -, -, e2⟩ := qflk_spec e1; split at e2 <;> simp only [decide_eq_true_eq] at e2 <;> omega
  | putfield idx => exfalso; simp only [Bool.and_eq_true, decide_eq_true_eq] at hrel; obtain ⟨-, e1⟩ := hrel; obtain ⟨r, -, -, -, -, e2⟩ := qflk_spec e1; simp only [Bool.and_eq_true] at e2; obtain ⟨e2, -⟩ := e2; (split at e2; · simp only [decide_eq_true_eq] at e2; omega); split at e2 <;> simp only [decide_eq_true_eq] at e2 <;> omega
  | _ =>
    exfalso
    first
      | exact Bool.false_ne_true hrel
      | (simp only [Bool.and_eq_true, Bool.or_eq_true, decide_eq_true_eq] at hrel; omega)
theorem qvv_new {h : qH} : qvv V (.ref (hn h + 2)) = .ref (V.2.2.1 + hn h) := by
  show va_rf (qop V (hn h + 2)) = _
  unfold qop qad
  rw [if_neg (by omega), if_neg (by omega), Nat.add_sub_cancel]
  rfl
/-- an object is made -/
theorem G_new {nx a b : Nat} {vv : Int} {L : List (Int × Nat)} {w0 : Nat} {pc : Nat} {lv st : List Value} {h : qH} (hcd : cdok mi cd) (he : cd pc = some (46, nx, a, b, vv, L, w0)) (hnc : nc + 1 ≤ R.cells) (hns : ns + qnf a ≤ R.slots) (kk : G l V mi R mc ms Q (nc + 1) (ns + qnf a) nx lv (.ref (hn h + 2) :: st) (newO h (a, 0))) : G l V mi R mc ms Q nc ns pc lv st h := by
  intro p e s m args below meth c Z C RT H locs ls hRp hS hl
  obtain ⟨i, len, hdec, hrel⟩ := hcd _ _ he
  obtain ⟨rfl, hh⟩ := qrel_mk (by omega) hrel
  rcases hh with ⟨-, rfl, idx, rfl, r, f1, f2⟩ | ⟨q, -⟩ | ⟨q, -⟩ | ⟨q, -⟩
  · have kk1 := kk p e s m args below meth c Z C RT
    obtain ⟨⟨hx, hb, hml⟩, -, hown, hts, hKf, -⟩ := C
    have hKn := hKf.1.1 a r f1
    have hq := qnf_of f1
    have ha := qcl_lt f1
    rw [hq] at hns kk1
    refine W.newcK hx hb hown (hts _ f2) (hts _ (qcl_inst f1).1) (hts _ (qcl_inst f1).2) rfl hdec hnc hns hKn.2.1 rfl (fun H1 kC hkC e1 z1 o1 => ?_)
    have ef : qce V (newO h (a, 0)) (hn h + 2) = .inr (a, (List.range (qnf a)).map (fun k => qfv V (newO h (a, 0)) (hn h + 2) a k)) := qce_obj (z := 0) (by rw [hK_newO, if_pos rfl]) ha
    have hsz : H.size = V.2.2.1 + hn h := hRp.2.1
    have hR1 : Rep V (newO h (a, 0)) H1 := by
      refine Rep_new hRp (fun k x hx => ?_) z1 o1 ef
      have hz : k < 1 := (List.getElem?_eq_some_iff.mp hx).1
      rw [show k = 0 by omega] at hx
      cases hx
      refine ⟨_, f1, ?_⟩
      rw [hsz] at e1
      refine (u_born (qty a) hts (qcl_in f1) hKn hkC e1 (qcl_ty f1)).to (fun j hj => ?_)
      rw [qty_def ha (by rw [hq]; exact hj)]
      have eg := qfs_get (V := V) (h := newO h (a, 0)) (a := hn h + 2) (ci := a) (k := j) (by rw [hq]; exact hj)
      show _ = vp_V ((List.range (qnf a)).map (fun k => qfv V (newO h (a, 0)) (hn h + 2) a k)) j
      rw [show vp_V ((List.range (qnf a)).map (fun k => qfv V (newO h (a, 0)) (hn h + 2) a k)) j = qfv V (newO h (a, 0)) (hn h + 2) a j by simp [vp_V, hq, hj]]
      unfold qfv
      split
      · rw [hR_newO, if_pos rfl]; rfl
      · rw [hM_newO, if_pos rfl]
    have := kk1 H1 locs ls hR1 (va_S_new hS z1 o1) hl
    rw [List.map_cons, qvv_new, ← hsz] at this
    exact this
  · omega
  · omega
  · omega
theorem na_size {n : Int32} {N : Nat} (h0 : 0 ≤ n.toInt) (hN : n.toInt.toNat = N) : ¬ n < 0 ∧ n.toNatClampNeg = N := by
  refine ⟨fun z => ?_, by rw [← hN]; rfl⟩
  have := Int32.lt_iff_toInt_lt.mp z
  rw [Int32.toInt_zero] at this
  omega
/-- an array of ints is made -/
theorem G_newi {nx a b : Nat} {vv : Int} {L : List (Int × Nat)} {w0 : Nat} {pc : Nat} {lv st : List Value} {h : qH} {n : Int32} {N : Nat} (hcd : cdok mi cd) (he : cd pc = some (47, nx, a, b, vv, L, w0)) (h0 : 0 ≤ n.toInt) (hN : n.toInt.toNat = N) (hb8 : N ≤ 100000) (hnc : nc + 1 ≤ R.cells) (hns : ns + N ≤ R.slots) (kk : G l V mi R mc ms Q (nc + 1) (ns + N) nx lv (.ref (hn h + 2) :: st) (newO h (100, N))) : G l V mi R mc ms Q nc ns pc lv (.int n :: st) h := by
  intro p e s m args below meth c Z C RT H locs ls hRp hS hl
  obtain ⟨i, len, hdec, hrel⟩ := hcd _ _ he
  obtain ⟨rfl, hh⟩ := qrel_mk (by omega) hrel
  rcases hh with ⟨q, -⟩ | ⟨-, rfl, rfl⟩ | ⟨q, -⟩ | ⟨q, -⟩
  · omega
  · have kk1 := kk p e s m args below meth c Z C RT
    obtain ⟨⟨hx, hb, hml⟩, -, hown, hts, hKf, -⟩ := C
    obtain ⟨n1, n2⟩ := na_size h0 hN
    refine va_newaK (atype := .int) hx hb (hts _ qT_arr.1) rfl hdec rfl n1 n2 (by show N * 4 ≤ 536870912; omega) hnc hns rfl (fun H1 cA e1 z1 o1 hAr hNm => ?_)
    have hsz : H.size = V.2.2.1 + hn h := hRp.2.1
    have hcA : cA = V.2.2.2.2.2 0 := by
      have h2 : s.vm.findClass ("[" ++ FieldType.int.toString) = some (V.2.2.2.2.2 0) := (hKf.1.2 0 _ rfl).2
      have h3 : s.vm.findClass ("[" ++ FieldType.int.toString) = some cA := hNm
      exact Option.some.inj (h3.symm.trans h2)
    have ef : qce V (newO h (100, N)) (hn h + 2) = .inl (V.2.2.2.2.2 0, N, .inl (fun _ => 0)) := by
      have k1 : hK (newO h (100, N)) (hn h + 2) = (100, N) := by rw [hK_newO, if_pos rfl]
      have k2 : ∀ j, hM (newO h (100, N)) (hn h + 2) j = 0 := fun j => by rw [hM_newO, if_pos rfl]
      unfold qce
      simp [k1, k2]
    have hR1 : Rep V (newO h (100, N)) H1 := by
      refine Rep_new hRp (fun k x hx => ?_) z1 o1 ef
      have hz : k < 1 := (List.getElem?_eq_some_iff.mp hx).1
      rw [show k = 0 by omega] at hx
      cases hx
      show H1[V.2.2.1 + hn h]? = some (vp_cell _ _)
      rw [vp_cell_i, ← hsz, e1, hcA]
      rfl
    have := kk1 H1 locs ls hR1 (va_S_new hS z1 o1) hl
    rw [List.map_cons, qvv_new, ← hsz] at this
    exact this
  · omega
  · omega
/-- an array of bytes is made -/
theorem G_newb {nx a b : Nat} {vv : Int} {L : List (Int × Nat)} {w0 : Nat} {pc : Nat} {lv st : List Value} {h : qH} {n : Int32} {N : Nat} (hcd : cdok mi cd) (he : cd pc = some (48, nx, a, b, vv, L, w0)) (h0 : 0 ≤ n.toInt) (hN : n.toInt.toNat = N) (hb8 : N ≤ 100000) (hnc : nc + 1 ≤ R.cells) (hns : ns + N ≤ R.slots) (kk : G l V mi R mc ms Q (nc + 1) (ns + N) nx lv (.ref (hn h + 2) :: st) (newO h (101, N))) : G l V mi R mc ms Q nc ns pc lv (.int n :: st) h := by
  intro p e s m args below meth c Z C RT H locs ls hRp hS hl
  obtain ⟨i, len, hdec, hrel⟩ := hcd _ _ he
  obtain ⟨rfl, hh⟩ := qrel_mk (by omega) hrel
  rcases hh with ⟨q, -⟩ | ⟨q, -⟩ | ⟨-, rfl, rfl⟩ | ⟨q, -⟩
  · omega
  · omega
  · have kk1 := kk p e s m args below meth c Z C RT
    obtain ⟨⟨hx, hb, hml⟩, -, hown, hts, hKf, -⟩ := C
    obtain ⟨n1, n2⟩ := na_size h0 hN
    refine va_newaK (atype := .byte) hx hb (hts _ qT_arr.2) rfl hdec rfl n1 n2 (by show N * 1 ≤ 536870912; omega) hnc hns rfl (fun H1 cA e1 z1 o1 hAr hNm => ?_)
    have hsz : H.size = V.2.2.1 + hn h := hRp.2.1
    have hcA : cA = V.2.2.2.2.2 1 := by
      have h2 : s.vm.findClass ("[" ++ FieldType.byte.toString) = some (V.2.2.2.2.2 1) := (hKf.1.2 1 _ rfl).2
      have h3 : s.vm.findClass ("[" ++ FieldType.byte.toString) = some cA := hNm
      exact Option.some.inj (h3.symm.trans h2)
    have ef : qce V (newO h (101, N)) (hn h + 2) = .inl (V.2.2.2.2.2 1, N, .inl (fun _ => 0)) := by
      have k1 : hK (newO h (101, N)) (hn h + 2) = (101, N) := by rw [hK_newO, if_pos rfl]
      have k2 : ∀ j, hM (newO h (101, N)) (hn h + 2) j = 0 := fun j => by rw [hM_newO, if_pos rfl]
      unfold qce
      simp [k1, k2]
    have hR1 : Rep V (newO h (101, N)) H1 := by
      refine Rep_new hRp (fun k x hx => ?_) z1 o1 ef
      have hz : k < 1 := (List.getElem?_eq_some_iff.mp hx).1
      rw [show k = 0 by omega] at hx
      cases hx
      show H1[V.2.2.1 + hn h]? = some (vp_cell _ _)
      rw [vp_cell_i, ← hsz, e1, hcA]
      rfl
    have := kk1 H1 locs ls hR1 (va_S_new hS z1 o1) hl
    rw [List.map_cons, qvv_new, ← hsz] at this
    exact this
  · omega
/-- an array of objects is made -/
theorem G_newq {nx a b : Nat} {vv : Int} {L : List (Int × Nat)} {w0 : Nat} {pc : Nat} {lv st : List Value} {h : qH} {n : Int32} {N t : Nat} (hcd : cdok mi cd) (he : cd pc = some (49, nx, a, b, vv, L, w0)) (hat : (a = 3 ∧ t = 2) ∨ (a = 2 ∧ t = 3) ∨ (a = 5 ∧ t = 4)) (h0 : 0 ≤ n.toInt) (hN : n.toInt.toNat = N) (hb8 : N ≤ 100000) (hnc : nc + 1 ≤ R.cells) (hns : ns + N ≤ R.slots) (kk : G l V mi R mc ms Q (nc + 1) (ns + N) nx lv (.ref (hn h + 2) :: st) (newO h (100 + t, N))) : G l V mi R mc ms Q nc ns pc lv (.int n :: st) h := by
  intro p e s m args below meth c Z C RT H locs ls hRp hS hl
  obtain ⟨i, len, hdec, hrel⟩ := hcd _ _ he
  obtain ⟨rfl, hh⟩ := qrel_mk (by omega) hrel
  rcases hh with ⟨q, -⟩ | ⟨q, -⟩ | ⟨q, -⟩ | ⟨-, rfl, idx, rfl, r, f1, f2⟩
  · omega
  · omega
  · omega
  · have kk1 := kk p e s m args below meth c Z C RT
    obtain ⟨⟨hx, hb, hml⟩, -, hown, hts, hKf, -⟩ := C
    obtain ⟨n1, n2⟩ := na_size h0 hN
    have key : va_AO r.1 s ∧ (qtys V)[t]? = some (V.2.2.2.2.2 t, .object r.1) := by
      rcases hat with ⟨rfl, rfl⟩ | ⟨rfl, rfl⟩ | ⟨rfl, rfl⟩
      · cases f1; exact ⟨hKf.2.1.1, rfl⟩
      · cases f1; exact ⟨hKf.2.1.2.1, rfl⟩
      · cases f1; exact ⟨hKf.2.1.2.2, rfl⟩
    have hns' : ns + n.toNatClampNeg ≤ R.slots := by rw [n2]; exact hns
    refine W.anew (C := r.1) hx hb hown (hts _ f2) (va_AO.use key.1) rfl hdec rfl n1 (by rw [n2]; omega) hnc hns' (fun cA kA comp g1 g2 g3 g4 => ?_)
    rw [n2]
    have hsz : H.size = V.2.2.1 + hn h := hRp.2.1
    have hcA : cA = V.2.2.2.2.2 t := by
      obtain ⟨kA', comp', -, -, -, h2⟩ := (hKf.1.2 t _ key.2).2
      exact Option.some.inj (g1.symm.trans h2)
    generalize hH1 : H.push ({ cls := cA, slots := Array.replicate N .null, vm := .none } : Cell) = H1
    have z1 : H1.size = H.size + 1 := by rw [← hH1, Array.size_push]
    have e1 : H1[H.size]? = some (arrV cA N (fun _ => .null)) := by rw [← hH1, Array.getElem?_push_size, ← arrV_new]
    have o1 : ∀ q : Nat, q < H.size → H1[q]? = H[q]? := fun q hq => by rw [← hH1, Array.getElem?_push, if_neg (Nat.ne_of_lt hq)]
    have ht : 2 ≤ t ∧ t ≤ 4 := by omega
    have ef : qce V (newO h (100 + t, N)) (hn h + 2) = .inl (V.2.2.2.2.2 t, N, .inr (.inr (.inr (.inr (fun _ => none))))) := by
      have k1 : hK (newO h (100 + t, N)) (hn h + 2) = (100 + t, N) := by rw [hK_newO, if_pos rfl]
      have k3 : ∀ j, hR (newO h (100 + t, N)) (hn h + 2) j = 0 := fun j => by rw [hR_newO, if_pos rfl]
      have k4 : qop V 0 = none := rfl
      unfold qce
      rw [k1, if_neg (by omega), if_neg (by omega)]
      simp only [k3, k4, Nat.add_sub_cancel_left]
    have hR1 : Rep V (newO h (100 + t, N)) H1 := by
      refine Rep_new hRp (fun k x hx => ?_) z1 o1 ef
      have hz : k < 1 := (List.getElem?_eq_some_iff.mp hx).1
      rw [show k = 0 by omega] at hx
      cases hx
      show H1[V.2.2.1 + hn h]? = some (vp_cell _ _)
      rw [vp_cell_q, ← hsz, e1, hcA]
      rfl
    have := kk1 H1 locs ls hR1 (va_S_new hS z1 o1) hl
    rw [List.map_cons, qvv_new, ← hsz] at this
    exact this
end Mk
