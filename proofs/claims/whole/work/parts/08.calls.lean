/-! calls, makings, contracts -/
section Calls
variable {V : qV} {mi : qMI} {R : Room} {p : Program} {l : Launch} {e : Env} {s : State} {m : MethodId} {args : Array Value} {below : List Frame} {meth : Method} {c : Code} {nc ns mc ms : Nat} {Z : State → Prop} {Q : Option Value → qH → Prop} {cd : Nat → Option qE}
def qPc (V : qV) (as : List Value) (h : qH) : Array Value → State → Prop := fun v U => v = (as.map (qvv V)).toArray ∧ Rep V h U.heap ∧ qKf V U ∧ va_X V.1 V.2.1 V.2.2.2.1 U U.heap ∧ V.1 < V.2.2.1 ∧ V.2.2.1 ≤ U.heap.size
def qQc (V : qV) (Q : Option Value → qH → Prop) : Array Value → State → Outcome → State → Prop := fun _ st o t => (∃ (v : Option Value) (h : qH), o = .returned (v.map (qvv V)) ∧ Q v h ∧ Rep V h t.heap) ∧ va_F (qA V) st t
/-- a method's contract: from 'as' and 'h' it returns, and Q holds of its answer and of what is then -/
def T (l : Launch) (V : qV) (mi : qMI) (R : Room) (mc ms : Nat) (as : List Value) (h : qH) (Q : Option Value → qH → Prop) : Prop :=
  Met l mi.1 (Cond.code mi.1 mi.2.1 mi.2.2.1 mi.2.2.2.1 :: qT) R (qPc V as h) (qQc V Q) mc ms (qA V)
theorem qPc_blind {as : List Value} {h : qH} : FrameBlind (qPc V as h) := fun a U g mk q => ⟨q.1, q.2.1, q.2.2.1.same (u := U) (U := U.calling g mk a) rfl, va_X.moved (u := U) (U := U.calling g mk a) (Vm.Alike.refl U.vm) q.2.2.2.1, q.2.2.2.2⟩
theorem qcallW {mc' ms' : Nat} {pc : Nat} {ls : Array Slot} {H : Heap} {locs : List Loc} {st0 rest : List Value} {a : Array Value} {Q' : Option Value → qH → Prop}
    (hr : va_Run p l e R s m args below meth c H locs nc ns mc' ms' (F0 m pc ls st0) (rest.map (qvv V)) (qQc V Q' a) (qA V)) (hS : va_S (qA V) s.heap H locs)
    (kk : ∀ (v : Option Value) (h : qH) (H1 : Heap) (locs1 : List Loc), Q' v h → Rep V h H1 → va_S (qA V) s.heap H1 locs1 → W p l e R s m args below meth c H1 locs1 (nc + mc') (ns + ms') Z (F0 m (pc + 3) ls ((v.toList ++ rest).map (qvv V)))) : W p l e R s m args below meth c H locs nc ns Z (F0 m pc ls st0) := by
  intro T hT X
  obtain ⟨v, st₀, t, T', L, h0, X', hL, e1, e2, ⟨⟨v', h, hv, hq, hrep⟩, hz, hk⟩, st⟩ := hr T hT X
  cases hv
  rw [h0] at hz hk
  have hS1 : va_S (qA V) s.heap T'.heap (locs ++ L) := ⟨Nat.le_trans hS.1 (by rw [e1]; exact hz), fun q h1 h2 => by rw [e1, hk q (Nat.lt_of_lt_of_le h1 hS.1) h2]; exact hS.2.1 q h1 h2, fun q hq => by
      rcases List.mem_append.mp hq with h | h
      · exact hS.2.2 q h
      · exact hL q h⟩
  obtain ⟨t2, a1, b1⟩ := kk v' h T'.heap (locs ++ L) hq (by rw [e1]; exact hrep) hS1 T' rfl X'
  refine ⟨t2, st t2 ?_, b1⟩
  cases v' with
  | none => exact a1
  | some v' => exact a1
theorem qroom {mi : qMI} {R' : Room} (h : R'.frames + 1 ≤ R.frames ∧ R'.locals + 64 ≤ R.locals) (hm : mi.2.2.1 ≤ 40) : R'.frames + 1 ≤ R.frames ∧ 8 + (mi.2.2.1 + 11) + R'.locals ≤ R.locals := ⟨h.1, by omega⟩
/-- the tables' side of a call -/
theorem qcall_pre {as : List Value} {h : qH} {H : Heap} {locs : List Loc} (C : qCx V mi R p s m args meth c) (hR : Rep V h H) (hS : va_S (qA V) s.heap H locs) : ∀ U : State, U.heap = H → s.WarmedH U.vm → qPc V as h (as.map (qvv V)).toArray U := by
  intro U hU hW
  obtain ⟨-, -, -, -, hKf, ⟨hX, hbl, hbs⟩, -⟩ := C
  refine ⟨rfl, by rw [hU]; exact hR, hKf.moved hW, ?_, hbl, by rw [hU]; exact Nat.le_trans hbs hS.1⟩
  rw [hU]
  exact (hX.moved hW.alike).kept (hS.2.1 _ (by omega) (by show ¬ V.2.2.1 ≤ V.1; omega))
theorem qCL_of {o idx a np k : Nat} {w : Nat} (h : (match qCL[w]?, qms[a]? with | some q, some t => decide (q.1 = o ∧ q.2.1 = idx ∧ q.2.2.1 = a ∧ np = t.2.2.2.2.1 ∧ t.2.2.2.2.2.2 = k) | _, _ => false) = true) :
    ∃ t, qms[a]? = some t ∧ Cond.methodLink (qon o) idx t.1 ∈ qT ∧ np = t.2.2.2.2.1 ∧ t.2.2.2.2.2.2 = k := by
  split at h
  · rename_i q t hq ht
    obtain ⟨q1, q2, q3, q4⟩ := q
    simp only [decide_eq_true_eq] at h
    obtain ⟨rfl, rfl, rfl, h4, h5⟩ := h
    obtain ⟨t', f1, f2⟩ := qCL_spec hq
    have e : t' = t := Option.some.inj (f1.symm.trans ht)
    subst e
    exact ⟨t', f1, f2, h4, h5⟩
  · cases h
theorem qNL_of {o idx a np k : Nat} {w : Nat} (h : (match qNL[w]?, qms[a]? with | some q, some t => decide (q.1 = o ∧ q.2.1 = idx ∧ q.2.2.1 = a ∧ np = t.2.2.2.2.1 ∧ t.2.2.2.2.2.2 = k) | _, _ => false) = true) :
    ∃ t, qms[a]? = some t ∧ Cond.methodLinkNest (qon o) idx t.1 "TermLog" ∈ tables_1 ∧ np = t.2.2.2.2.1 ∧ t.2.2.2.2.2.2 = k := by
  split at h
  · rename_i q t hq ht
    obtain ⟨q1, q2, q3, q4⟩ := q
    simp only [decide_eq_true_eq] at h
    obtain ⟨rfl, rfl, rfl, h4, h5⟩ := h
    obtain ⟨t', f1, f2⟩ := qNL_spec hq
    have e : t' = t := Option.some.inj (f1.symm.trans ht)
    subst e
    exact ⟨t', f1, f2, h4, h5⟩
  · cases h
theorem qrel_call {pc len : Nat} {i : Instr} {op nx a b : Nat} {v : Int} {L : List (Int × Nat)} {w0 : Nat} (hop : 43 ≤ op ∧ op ≤ 45) (hrel : qrel mi pc i len (op, nx, a, b, v, L, w0) = true) : len = 3 ∧ nx = pc + len ∧ ∃ t idx, qms[a]? = some t ∧ b = t.2.2.2.2.1 ∧
    ((op = 43 ∧ i = .invokespecial idx ∧ t.2.2.2.2.2.2 = 2 ∧ Cond.methodLink (qon mi.2.2.2.2.2.1) idx t.1 ∈ qT) ∨ (op = 43 ∧ i = .invokespecial idx ∧ t.2.2.2.2.2.2 = 2 ∧ Cond.methodLinkNest (qon mi.2.2.2.2.2.1) idx t.1 "TermLog" ∈ tables_1) ∨
     (op = 44 ∧ i = .invokevirtual idx ∧ t.2.2.2.2.2.2 = 1 ∧ Cond.methodLink (qon mi.2.2.2.2.2.1) idx t.1 ∈ qT) ∨ (op = 45 ∧ i = .invokestatic idx ∧ t.2.2.2.2.2.2 = 0 ∧ Cond.methodLink (qon mi.2.2.2.2.2.1) idx t.1 ∈ qT) ∨ (op = 45 ∧ i = .invokestatic idx ∧ t.2.2.2.2.2.2 = 0 ∧ Cond.methodLinkNest (qon mi.2.2.2.2.2.1) idx t.1 "TermLog" ∈ tables_1)) := by
  simp only [qrel, Bool.and_eq_true, decide_eq_true_eq] at hrel
  obtain ⟨hnx, hrel⟩ := hrel
  cases i with
  | invokespecial idx =>
    simp only [Bool.and_eq_true, Bool.or_eq_true, decide_eq_true_eq] at hrel
    obtain ⟨hl, (⟨q, -⟩ | ⟨⟨q, -⟩, hr⟩) | ⟨⟨q, -⟩, hr⟩⟩ := hrel
    · omega
    · obtain ⟨t, f1, f2, f3, f4⟩ := qCL_of hr
      exact ⟨hl, hnx, t, idx, f1, f3, Or.inl ⟨q, rfl, f4, f2⟩⟩
    · obtain ⟨t, f1, f2, f3, f4⟩ := qNL_of hr
      exact ⟨hl, hnx, t, idx, f1, f3, Or.inr (Or.inl ⟨q, rfl, f4, f2⟩)⟩
  | invokevirtual idx =>
    simp only [Bool.and_eq_true, Bool.or_eq_true, decide_eq_true_eq] at hrel
    obtain ⟨hl, ⟨q, -⟩, hr⟩ := hrel
    obtain ⟨t, f1, f2, f3, f4⟩ := qCL_of hr
    exact ⟨hl, hnx, t, idx, f1, f3, Or.inr (Or.inr (Or.inl ⟨q, rfl, f4, f2⟩))⟩
  | invokestatic idx =>
    simp only [Bool.and_eq_true, Bool.or_eq_true, decide_eq_true_eq] at hrel
    obtain ⟨hl, (((⟨q, -⟩ | ⟨q, -⟩) | ⟨q, -⟩) | ⟨⟨q, -⟩, hr⟩) | ⟨⟨q, -⟩, hr⟩⟩ := hrel
    · omega
    · omega
    · omega
    · obtain ⟨t, f1, f2, f3, f4⟩ := qCL_of hr
      exact ⟨hl, hnx, t, idx, f1, f3, Or.inr (Or.inr (Or.inr (Or.inl ⟨q, rfl, f4, f2⟩)))⟩
    · obtain ⟨t, f1, f2, f3, f4⟩ := qNL_of hr
      exact ⟨hl, hnx, t, idx, f1, f3, Or.inr (Or.inr (Or.inr (Or.inr ⟨q, rfl, f4, f2⟩)))⟩
  | getfield idx => exfalso; simp only [Bool.and_eq_true, decide_eq_true_eq] at hrel; obtain ⟨-, e1⟩ := hrel; obtain ⟨r, -, -, -, -, e2⟩ := qflk_spec e1; split at e2 <;> simp only [decide_eq_true_eq] at e2 <;> omega
  | putfield idx => exfalso; simp only [Bool.and_eq_true, decide_eq_true_eq] at hrel; obtain ⟨-, e1⟩ := hrel; obtain ⟨r, -, -, -, -, e2⟩ := qflk_spec e1; simp only [Bool.and_eq_true] at e2; obtain ⟨e2, -⟩ := e2; (split at e2; · simp only [decide_eq_true_eq] at e2; omega); split at e2 <;> simp only [decide_eq_true_eq] at e2 <;> omega
  | _ =>
    exfalso
    first
      | exact Bool.false_ne_true hrel
      | (simp only [Bool.and_eq_true, Bool.or_eq_true, decide_eq_true_eq] at hrel; omega)
theorem qsum8 {r : List Value} (h : r.all qtr = true) (h8 : r.length ≤ 8) : ((r.map (qvv V)).map fun v => v.category).sum ≤ 8 := by
  rw [List.map_map]
  have := qcatsum (V := V) (r := r) (fun v hv => List.all_eq_true.mp h v hv)
  show (r.map fun v => (qvv V v).category).sum ≤ 8
  omega
theorem qon_cls {ci : Nat} (h : ci < 10) : ∃ r : vw_C, qcl[ci]? = some r ∧ r.1 = qon ci := by
  match ci, h with
  | 0, _ => exact ⟨_, rfl, rfl⟩
  | 1, _ => exact ⟨_, rfl, rfl⟩
  | 2, _ => exact ⟨_, rfl, rfl⟩
  | 3, _ => exact ⟨_, rfl, rfl⟩
  | 4, _ => exact ⟨_, rfl, rfl⟩
  | 5, _ => exact ⟨_, rfl, rfl⟩
  | 6, _ => exact ⟨_, rfl, rfl⟩
  | 7, _ => exact ⟨_, rfl, rfl⟩
  | 8, _ => exact ⟨_, rfl, rfl⟩
  | 9, _ => exact ⟨_, rfl, rfl⟩
set_option maxHeartbeats 4000000 in
/-- a call by its contract -/
theorem G_call {op nx a b : Nat} {vv : Int} {L : List (Int × Nat)} {w0 : Nat} {pc : Nat} {lv : List Value} {h : qH} {t : qMI} {R' : Room} {mc' ms' : Nat} {as rest : List Value} {Q' : Option Value → qH → Prop} (st : List Value) (hcd : cdok mi cd) (he : cd pc = some (op, nx, a, b, vv, L, w0)) (hop : 43 ≤ op ∧ op ≤ 45) (ht : qms[a]? = some t)
    (hT : T l V t R' mc' ms' as h Q') (hst : st = as.reverse ++ rest) (hal : as.length = b + (if op = 45 then 0 else 1)) (hrc : (op = 44 ∨ op = 43) → ∃ x as', as = .ref x :: as' ∧ (hK h x).1 = t.2.2.2.2.2.1 ∧ t.2.2.2.2.2.1 < 10)
    (hrt : rest.all qtr = true) (hr8 : rest.length ≤ 8) (hR' : R'.frames + 1 ≤ R.frames ∧ R'.locals + 64 ≤ R.locals ∧ R'.cells = mc' ∧ R'.slots = ms') (hco : nc + mc' ≤ R.cells ∧ ns + ms' ≤ R.slots)
    (kk : ∀ (v : Option Value) (h' : qH), Q' v h' → G l V mi R mc ms Q (nc + mc') (ns + ms') nx lv (v.toList ++ rest) h') : G l V mi R mc ms Q nc ns pc lv st h := by
  intro p e s m args below meth c Z C RT H locs ls hR hS hl
  subst hst
  obtain ⟨i, len, hdec, hrel⟩ := hcd _ _ he
  obtain ⟨rfl, hnx, t', idx, ft, hnp, hcase⟩ := qrel_call hop hrel
  have e0 : t' = t := Option.some.inj (ft.symm.trans ht)
  subst e0
  have hM := qms_ok t' (List.mem_of_getElem? ht)
  obtain ⟨m1, m2, m3, m4, m5, m6, m7, m8, m9, m10, m11, m12, m13⟩ := hM
  have C' := C
  obtain ⟨⟨hx, hb, hml⟩, ⟨hret, hlk, hnm⟩, hown, hts, hKf, ⟨hX, hbl, hbs⟩, hfr, hlo⟩ := C
  have hsz : ls.size = mi.2.2.1 := hl.2.1
  have CF : CallFix p m c mi.2.1 mi.2.2.1 s args qT (qon mi.2.2.2.2.2.1) := ⟨hx, hb, hml, hown, hts⟩
  have hG : GoodIn qT (Cond.code t'.1 t'.2.1 t'.2.2.1 t'.2.2.2.1 :: qT) := fun w hw => (List.mem_cons.mp hw).elim (fun e => by rw [e]; exact qT_good _ m1) (fun e => qT_good _ e)
  have hpre := qcall_pre (as := as) C' hR hS
  have h8 := qsum8 (V := V) hrt hr8
  have hRm := qroom (mi := t') ⟨hR'.1, hR'.2.1⟩ m13
  have hini := hts _ m6
  subst hnx
  have fin : va_Run p l e R s m args below meth c H locs nc ns mc' ms' (F0 m pc ls ((as.reverse ++ rest).map (qvv V))) (rest.map (qvv V)) (qQc V Q' (as.map (qvv V)).toArray) (qA V) → W p l e R s m args below meth c H locs nc ns Z (F0 m pc ls ((as.reverse ++ rest).map (qvv V))) := fun hr =>
    qcallW hr hS (fun v h' H1 locs1 q1 q2 q3 => kk v h' q1 p e s m args below meth c Z C' RT H1 locs1 ls q2 q3 hl)
  apply fin
  have hd3 : t'.1.cls ≠ "java/lang/invoke/MethodHandle" ∧ t'.1.cls ≠ "java/lang/invoke/VarHandle" ∧ (parseMethodDescriptor t'.1.desc).map (fun d => d.parameters.length) = some t'.2.2.2.2.1 := ⟨m8, m9, m10⟩
  rcases hcase with ⟨rfl, rfl, k1, k2⟩ | ⟨rfl, rfl, k1, k2⟩ | ⟨rfl, rfl, k1, k2⟩ | ⟨rfl, rfl, k1, k2⟩ | ⟨rfl, rfl, k1, k2⟩
  · obtain ⟨x, as', rfl, hk, hk10⟩ := hrc (Or.inr rfl)
    have hx2 := (hR.2.2 x (by omega)).1
    obtain ⟨n1, n2⟩ := m5 k1
    rw [if_neg (by decide)] at hal; simp only [List.length_cons] at hal
    simp only [List.reverse_cons, List.append_assoc, List.map_append, List.map_reverse, List.map_cons, List.singleton_append, List.cons_append, List.nil_append, List.map_nil] at hpre ⊢
    rw [qvv_ref (by omega)] at hpre ⊢
    exact va_runI (As := as'.map (qvv V)) (rest := rest.map (qvv V)) CF hT (cwI t'.2.2.2.2.1 hts hG (by rw [n2]) hR'.2.2.1 hR'.2.2.2 hini (hts _ k2) (hts _ (m3 (by omega))) n1 hd3 hRm) ⟨qPc_blind, hpre⟩ rfl (by rw [List.length_map]; omega) hsz rfl (lv_room h8) hdec hco
  · obtain ⟨x, as', rfl, hk, hk10⟩ := hrc (Or.inr rfl)
    have hx2 := (hR.2.2 x (by omega)).1
    obtain ⟨n1, n2⟩ := m5 k1
    rw [if_neg (by decide)] at hal; simp only [List.length_cons] at hal
    simp only [List.reverse_cons, List.append_assoc, List.map_append, List.map_reverse, List.map_cons, List.singleton_append, List.cons_append, List.nil_append, List.map_nil] at hpre ⊢
    rw [qvv_ref (by omega)] at hpre ⊢
    exact va_runIN (As := as'.map (qvv V)) (rest := rest.map (qvv V)) CF hT ⟨va_cnB t'.2.2.2.2.1 hts hG (by rw [n2]) hR'.2.2.1 hR'.2.2.2 (hKf.2.2 _ _ _ k2) hini hd3 hRm, n1, hts _ (m3 (by omega))⟩ ⟨qPc_blind, hpre⟩ rfl (by rw [List.length_map]; omega) hsz rfl (lv_room h8) hdec hco
  · obtain ⟨x, as', rfl, hk, hk10⟩ := hrc (Or.inl rfl)
    obtain ⟨hx2, hx3⟩ := hR.2.2 x (by omega)
    rw [if_neg (by decide)] at hal; simp only [List.length_cons] at hal
    simp only [List.reverse_cons, List.append_assoc, List.map_append, List.map_reverse, List.map_cons, List.singleton_append, List.cons_append, List.nil_append, List.map_nil] at hpre ⊢
    rw [qvv_ref (by omega)] at hpre ⊢
    obtain ⟨r, hr1, hr2⟩ := qon_cls hk10
    have hrecv := va_recv hKf.1 hR.1 hr1 (q0 := x - 2) (a := qad V x) (fs := (List.range (qnf t'.2.2.2.2.2.1)).map (fun k => qfv V h x t'.2.2.2.2.2.1 k)) (by rw [qws_at hx2 hx3, qce_obj (z := (hK h x).2) (Prod.ext hk rfl) hk10])
    rw [hr2, ← m11] at hrecv
    exact va_runV (As := as'.map (qvv V)) (rest := rest.map (qvv V)) CF hT ⟨callB_of t'.2.2.2.2.1 hts hG rfl hR'.2.2.1 hR'.2.2.2 hini (hts _ k2) hd3 hRm, hts _ (m3 (by omega)), hts _ (m4 k1)⟩ ⟨qPc_blind, hrecv, hpre⟩ rfl (by rw [List.length_map]; omega) hsz rfl (lv_room h8) hdec hco
  · simp only [if_true] at hal
    simp only [List.map_append, List.map_reverse] at ⊢
    exact va_runS (As := as.map (qvv V)) (rest := rest.map (qvv V)) CF hT ⟨callB_of t'.2.2.2.2.1 hts hG rfl hR'.2.2.1 hR'.2.2.2 hini (hts _ k2) hd3 hRm, hts _ (m2 k1)⟩ ⟨qPc_blind, hpre⟩ rfl (by rw [List.length_map]; omega) hsz rfl (lv_room h8) hdec hco
  · simp only [if_true] at hal
    simp only [List.map_append, List.map_reverse] at ⊢
    exact va_runSN (As := as.map (qvv V)) (rest := rest.map (qvv V)) CF hT ⟨va_cnB t'.2.2.2.2.1 hts hG rfl hR'.2.2.1 hR'.2.2.2 (hKf.2.2 _ _ _ k2) hini hd3 hRm, hts _ (m2 k1), trivial⟩ ⟨qPc_blind, hpre⟩ rfl (by rw [List.length_map]; omega) hsz rfl (lv_room h8) hdec hco
theorem qlv_args : ∀ (as : List Value) (i : Nat), (∀ v ∈ as, qtr v = true) → ∀ (k : Nat) (v : Value), as[k]? = some v → (i + k, qvv V v) ∈ lv_args i (as.map (qvv V))
  | [], _, _, k, v, h => by simp at h
  | a :: as, i, ht, k, v, h => by
    simp only [List.map_cons, lv_args]
    have hc := qtr_cat (V := V) (ht a List.mem_cons_self)
    rw [if_neg (by omega)]
    cases k with
    | zero =>
      rw [List.getElem?_cons_zero] at h
      cases h
      exact List.mem_cons_self
    | succ k =>
      rw [List.getElem?_cons_succ] at h
      have := qlv_args as (i + 1) (fun v hv => ht v (List.mem_cons_of_mem _ hv)) k v h
      rw [show i + (k + 1) = i + 1 + k by omega]
      exact List.mem_cons_of_mem _ this
theorem qlg_len : ∀ (as : List Value), (∀ v ∈ as, qtr v = true) → (lg_sl (as.map (qvv V))).length = as.length
  | [], _ => rfl
  | a :: as, ht => by
    have hc := qtr_cat (V := V) (ht a List.mem_cons_self)
    have ih := qlg_len as (fun v hv => ht v (List.mem_cons_of_mem _ hv))
    unfold lg_sl at ih ⊢
    simp only [List.map_cons, List.flatMap_cons, List.length_append, List.length_cons]
    rw [if_neg (by omega), ih]
    simp; omega
/-- locals at the entry -/
def lvI (mi : qMI) (as : List Value) : List Value := as ++ List.replicate (mi.2.2.1 - as.length) (.retAddr 0)
theorem qlok_entry {n : Nat} {as : List Value} (ht : ∀ v ∈ as, qtr v = true) (hn : as.length ≤ n) : qlok V ((lg_sl (as.map (qvv V)) ++ List.replicate (n - (lg_sl (as.map (qvv V))).length) Slot.unset).toArray) n (as ++ List.replicate (n - as.length) (.retAddr 0)) := by
  have hlen := qlg_len (V := V) as ht
  have h := lv_entry (as.map (qvv V)) (n := n) (by omega)
  refine ⟨by simp; omega, h.1, h.2.1, fun i v hi hv => ?_⟩
  by_cases hlt : i < as.length
  · rw [List.getElem?_append_left hlt] at hi
    have := qlv_args (V := V) as 0 ht i v hi
    rw [Nat.zero_add] at this
    exact h.2.2 _ this
  · rw [List.getElem?_append_right (by omega)] at hi
    have := List.mem_of_getElem? hi
    rw [List.mem_replicate] at this
    rw [this.2] at hv
    cases hv
set_option maxHeartbeats 4000000 in
/-- a contract out of the walk of the body -/
theorem T_of {k : Nat} {as : List Value} {h : qH} (hm : qms[k]? = some mi) (hta : as.all qtr = true) (hal : as.length ≤ mi.2.2.1) (hR' : 1 ≤ R.frames ∧ 64 ≤ R.locals ∧ R.cells = mc ∧ R.slots = ms)
    (w : G l V mi R mc ms Q 0 0 0 (as ++ List.replicate (mi.2.2.1 - as.length) (.retAddr 0)) [] h) : T l V mi R mc ms as h Q := by
  obtain ⟨m1, m2, m3, m4, m5, m6, m7, m8, m9, m10, m11, m12, m13⟩ := qms_ok mi (List.mem_of_getElem? hm)
  refine Met.ofW (cc := mi.2.1) (maxL := mi.2.2.1) (ret := mi.2.2.2.1) m7 rfl ?_
  intro p e s m args below meth c s₁ B hml hv
  obtain ⟨rfl, hRep, hKf, hX, hb1, hb2⟩ := hv
  have hts0 := atoms_spec (ws := Cond.code mi.1 mi.2.1 mi.2.2.1 mi.2.2.2.1 :: qT) B.pre
  have hown : s.vm.findClass mi.1.cls = some m.cls := findClass_of_methodNamed B.named
  rw [m11] at hown
  have C : qCx V mi R p s m (as.map (qvv V)).toArray meth c := ⟨⟨B.exec, B.bytes, hml⟩, ⟨B.returns, B.notSynchronized, (name_of_methodNamed B.named B.method).1⟩, hown, fun w hw => hts0 w (List.mem_cons_of_mem _ hw), hKf, ⟨hX, hb1, hb2⟩, hR'.1, hR'.2.1⟩
  have hlks := B.notSynchronized
  have RT : qRet l V mi R mc ms Q p e s m (as.map (qvv V)).toArray below meth c (MQ below (qQc V Q) (as.map (qvv V)).toArray s mc ms (qA V)) := by
    intro v h' H locs ls pc hq hr hdec hRp hS
    have hqq : ∀ t : State, t.heap = H → s.WarmedH t.vm → qQc V Q (as.map (qvv V)).toArray s (.returned (v.map (qvv V))) t := fun t ht _ => ⟨⟨v, h', rfl, hq, by rw [ht]; exact hRp⟩, hS.F ht⟩
    have hff : ∀ q ∈ locs, qA V q.base := hS.2.2
    match v, hr, hdec, hqq with
    | none, hr, hdec, hqq => exact W.vret B.exec B.bytes (B.returns.trans hr) hqq hff hdec hlks
    | some (.int x), hr, hdec, hqq =>
      rcases hr with hr | ⟨hr, hx⟩
      · exact W.iret B.exec B.bytes (B.returns.trans hr) hqq hff hdec hlks
      · exact W.zret B.exec B.bytes (B.returns.trans hr) (by rcases hx with rfl | rfl <;> rfl) hqq hff hdec hlks
    | some (.ref x), hr, hdec, hqq =>
      obtain ⟨n, hr⟩ := hr
      exact W.aret B.exec B.bytes (B.returns.trans hr) (Or.inl ⟨n, rfl⟩) (va_rf_or (qop V x)) hqq hff hdec hlks
  rw [lg_entry_eq]
  exact w p e s m _ below meth c _ C RT s.heap [] _ hRep va_S.rf (qlok_entry (fun v hv => List.all_eq_true.mp hta v hv) hal)
end Calls
