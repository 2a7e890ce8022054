/-! every step of the small machine is one of the real one -/
def qtr (v : Value) : Bool := match v with
  | .int _ => true
  | .ref _ => true
  | _ => false
theorem qtr_cat {V : qV} {v : Value} (h : qtr v = true) : (qvv V v).category = 1 := by
  cases v <;> simp [qtr] at h
  · rfl
  · show (va_rf _).category = 1
    unfold qop; split <;> rfl
def qpl (V : qV) (lv : List Value) : List (Nat × Value) := (List.range lv.length).filterMap (fun i => match lv[i]? with
  | some v => if qtr v = true then some (i, qvv V v) else none
  | none => none)
def qlok (V : qV) (ls : Array Slot) (n : Nat) (lv : List Value) : Prop := lv.length = n ∧ ls.size = n ∧ lv_wf ls ∧ ∀ (i : Nat) (v : Value), lv[i]? = some v → qtr v = true → ls[i]? = some (.val (qvv V v))
theorem qpl_mem {V : qV} {lv : List Value} {i : Nat} {w : Value} : (i, w) ∈ qpl V lv ↔ ∃ v, lv[i]? = some v ∧ qtr v = true ∧ w = qvv V v := by
  unfold qpl
  rw [List.mem_filterMap]
  constructor
  · rintro ⟨j, hj, h⟩
    split at h
    · rename_i v hv
      split at h
      · rename_i ht
        cases h
        exact ⟨v, hv, ht, rfl⟩
      · cases h
    · cases h
  · rintro ⟨v, hv, ht, rfl⟩
    refine ⟨i, List.mem_range.mpr (List.getElem?_eq_some_iff.mp hv).1, ?_⟩
    rw [hv]; simp [ht]
theorem qlok_has {V : qV} {ls : Array Slot} {n : Nat} {lv : List Value} (h : qlok V ls n lv) : lv_has ls n (qpl V lv) := by
  refine ⟨h.2.1, h.2.2.1, fun q hq => ?_⟩
  obtain ⟨i, w⟩ := q
  obtain ⟨v, h1, h2, rfl⟩ := qpl_mem.mp hq
  exact h.2.2.2 i v h1 h2
theorem qlok_set {V : qV} {ls ls' : Array Slot} {n a : Nat} {v : Value} {lv : List Value} (h : qlok V ls n lv) (ha : a < lv.length) (hv : qtr v = true)
    (hh : lv_has ls' n ((a, qvv V v) :: (qpl V lv).filter (fun q => !(q.1 == a) && !(q.1 + 1 == a && q.2.category == 2)))) : qlok V ls' n (lv.set a v) := by
  refine ⟨by rw [List.length_set]; exact h.1, hh.1, hh.2.1, fun i w hi hw => ?_⟩
  by_cases hia : i = a
  · subst hia
    rw [List.getElem?_set_self ha] at hi
    cases hi
    exact hh.2.2 _ List.mem_cons_self
  · rw [List.getElem?_set_ne (Ne.symm hia)] at hi
    refine hh.2.2 (i, qvv V w) (List.mem_cons_of_mem _ (List.mem_filter.mpr ⟨qpl_mem.mpr ⟨w, hi, hw, rfl⟩, ?_⟩))
    have hc := qtr_cat (V := V) hw
    simp [hia, hc]
theorem qcatsum {V : qV} : ∀ {r : List Value}, (∀ v ∈ r, qtr v = true) → (r.map fun v => (qvv V v).category).sum = r.length
  | [], _ => rfl
  | v :: r, h => by
    simp only [List.map_cons, List.sum_cons, List.length_cons]
    rw [qtr_cat (h v List.mem_cons_self), qcatsum (fun w hw => h w (List.mem_cons_of_mem _ hw))]
    omega
theorem qcat2 (v : Value) : v.category ≤ 2 := by cases v <;> simp [Value.category]
theorem qcatle {V : qV} : ∀ (r : List Value), ((r.map (qvv V)).map fun v => v.category).sum ≤ 2 * r.length
  | [] => Nat.le_refl 0
  | v :: r => by
    simp only [List.map_cons, List.sum_cons, List.length_cons]
    have h1 := qcat2 (qvv V v)
    have h2 := qcatle (V := V) r
    omega
theorem qvv_int {V : qV} {x : Int32} : qvv V (.int x) = .int x := rfl
theorem qvv_ref {V : qV} {a : Nat} (h : a ≠ 0) : qvv V (.ref a) = .ref (qad V a) := by
  show va_rf (qop V a) = _
  rw [qop, if_neg h]; rfl
theorem qvv_null {V : qV} : qvv V (.ref 0) = .null := rfl
theorem inB_vp {i : Int32} {n : Nat} (h : inB i n) : vp_in i n := by
  intro q
  rcases q with q | q
  · rw [Int32.lt_iff_toInt_lt] at q; have := h.1; simp at q; omega
  · have h1 : i.toNatClampNeg = i.toInt.toNat := rfl
    have := h.1; have := h.2; omega
theorem inB_nn {i : Int32} {n : Nat} (h : inB i n) : 0 ≤ i.toInt := h.1
def qCx (V : qV) (mi : qMI) (R : Room) (p : Program) (s : State) (m : MethodId) (args : Array Value) (meth : Method) (c : Code) : Prop :=
  (p.tables.exec = Jvm.exec ∧ c.code = mi.2.1 ∧ c.maxLocals = mi.2.2.1) ∧ (meth.sig.returnType = mi.2.2.2.1 ∧ meth.locks = false ∧ meth.name = mi.1.name) ∧ s.vm.findClass (qon mi.2.2.2.2.2.1) = some m.cls ∧ (∀ w ∈ qT, w.before args s = true) ∧ qKf V s ∧
  (va_X V.1 V.2.1 V.2.2.2.1 s s.heap ∧ V.1 < V.2.2.1 ∧ V.2.2.1 ≤ s.heap.size) ∧ 1 ≤ R.frames ∧ 64 ≤ R.locals
section Sound
variable {V : qV} {mi : qMI} {R : Room} {p : Program} {l : Launch} {e : Env} {s : State} {m : MethodId} {args : Array Value} {below : List Frame} {meth : Method} {c : Code} {nc ns : Nat} {Z : State → Prop}
def Wq (V : qV) (mi : qMI) (R : Room) (p : Program) (l : Launch) (e : Env) (s : State) (m : MethodId) (args : Array Value) (below : List Frame) (meth : Method) (c : Code) (nc ns : Nat) (Z : State → Prop) (pc : Nat) (lv st : List Value) (h : qH) : Prop :=
  ∀ (H : Heap) (locs : List Loc) (ls : Array Slot), Rep V h H → va_S (qA V) s.heap H locs → qlok V ls mi.2.2.1 lv → W p l e R s m args below meth c H locs nc ns Z (F0 m pc ls (st.map (qvv V)))
theorem swt_spec {x : Int32} {d pc : Nat} {K : Nat → Prop} : ∀ (offs : List Int) (L : List (Int × Nat)) (lo : Int), qswt pc lo offs L = true → swP x d K L →
    ((x.toInt < lo ∨ lo + offs.length - 1 < x.toInt) → K d) ∧ (lo ≤ x.toInt → x.toInt ≤ lo + offs.length - 1 → ∃ (off : Int) (t : Nat), offs[(x.toInt - lo).toNat]? = some off ∧ (pc : Int) + off = (t : Int) ∧ K t)
  | [], [], lo, _, hw => ⟨fun _ => hw, fun h1 h2 => by simp at h2; omega⟩
  | o :: os, (v, t) :: l, lo, hs, hw => by
    simp only [qswt, Bool.and_eq_true, decide_eq_true_eq] at hs
    obtain ⟨⟨rfl, h2⟩, h3⟩ := hs
    by_cases hx : x.toInt = v
    · have hk := hw.1 hx
      refine ⟨fun h => ?_, fun _ _ => ⟨o, t, ?_, h2, hk⟩⟩
      · simp at h; omega
      · rw [hx]; simp
    · have ih := swt_spec os l (v + 1) h3 (hw.2 hx)
      refine ⟨fun h => ih.1 ?_, fun h1 h4 => ?_⟩
      · simp at h; omega
      · obtain ⟨off, t', e1, e2, e3⟩ := ih.2 (by omega) (by simp at h4; omega)
        refine ⟨off, t', ?_, e2, e3⟩
        have : (x.toInt - v).toNat = (x.toInt - (v + 1)).toNat + 1 := by omega
        rw [this, List.getElem?_cons_succ]; exact e1
  | [], _ :: _, _, hs, _ => by simp [qswt] at hs
  | _ :: _, [], _, hs, _ => by simp [qswt] at hs
theorem swl_spec {x : Int32} {d : Nat} {pc : Nat} {dflt : Int} {K : Nat → Prop} (hd : (pc : Int) + dflt = (d : Int)) : ∀ (ps : List (Int × Int)) (L : List (Int × Nat)), qswl pc ps L = true → swP x d K L →
    ∃ (t : Nat), (pc : Int) + Op.lookupswitch.offset ps dflt x.toInt = (t : Int) ∧ K t
  | [], [], _, hw => ⟨d, hd, hw⟩
  | (k, o) :: os, (v, t) :: l, hs, hw => by
    simp only [qswl, Bool.and_eq_true, decide_eq_true_eq] at hs
    obtain ⟨⟨rfl, h2⟩, h3⟩ := hs
    rw [Op.lookupswitch.offset_cons]
    by_cases hx : x.toInt = v
    · rw [if_pos hx.symm]
      exact ⟨t, h2, hw.1 hx⟩
    · rw [if_neg (fun e => hx e.symm)]
      exact swl_spec hd os l h3 (hw.2 hx)
  | [], _ :: _, hs, _ => by simp [qswl] at hs
  | _ :: _, [], hs, _ => by simp [qswl] at hs
theorem kobj {h : qH} {H : Heap} {a ci : Nat} (hR : Rep V h H) (hk : (hK h a).1 = ci) (hc : ci < 200) : 2 ≤ a ∧ a < hn h + 2 := hR.2.2 a (by omega)
theorem qflk_spec {o idx ci k w : Nat} {g : String × String × String × Bool → FieldType → Bool} (h : qflk o idx ci k w g = true) : ∃ r, qcl[ci]? = some r ∧ k < r.2.2 ∧ Cond.fieldLink (qon o) idx (r.2.1 k).1 (r.2.1 k).2.1 (r.2.1 k).2.2.1 ∈ qT ∧ (r.2.1 k).1 = r.1 ∧ g (r.2.1 k) (qty ci k) = true := by
  unfold qflk at h
  split at h
  · rename_i q r hq hr
    simp only [Bool.and_eq_true, decide_eq_true_eq] at h
    obtain ⟨⟨e1, e2, e3, e4⟩, h2⟩ := h
    obtain ⟨q1, q2, q3, q4, q5⟩ := q
    dsimp only at e1 e2 e3 e4
    subst e1; subst e2; subst e3; subst e4
    obtain ⟨r', f1, f2, f3, f4⟩ := qFL_spec hq
    have e : r' = r := Option.some.inj (f1.symm.trans hr)
    subst e
    exact ⟨r', f1, f2, f3, f4, h2⟩
  · cases h
theorem qKo_of {o idx w : Nat} {v : Int} (h : (match qKo[w]? with | some q => decide (q.1 = o ∧ q.2.1 = idx ∧ q.2.2.1 = v) | none => false) = true) : Cond.constant (qon o) idx (Int32.ofInt v) ∈ qT := by
  split at h
  · rename_i q hq
    obtain ⟨q1, q2, q3, q4⟩ := q
    simp only [decide_eq_true_eq] at h
    obtain ⟨rfl, rfl, rfl⟩ := h
    exact qKo_spec hq
  · cases h
set_option maxHeartbeats 4000000 in
theorem st_loc {pc len : Nat} {i : Instr} {op nx a b : Nat} {v : Int} {L : List (Int × Nat)} {w0 : Nat} {lv st : List Value} {h : qH} (C : qCx V mi R p s m args meth c) (hdec : decode mi.2.1 pc = .ok (i, len)) (hrel : qrel mi pc i len (op, nx, a, b, v, L, w0) = true) (hop : op ≤ 18 ∨ op = 31)
    (w : wpI V (op, nx, a, b, v, L, w0) lv st h (Wq V mi R p l e s m args below meth c nc ns Z)) : Wq V mi R p l e s m args below meth c nc ns Z pc lv st h := by
  intro H locs ls hR hS hl
  obtain ⟨⟨hx, hb, hml⟩, ⟨hret, hlk, hnm⟩, hown, hts, hKf, ⟨hX, hbl, hbs⟩, hfr, hlo⟩ := C
  have hlh := qlok_has hl
  have hln := hl.1
  have LI : ∀ {k : Nat} {x : Int32}, lv[k]? = some (.int x) → ls[k]? = some (.val (.int x)) := fun hk => hl.2.2.2 _ _ hk rfl
  have LR : ∀ {k x : Nat}, lv[k]? = some (.ref x) → ls[k]? = some (.val (va_rf (qop V x))) := fun hk => hl.2.2.2 _ _ hk rfl
  simp only [qrel, Bool.and_eq_true, decide_eq_true_eq] at hrel
  obtain ⟨rfl, hrel⟩ := hrel
  cases i with
  | iconst n =>
    simp only [Bool.and_eq_true, decide_eq_true_eq] at hrel
    obtain ⟨rfl, rfl, rfl⟩ := hrel
    exact lv_iconst hx hb hdec rfl (w H locs ls hR hS hl)
  | bipush n =>
    simp only [Bool.and_eq_true, decide_eq_true_eq] at hrel
    obtain ⟨rfl, rfl, e1⟩ := hrel
    exact lv_bipush hx hb hdec e1 (w H locs ls hR hS hl)
  | sipush n =>
    simp only [Bool.and_eq_true, decide_eq_true_eq] at hrel
    obtain ⟨rfl, rfl, e1⟩ := hrel
    exact lv_sipush hx hb hdec e1 (w H locs ls hR hS hl)
  | ldc idx =>
    simp only [Bool.and_eq_true, decide_eq_true_eq] at hrel
    obtain ⟨⟨rfl, rfl⟩, e1⟩ := hrel
    exact lv_ldc hx hb hown (hts _ (qKo_of e1)) hdec (w H locs ls hR hS hl)
  | ldc_w idx =>
    simp only [Bool.and_eq_true, decide_eq_true_eq] at hrel
    obtain ⟨⟨rfl, rfl⟩, e1⟩ := hrel
    exact lv_ldcw hx hb hown (hts _ (qKo_of e1)) hdec (w H locs ls hR hS hl)
  | iload_n k =>
    simp only [Bool.and_eq_true, decide_eq_true_eq] at hrel
    obtain ⟨rfl, rfl, e1⟩ := hrel
    rw [w_1] at w; split at w
    · rename_i x hk; exact lv_iload_n hx hb hdec e1 (LI hk) (w H locs ls hR hS hl)
    · exact w.elim
  | iload k =>
    simp only [Bool.and_eq_true, decide_eq_true_eq] at hrel
    obtain ⟨rfl, rfl, rfl⟩ := hrel
    rw [w_1] at w; split at w
    · rename_i x hk; exact lv_iload hx hb hdec (LI hk) (w H locs ls hR hS hl)
    · exact w.elim
  | aload_n k =>
    simp only [Bool.and_eq_true, decide_eq_true_eq] at hrel
    obtain ⟨rfl, rfl, e1⟩ := hrel
    rw [w_2] at w; split at w
    · rename_i x hk
      have h1 := w H locs ls hR hS hl
      have h2 := LR hk
      simp only [List.map_cons] at h1
      by_cases h0 : x = 0
      · subst h0
        exact lv_aload_nN hx hb hdec e1 h2 h1
      · rw [qvv_ref h0] at h1
        rw [qop, if_neg h0] at h2
        exact lv_aload_n hx hb hdec e1 h2 h1
    · exact w.elim
  | aload k =>
    simp only [Bool.and_eq_true, decide_eq_true_eq] at hrel
    obtain ⟨rfl, rfl, rfl⟩ := hrel
    rw [w_2] at w; split at w
    · rename_i x hk
      have h1 := w H locs ls hR hS hl
      have h2 := LR hk
      simp only [List.map_cons] at h1
      by_cases h0 : x = 0
      · subst h0
        exact lv_aloadN hx hb hdec h2 h1
      · rw [qvv_ref h0] at h1
        rw [qop, if_neg h0] at h2
        exact lv_aload hx hb hdec h2 h1
    · exact w.elim
  | istore_n k =>
    simp only [Bool.and_eq_true, decide_eq_true_eq] at hrel
    obtain ⟨rfl, rfl, rfl⟩ := hrel
    rw [w_3] at w; split at w
    · rename_i x r
      refine lv_istore_n hx hb hdec rfl hlh (by omega) rfl (fun ls' hl' => w.2 H locs ls' hR hS (qlok_set hl w.1 rfl hl'))
    · exact w.elim
  | istore k =>
    simp only [Bool.and_eq_true, decide_eq_true_eq] at hrel
    obtain ⟨rfl, rfl, rfl⟩ := hrel
    rw [w_3] at w; split at w
    · rename_i x r
      refine lv_istore hx hb hdec hlh (by omega) rfl (fun ls' hl' => w.2 H locs ls' hR hS (qlok_set hl w.1 rfl hl'))
    · exact w.elim
  | astore_n k =>
    simp only [Bool.and_eq_true, decide_eq_true_eq] at hrel
    obtain ⟨rfl, rfl, rfl⟩ := hrel
    rw [w_4] at w; split at w
    · rename_i x r
      simp only [List.map_cons]
      by_cases h0 : x = 0
      · subst h0
        exact lv_astore_nN hx hb hdec rfl hlh (by omega) rfl (fun ls' hl' => w.2 H locs ls' hR hS (qlok_set hl w.1 rfl hl'))
      · have w2 := fun (ls' : Array Slot) hl' => w.2 H locs ls' hR hS (qlok_set hl w.1 rfl hl')
        rw [qvv_ref h0]
        rw [qvv_ref h0] at w2
        exact lv_astore_n hx hb hdec rfl hlh (by omega) rfl (fun ls' hl' => w2 ls' hl')
    · exact w.elim
  | astore k =>
    simp only [Bool.and_eq_true, decide_eq_true_eq] at hrel
    obtain ⟨rfl, rfl, rfl⟩ := hrel
    rw [w_4] at w; split at w
    · rename_i x r
      simp only [List.map_cons]
      by_cases h0 : x = 0
      · subst h0
        exact lv_astoreN hx hb hdec hlh (by omega) rfl (fun ls' hl' => w.2 H locs ls' hR hS (qlok_set hl w.1 rfl hl'))
      · have w2 := fun (ls' : Array Slot) hl' => w.2 H locs ls' hR hS (qlok_set hl w.1 rfl hl')
        rw [qvv_ref h0]
        rw [qvv_ref h0] at w2
        exact lv_astore hx hb hdec hlh (by omega) rfl (fun ls' hl' => w2 ls' hl')
    · exact w.elim
  | iinc k n =>
    simp only [Bool.and_eq_true, decide_eq_true_eq] at hrel
    obtain ⟨rfl, rfl, rfl, rfl⟩ := hrel
    rw [w_5] at w; split at w
    · rename_i x hk
      have hka := (List.getElem?_eq_some_iff.mp hk).1
      obtain ⟨j, hj⟩ := List.getElem?_of_mem (qpl_mem (V := V).mpr ⟨_, hk, rfl, rfl⟩)
      refine lv_iinc (k := j) hx hb hdec hlh hj rfl (by omega) rfl (fun ls' hl' => w H locs ls' hR hS (qlok_set hl hka rfl hl'))
    · exact w.elim
  | iadd =>
    simp only [Bool.and_eq_true, decide_eq_true_eq] at hrel
    obtain ⟨rfl, rfl, rfl⟩ := hrel; rw [w_6] at w; (split at w; · exact lv_iadd hx hb hdec (w H locs ls hR hS hl)); exact w.elim
  | isub =>
    simp only [Bool.and_eq_true, decide_eq_true_eq] at hrel
    obtain ⟨rfl, rfl, rfl⟩ := hrel; rw [w_6] at w; (split at w; · exact lv_isub hx hb hdec (w H locs ls hR hS hl)); exact w.elim
  | imul =>
    simp only [Bool.and_eq_true, decide_eq_true_eq] at hrel
    obtain ⟨rfl, rfl, rfl⟩ := hrel; rw [w_6] at w; (split at w; · exact lv_imul hx hb hdec (w H locs ls hR hS hl)); exact w.elim
  | iand =>
    simp only [Bool.and_eq_true, decide_eq_true_eq] at hrel
    obtain ⟨rfl, rfl, rfl⟩ := hrel; rw [w_6] at w; (split at w; · exact lv_iand hx hb hdec (w H locs ls hR hS hl)); exact w.elim
  | ior =>
    simp only [Bool.and_eq_true, decide_eq_true_eq] at hrel
    obtain ⟨rfl, rfl, rfl⟩ := hrel; rw [w_6] at w; (split at w; · exact lv_ior hx hb hdec (w H locs ls hR hS hl)); exact w.elim
  | ixor =>
    simp only [Bool.and_eq_true, decide_eq_true_eq] at hrel
    obtain ⟨rfl, rfl, rfl⟩ := hrel; rw [w_6] at w; (split at w; · exact lv_ixor hx hb hdec (w H locs ls hR hS hl)); exact w.elim
  | ishl =>
    simp only [Bool.and_eq_true, decide_eq_true_eq] at hrel
    obtain ⟨rfl, rfl, rfl⟩ := hrel; rw [w_6] at w; (split at w; · exact lv_ishl hx hb hdec (w H locs ls hR hS hl)); exact w.elim
  | ishr =>
    simp only [Bool.and_eq_true, decide_eq_true_eq] at hrel
    obtain ⟨rfl, rfl, rfl⟩ := hrel; rw [w_6] at w; (split at w; · exact lv_ishr hx hb hdec (w H locs ls hR hS hl)); exact w.elim
  | iushr =>
    simp only [Bool.and_eq_true, decide_eq_true_eq] at hrel
    obtain ⟨rfl, rfl, rfl⟩ := hrel; rw [w_6] at w; (split at w; · exact lv_iushr hx hb hdec rfl (w H locs ls hR hS hl)); exact w.elim
  | idiv =>
    simp only [Bool.and_eq_true, decide_eq_true_eq] at hrel
    obtain ⟨rfl, rfl⟩ := hrel; rw [w_7] at w; split at w
    · exact lv_idiv hx hb hdec (fun e => w.1 (by rw [e]; rfl)) (w.2 H locs ls hR hS hl)
    · exact w.elim
  | irem =>
    simp only [Bool.and_eq_true, decide_eq_true_eq] at hrel
    obtain ⟨rfl, rfl⟩ := hrel; rw [w_8] at w; split at w
    · have h1 := w.2 H locs ls hR hS hl
      simp only [List.map_cons, qvv_int] at h1
      exact lv_irem hx hb hdec (fun e => w.1 (by rw [e]; rfl)) (by rw [irem_eq_mod]; exact h1)
    · exact w.elim
  | i2b =>
    simp only [Bool.and_eq_true, decide_eq_true_eq] at hrel
    obtain ⟨rfl, rfl⟩ := hrel; rw [w_9] at w; split at w
    · exact lv_i2b hx hb hdec rfl (w H locs ls hR hS hl)
    · exact w.elim
  | dup =>
    simp only [Bool.and_eq_true, decide_eq_true_eq] at hrel
    obtain ⟨rfl, rfl⟩ := hrel; rw [w_10] at w; split at w
    · exact lv_dup hx hb hdec rfl (w H locs ls hR hS hl)
    · exact lv_dup hx hb hdec (qtr_cat (v := .ref _) rfl) (w H locs ls hR hS hl)
    · exact w.elim
  | pop =>
    simp only [Bool.and_eq_true, decide_eq_true_eq] at hrel
    obtain ⟨rfl, rfl⟩ := hrel; rw [w_11] at w; split at w
    · exact lv_pop hx hb hdec rfl (w H locs ls hR hS hl)
    · exact lv_pop hx hb hdec (qtr_cat (v := .ref _) rfl) (w H locs ls hR hS hl)
    · exact w.elim
  | dup2 =>
    simp only [Bool.and_eq_true, decide_eq_true_eq] at hrel
    obtain ⟨rfl, rfl⟩ := hrel; rw [w_12] at w; split at w
    · exact lv_dup2_11 hx hb hdec rfl (qtr_cat (v := .ref _) rfl) (w H locs ls hR hS hl)
    · exact w.elim
  | goto o =>
    simp only [Bool.and_eq_true, decide_eq_true_eq] at hrel
    obtain ⟨rfl, rfl, e1⟩ := hrel
    exact lv_goto hx hb hdec e1 (w H locs ls hR hS hl)
  | ifCond cd o =>
    simp only [Bool.and_eq_true, decide_eq_true_eq] at hrel
    obtain ⟨rfl, rfl, rfl, e1⟩ := hrel
    rw [w_14] at w; split at w
    · rename_i x r
      cases cd <;> simp only [qcn, cmpP, Int32.toInt_zero] at w
      · exact lv_if_eq hx hb hdec e1 (fun k => w.1 (by rw [k]; rfl) H locs ls hR hS hl) (fun k => w.2 (fun q => k (Int32.toInt_inj.mp q)) H locs ls hR hS hl)
      · exact lv_if_ne hx hb hdec e1 (fun k => w.1 (fun q => k (Int32.toInt_inj.mp q)) H locs ls hR hS hl) (fun k => w.2 (fun q => q (by rw [k]; rfl)) H locs ls hR hS hl)
      · exact lv_if_lt hx hb hdec e1 (fun k => w.1 (by rw [Int32.lt_iff_toInt_lt] at k; exact k) H locs ls hR hS hl) (fun k => w.2 (fun q => k (by rw [Int32.lt_iff_toInt_lt]; exact q)) H locs ls hR hS hl)
      · exact lv_if_ge hx hb hdec e1 (fun k => w.1 (by rw [Int32.le_iff_toInt_le] at k; exact k) H locs ls hR hS hl) (fun k => w.2 (fun q => k (by rw [Int32.le_iff_toInt_le]; exact q)) H locs ls hR hS hl)
      · exact lv_if_gt hx hb hdec e1 (fun k => w.1 (by rw [Int32.lt_iff_toInt_lt] at k; exact k) H locs ls hR hS hl) (fun k => w.2 (fun q => k (by rw [Int32.lt_iff_toInt_lt]; exact q)) H locs ls hR hS hl)
      · exact lv_if_le hx hb hdec e1 (fun k => w.1 (by rw [Int32.le_iff_toInt_le] at k; exact k) H locs ls hR hS hl) (fun k => w.2 (fun q => k (by rw [Int32.le_iff_toInt_le]; exact q)) H locs ls hR hS hl)
    · exact w.elim
  | if_icmp cd o =>
    simp only [Bool.and_eq_true, decide_eq_true_eq] at hrel
    obtain ⟨rfl, rfl, rfl, e1⟩ := hrel
    rw [w_15] at w; split at w
    · rename_i y x r
      cases cd <;> simp only [qcn, cmpP] at w
      · exact lv_icmp_eq hx hb hdec e1 (fun k => w.1 (by rw [k]) H locs ls hR hS hl) (fun k => w.2 (fun q => k (Int32.toInt_inj.mp q)) H locs ls hR hS hl)
      · exact lv_icmp_ne hx hb hdec e1 (fun k => w.1 (fun q => k (Int32.toInt_inj.mp q)) H locs ls hR hS hl) (fun k => w.2 (fun q => q (by rw [k])) H locs ls hR hS hl)
      · exact lv_icmp_lt hx hb hdec e1 (fun k => w.1 (by rw [Int32.lt_iff_toInt_lt] at k; exact k) H locs ls hR hS hl) (fun k => w.2 (fun q => k (by rw [Int32.lt_iff_toInt_lt]; exact q)) H locs ls hR hS hl)
      · exact lv_icmp_ge hx hb hdec e1 (fun k => w.1 (by rw [Int32.le_iff_toInt_le] at k; exact k) H locs ls hR hS hl) (fun k => w.2 (fun q => k (by rw [Int32.le_iff_toInt_le]; exact q)) H locs ls hR hS hl)
      · exact lv_icmp_gt hx hb hdec e1 (fun k => w.1 (by rw [Int32.lt_iff_toInt_lt] at k; exact k) H locs ls hR hS hl) (fun k => w.2 (fun q => k (by rw [Int32.lt_iff_toInt_lt]; exact q)) H locs ls hR hS hl)
      · exact lv_icmp_le hx hb hdec e1 (fun k => w.1 (by rw [Int32.le_iff_toInt_le] at k; exact k) H locs ls hR hS hl) (fun k => w.2 (fun q => k (by rw [Int32.le_iff_toInt_le]; exact q)) H locs ls hR hS hl)
    · exact w.elim
  | ifnull o =>
    simp only [Bool.and_eq_true, decide_eq_true_eq] at hrel
    obtain ⟨rfl, rfl, e1⟩ := hrel
    rw [w_16] at w; split at w
    · rename_i x r
      simp only [List.map_cons]
      by_cases h0 : x = 0
      · subst h0
        exact lv_ifnullN hx hb hdec e1 (w.1 rfl H locs ls hR hS hl)
      · rw [qvv_ref h0]
        exact lv_ifnull hx hb hdec (w.2 h0 H locs ls hR hS hl)
    · exact w.elim
  | ifnonnull o =>
    simp only [Bool.and_eq_true, decide_eq_true_eq] at hrel
    obtain ⟨rfl, rfl, e1⟩ := hrel
    rw [w_17] at w; split at w
    · rename_i x r
      simp only [List.map_cons]
      by_cases h0 : x = 0
      · subst h0
        exact lv_ifnonnullN hx hb hdec (w.2 rfl H locs ls hR hS hl)
      · rw [qvv_ref h0]
        exact lv_ifnonnull hx hb hdec e1 (w.1 h0 H locs ls hR hS hl)
    · exact w.elim
  | tableswitch d lo hi offs =>
    simp only [Bool.and_eq_true, decide_eq_true_eq] at hrel
    obtain ⟨⟨rfl, e1, e2⟩, e3⟩ := hrel
    rw [w_18] at w; split at w
    · rename_i x r
      obtain ⟨s1, s2⟩ := swt_spec offs.toList L lo e3 w
      by_cases h1 : x.toInt < lo ∨ hi < x.toInt
      · exact lv_tableOut hx hb hdec h1 e1 (s1 (by rcases h1 with h1 | h1; · exact Or.inl h1
                                                   · exact Or.inr (by omega)) H locs ls hR hS hl)
      · obtain ⟨off, t, f1, f2, f3⟩ := s2 (by omega) (by omega)
        exact lv_tableIn hx hb hdec (by omega) (by omega) (by rw [← Array.getElem?_toList]; exact f1) f2 (f3 H locs ls hR hS hl)
    · exact w.elim
  | lookupswitch d ps =>
    simp only [Bool.and_eq_true, decide_eq_true_eq] at hrel
    obtain ⟨⟨⟨rfl, e1⟩, e2⟩, e3⟩ := hrel
    rw [w_18] at w; split at w
    · rename_i x r
      obtain ⟨t, f1, f2⟩ := swl_spec e1 ps.toList L e3 w
      exact lv_lookup hx hb hdec e2 rfl f1 (f2 H locs ls hR hS hl)
    · exact w.elim
  | aconst_null =>
    simp only [Bool.and_eq_true, decide_eq_true_eq] at hrel
    obtain ⟨rfl, rfl⟩ := hrel
    exact lv_null hx hb hdec (w H locs ls hR hS hl)
  | getfield idx =>
    simp only [Bool.and_eq_true, decide_eq_true_eq] at hrel
    exfalso; obtain ⟨-, e1⟩ := hrel; obtain ⟨r, -, -, -, -, e2⟩ := qflk_spec e1; split at e2 <;> simp only [decide_eq_true_eq] at e2 <;> omega
  | putfield idx =>
    simp only [Bool.and_eq_true, decide_eq_true_eq] at hrel
    exfalso; obtain ⟨-, e1⟩ := hrel; obtain ⟨r, -, -, -, -, e2⟩ := qflk_spec e1; simp only [Bool.and_eq_true] at e2; obtain ⟨e2, -⟩ := e2; (split at e2; · simp only [decide_eq_true_eq] at e2; omega); split at e2 <;> simp only [decide_eq_true_eq] at e2 <;> omega
  | iaload =>
    simp only [Bool.and_eq_true, decide_eq_true_eq] at hrel
    exfalso; omega
  | iastore =>
    simp only [Bool.and_eq_true, decide_eq_true_eq] at hrel
    exfalso; omega
  | aaload =>
    simp only [Bool.and_eq_true, decide_eq_true_eq] at hrel
    exfalso; omega
  | aastore =>
    simp only [Bool.and_eq_true, decide_eq_true_eq] at hrel
    exfalso; omega
  | baload =>
    simp only [Bool.and_eq_true, decide_eq_true_eq] at hrel
    exfalso; omega
  | bastore =>
    simp only [Bool.and_eq_true, decide_eq_true_eq] at hrel
    exfalso; omega
  | arraylength =>
    simp only [Bool.and_eq_true, decide_eq_true_eq] at hrel
    exfalso; omega
  | invokespecial idx =>
    simp only [Bool.and_eq_true, decide_eq_true_eq] at hrel
    exfalso; obtain ⟨-, e1⟩ := hrel; simp only [Bool.or_eq_true, Bool.and_eq_true, decide_eq_true_eq] at e1; omega
  | invokevirtual idx =>
    simp only [Bool.and_eq_true, decide_eq_true_eq] at hrel
    exfalso; obtain ⟨-, ⟨e1, -⟩, -⟩ := hrel; omega
  | invokestatic idx =>
    simp only [Bool.and_eq_true, decide_eq_true_eq] at hrel
    exfalso; obtain ⟨-, e1⟩ := hrel; simp only [Bool.or_eq_true, Bool.and_eq_true, decide_eq_true_eq] at e1; omega
  | ireturn =>
    simp only [Bool.and_eq_true, decide_eq_true_eq] at hrel
    exfalso; omega
  | return_ =>
    simp only [Bool.and_eq_true, decide_eq_true_eq] at hrel
    exfalso; omega
  | areturn =>
    simp only [Bool.and_eq_true, decide_eq_true_eq] at hrel
    exfalso; omega
  | new idx =>
    simp only [Bool.and_eq_true, decide_eq_true_eq] at hrel
    exfalso; obtain ⟨⟨-, e1⟩, -⟩ := hrel; omega
  | newarray t =>
    simp only [Bool.and_eq_true, decide_eq_true_eq] at hrel
    exfalso; obtain ⟨-, e1⟩ := hrel; simp only [Bool.or_eq_true, Bool.and_eq_true, decide_eq_true_eq] at e1; omega
  | anewarray idx =>
    simp only [Bool.and_eq_true, decide_eq_true_eq] at hrel
    exfalso; obtain ⟨⟨-, e1⟩, -⟩ := hrel; omega
  | _ => exact (Bool.false_ne_true hrel).elim
end Sound
