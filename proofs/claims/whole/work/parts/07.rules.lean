/-! the rules over whole methods: blocks, calls, returns, makings -/
theorem qo_obj : Cond.instanceMethod objectInit ∈ tables_1 ∧ Cond.code objectInit ⟨#[0xb1]⟩ 1 none ∈ tables_1 := ⟨List.mem_of_getElem? (i := 21) (by decide +kernel), List.mem_of_getElem? (i := 22) (by decide +kernel)⟩
theorem qo_cpy : Cond.native arraycopyName ∈ tables_1 ∧ Cond.static arraycopyName ∈ tables_1 ∧ Cond.initialized "java/lang/System" ∈ tables_1 := ⟨List.mem_of_getElem? (i := 414) (by decide +kernel), List.mem_of_getElem? (i := 413) (by decide +kernel), List.mem_of_getElem? (i := 11) (by decide +kernel)⟩
theorem qo_max : Cond.static Lib.Math.max.name ∈ tables_1 ∧ Cond.initialized "java/lang/Math" ∈ tables_1 ∧ Cond.code Lib.Math.max.name Lib.Math.max.code 2 (some .int) ∈ tables_1 := ⟨List.mem_of_getElem? (i := 648) (by decide +kernel), List.mem_of_getElem? (i := 13) (by decide +kernel), List.mem_of_getElem? (i := 649) (by decide +kernel)⟩
theorem qo_min : Cond.static Lib.Math.min.name ∈ tables_1 ∧ Cond.code Lib.Math.min.name Lib.Math.min.code 2 (some .int) ∈ tables_1 := ⟨List.mem_of_getElem? (i := 584) (by decide +kernel), List.mem_of_getElem? (i := 585) (by decide +kernel)⟩
section Rules
variable {V : qV} {mi : qMI} {R : Room} {p : Program} {l : Launch} {e : Env} {s : State} {m : MethodId} {args : Array Value} {below : List Frame} {meth : Method} {c : Code} {nc ns : Nat} {Z : State → Prop}
theorem qsum_le {r : List Value} {k : Nat} (h : r.length ≤ k) : ((r.map (qvv V)).map fun v => v.category).sum ≤ 2 * k := by
  have := qcatle (V := V) r
  omega
set_option maxHeartbeats 4000000 in
theorem st_misc {pc len : Nat} {i : Instr} {op nx a b : Nat} {v : Int} {L : List (Int × Nat)} {w0 : Nat} {lv st : List Value} {h : qH} (C : qCx V mi R p s m args meth c) (hnc : nc ≤ R.cells) (hns : ns ≤ R.slots) (hdec : decode mi.2.1 pc = .ok (i, len)) (hrel : qrel mi pc i len (op, nx, a, b, v, L, w0) = true) (hop : op = 32 ∨ op = 33 ∨ op = 36 ∨ op = 37) (h33 : op = 33 → nc = 0)
    (w : wpI V (op, nx, a, b, v, L, w0) lv st h (Wq V mi R p l e s m args below meth c nc ns Z)) : Wq V mi R p l e s m args below meth c nc ns Z pc lv st h := by
  intro H locs ls hR hS hl
  obtain ⟨⟨hx, hb, hml⟩, ⟨hret, hlk, hnm⟩, hown, hts, hKf, ⟨hX, hbl, hbs⟩, hfr, hlo⟩ := C
  have hKv := hKf.1
  have hsz : c.maxLocals = ls.size := by rw [hml, hl.2.1]
  simp only [qrel, Bool.and_eq_true, decide_eq_true_eq] at hrel
  obtain ⟨rfl, hrel⟩ := hrel
  cases i with
  | invokespecial idx =>
    simp only [Bool.and_eq_true, Bool.or_eq_true, decide_eq_true_eq] at hrel
    obtain ⟨rfl, (⟨rfl, e1⟩ | ⟨⟨rfl, -⟩, -⟩) | ⟨⟨rfl, -⟩, -⟩⟩ := hrel
    · rw [w_32] at w; split at w
      · rename_i x r
        obtain ⟨w1, w2, w3⟩ := w
        simp only [List.map_cons]
        rw [qvv_ref w1]
        have h9 := qsum_le (V := V) w2
        exact W.objInit hx hb hown (hts _ (qT_mem (List.mem_of_getElem? e1) rfl)) (hts _ (qT_mem qo_obj.1 rfl)) (hts _ (qT_mem qo_obj.2 rfl)) rfl hsz.symm rfl hdec hfr (by show 2 * 0 + _ + 12 ≤ _; omega) (w3 H locs ls hR hS hl)
      · exact w.elim
    · omega
    · omega
  | invokestatic idx =>
    simp only [Bool.and_eq_true, Bool.or_eq_true, decide_eq_true_eq] at hrel
    obtain ⟨rfl, (((⟨rfl, e1⟩ | ⟨rfl, e1⟩) | ⟨rfl, e1⟩) | ⟨⟨rfl, -⟩, -⟩) | ⟨⟨rfl, -⟩, -⟩⟩ := hrel
    · rw [w_33] at w; split at w
      · rename_i n dp a1 sp a0 r
        obtain ⟨w1, w2, w3, w4, w5, w6, w7, w8, w9⟩ := w
        have hn0 := h33 rfl
        subst hn0
        obtain ⟨b1, b2⟩ := hR.2.2 a0 (by omega)
        obtain ⟨b3, b4⟩ := hR.2.2 a1 (by omega)
        simp only [List.map_cons, qvv_int]
        rw [qvv_ref (a := a0) (by omega), qvv_ref (a := a1) (by omega)]
        have h9 := qsum_le (V := V) w8
        intro T hT X
        have z1 := X.heapSize
        rw [hT] at z1
        have z2 := hS.1
        have nn : ∀ z : Int32, 0 ≤ z.toInt → ¬ z < 0 := fun z hz q => by rw [Int32.lt_iff_toInt_lt] at q; simp at q; omega
        have tn : ∀ z : Int32, z.toNatClampNeg = z.toInt.toNat := fun z => rfl
        refine va_copyi (t0 := 0) (t1 := 0) (c0 := V.2.2.2.2.2 0) (c1 := V.2.2.2.2.2 0) (ty := .int) hx hb hsz hown (hts _ (qT_mem (List.mem_of_getElem? e1) rfl)) (hts _ (qT_mem qo_cpy.1 rfl)) (hts _ (qT_mem qo_cpy.2.1 rfl)) (hts _ (qT_mem qo_cpy.2.2 rfl)) hKv hR.1 (qws_D V h) hS (a0 - 2) (a1 - 2)
          (by rw [qws_at b1 b2, qce_ints (t := 0) (n := (hK h a0).2) (Prod.ext w1 rfl) (by omega)]) (by rw [qws_at b3 b4, qce_ints (t := 0) (n := (hK h a1).2) (Prod.ext w2 rfl) (by omega)]) rfl rfl rfl
          (nn _ w3) (nn _ w4) (nn _ w5) (by rw [tn, tn]; omega) (by rw [tn, tn]; omega) (fun _ _ => rfl) hfr ?_ hdec (fun H1 locs1 g1 g2 g3 => ?_) T hT X
        · have : nativeFrameWords "java/lang/System" "arraycopy" 5 ≤ 30 := by decide +kernel
          omega
        · intro T1 hT1 X1
          have z3 := X1.heapSize
          rw [hT1] at z3
          have z4 := g3.1
          rw [tn, tn, tn] at g1
          have hset := qws_cpy (V := V) (h := h) (a0 := a0) (a := a1) (t := 0) (n := (hK h a1).2) (sp := sp.toInt) (dp := dp.toInt) (nn := n.toInt) (Prod.ext w2 rfl) (by omega) b3 w3 w4 w5
          have hR1 : Rep V (cpyM h a0 sp.toInt a1 dp.toInt n.toInt) H1 := ⟨by rw [← hset]; exact g1, by rw [hn_cpyM]; have := hR.2.1; omega, fun b hb => by rw [hn_cpyM]; exact hR.2.2 b hb⟩
          exact w9 H1 locs1 ls hR1 g3 hl T1 hT1 X1
      · exact w.elim
    · rw [w_36] at w; split at w
      · rename_i y x r
        obtain ⟨w1, w2⟩ := w
        simp only [List.map_cons, qvv_int]
        have h9 := qsum_le (V := V) w1
        have h1 := w2 H locs ls hR hS hl
        refine va_mmax hx hb hsz hown (hts _ (qT_mem (List.mem_of_getElem? e1) rfl)) (hts _ (qT_mem qo_max.1 rfl)) (hts _ (qT_mem qo_max.2.1 rfl)) (hts _ (qT_mem qo_max.2.2 rfl)) hfr (by omega) hnc hns hdec ?_
        have e9 : (if x < y then y else x) = (if x.toInt < y.toInt then y else x) := by simp only [Int32.lt_iff_toInt_lt]
        rw [e9]; exact h1
      · exact w.elim
    · rw [w_37] at w; split at w
      · rename_i y x r
        obtain ⟨w1, w2⟩ := w
        simp only [List.map_cons, qvv_int]
        have h9 := qsum_le (V := V) w1
        have h1 := w2 H locs ls hR hS hl
        refine va_mmin hx hb hsz hown (hts _ (qT_mem (List.mem_of_getElem? e1) rfl)) (hts _ (qT_mem qo_min.1 rfl)) (hts _ (qT_mem qo_max.2.1 rfl)) (hts _ (qT_mem qo_min.2 rfl)) hfr (by omega) hnc hns hdec ?_
        have e9 : (if y < x then y else x) = (if y.toInt < x.toInt then y else x) := by simp only [Int32.lt_iff_toInt_lt]
        rw [e9]; exact h1
      · exact w.elim
    · omega
    · omega
  | getfield idx => exfalso; simp only [Bool.and_eq_true, decide_eq_true_eq] at hrel; obtain ⟨-, e1⟩ := hrel; obtain ⟨r, -, -, -, -, e2⟩ := qflk_spec e1; split at e2 <;> simp only [decide_eq_true_eq] at e2 <;> omega
  | putfield idx => exfalso; simp only [Bool.and_eq_true, decide_eq_true_eq] at hrel; obtain ⟨-, e1⟩ := hrel; obtain ⟨r, -, -, -, -, e2⟩ := qflk_spec e1; simp only [Bool.and_eq_true] at e2; obtain ⟨e2, -⟩ := e2; (split at e2; · simp only [decide_eq_true_eq] at e2; omega); split at e2 <;> simp only [decide_eq_true_eq] at e2 <;> omega
  | _ =>
    exfalso
    first
      | exact Bool.false_ne_true hrel
      | (simp only [Bool.and_eq_true, Bool.or_eq_true, decide_eq_true_eq] at hrel; omega)
/-! blocks -/
def cdok (mi : qMI) (cd : Nat → Option qE) : Prop := ∀ pc e, cd pc = some e → ∃ i len, decode mi.2.1 pc = .ok (i, len) ∧ qrel mi pc i len e = true
theorem cdok_of {mi : qMI} {cl : List (Nat × qE)} (h : qrelA mi cl = true) : cdok mi (fun pc => cl.lookup pc) := by
  intro pc e he
  have hm : (pc, e) ∈ cl := by
    induction cl with
    | nil => simp at he
    | cons q t ih =>
      simp only [List.lookup] at he
      split at he
      · rename_i hq
        simp only [beq_iff_eq] at hq
        cases he
        rw [hq]; exact List.mem_cons_self
      · refine List.mem_cons_of_mem _ (ih ?_ he)
        simp only [qrelA, List.all_cons, Bool.and_eq_true] at h ⊢
        exact h.2
  have h1 := List.all_eq_true.mp h _ hm
  dsimp only at h1
  split at h1
  · rename_i i len hd
    exact ⟨i, len, hd, h1⟩
  · cases h1
def bkE (V : qV) (oe : Option qE) (K Kn : qC) (pc : Nat) (lv st : List Value) (h : qH) : Prop := match oe with
  | none => False
  | some e => if 40 ≤ e.1 then K pc lv st h else wpI V e lv st h Kn
def bk (V : qV) (cd : Nat → Option qE) (stop : Nat → Bool) : Nat → qC → qC
  | 0, K => K
  | n + 1, K => fun pc lv st h => bkE V (cd pc) K (fun pc' lv' st' h' => if stop pc' = true then K pc' lv' st' h' else bk V cd stop n K pc' lv' st' h') pc lv st h
theorem st_all {pc len : Nat} {i : Instr} {e1 : qE} {lv st : List Value} {h : qH} (C : qCx V mi R p s m args meth c) (hnc : nc ≤ R.cells) (hns : ns ≤ R.slots) (hdec : decode mi.2.1 pc = .ok (i, len)) (hrel : qrel mi pc i len e1 = true) (hop : e1.1 < 40) (h33 : nc = 0 ∨ e1.1 ≠ 33)
    (w : wpI V e1 lv st h (Wq V mi R p l e s m args below meth c nc ns Z)) : Wq V mi R p l e s m args below meth c nc ns Z pc lv st h := by
  obtain ⟨op, nx, a, b, v, L, w0⟩ := e1
  dsimp only at hop h33
  by_cases h1 : op ≤ 18 ∨ op = 31
  · exact st_loc C hdec hrel h1 w
  by_cases h2 : 19 ≤ op ∧ op ≤ 30 ∨ op = 34 ∨ op = 35
  · exact st_heap C hdec hrel h2 w
  by_cases h3 : op = 32 ∨ op = 33 ∨ op = 36 ∨ op = 37
  · exact st_misc C hnc hns hdec hrel h3 (fun q => h33.elim id (fun q2 => absurd q q2)) w
  exfalso
  have : op = 38 ∨ op = 39 := by omega
  rcases this with rfl | rfl <;> exact w
def qretok (ret : Option FieldType) (v : Option Value) : Prop := match v with
  | some (.int x) => ret = some .int ∨ (ret = some .boolean ∧ (x = 0 ∨ x = 1))
  | some (.ref _) => ∃ n, ret = some (.object n)
  | none => ret = none
  | _ => False
def qRet (l : Launch) (V : qV) (mi : qMI) (R : Room) (mc ms : Nat) (Q : Option Value → qH → Prop) (p : Program) (e : Env) (s : State) (m : MethodId) (args : Array Value) (below : List Frame) (meth : Method) (c : Code) (Z : State → Prop) : Prop :=
  ∀ (v : Option Value) (h : qH) (H : Heap) (locs : List Loc) (ls : Array Slot) (pc : Nat), Q v h → qretok mi.2.2.2.1 v →
    decode mi.2.1 pc = .ok ((match v with | some (.int _) => .ireturn | some _ => .areturn | none => .return_), 1) → Rep V h H → va_S (qA V) s.heap H locs →
    W p l e R s m args below meth c H locs mc ms Z (F0 m pc ls (v.toList.map (qvv V)))
def G (l : Launch) (V : qV) (mi : qMI) (R : Room) (mc ms : Nat) (Q : Option Value → qH → Prop) (nc ns : Nat) : qC := fun pc lv st h =>
  ∀ (p : Program) (e : Env) (s : State) (m : MethodId) (args : Array Value) (below : List Frame) (meth : Method) (c : Code) (Z : State → Prop), qCx V mi R p s m args meth c → qRet l V mi R mc ms Q p e s m args below meth c Z → Wq V mi R p l e s m args below meth c nc ns Z pc lv st h
variable {mc ms : Nat} {Q : Option Value → qH → Prop} {cd : Nat → Option qE}
theorem G_bk (hcd : cdok mi cd) (h33 : nc = 0 ∨ ∀ pc e, cd pc = some e → e.1 ≠ 33) (hnc : nc ≤ R.cells) (hns : ns ≤ R.slots) (stop : Nat → Bool) : ∀ (n : Nat) {pc : Nat} {lv st : List Value} {h : qH}, bk V cd stop n (G l V mi R mc ms Q nc ns) pc lv st h → G l V mi R mc ms Q nc ns pc lv st h
  | 0, _, _, _, _, w => w
  | n + 1, pc, lv, st, h, w => by
    intro p e s m args below meth c Z C RT
    unfold bk bkE at w
    split at w
    · exact w.elim
    · rename_i e1 he
      split at w
      · exact w p e s m args below meth c Z C RT
      · rename_i hlt
        obtain ⟨i, len, hdec, hrel⟩ := hcd _ _ he
        refine st_all C hnc hns hdec hrel (by omega) (h33.imp id (fun q => q _ _ he)) (wpI_mono (fun pc' lv' st' h' k => ?_) w)
        split at k
        · exact k p e s m args below meth c Z C RT
        · exact G_bk hcd h33 hnc hns stop n k p e s m args below meth c Z C RT
theorem qrel_ret {pc len : Nat} {i : Instr} {op nx a b : Nat} {v : Int} {L : List (Int × Nat)} {w0 : Nat} (hop : 40 ≤ op ∧ op ≤ 42) (hrel : qrel mi pc i len (op, nx, a, b, v, L, w0) = true) : len = 1 ∧ ((op = 40 ∧ i = .ireturn) ∨ (op = 41 ∧ i = .return_) ∨ (op = 42 ∧ i = .areturn)) := by
  simp only [qrel, Bool.and_eq_true, decide_eq_true_eq] at hrel
  obtain ⟨-, hrel⟩ := hrel
  cases i with
  | ireturn => simp only [decide_eq_true_eq] at hrel; exact ⟨hrel.1, Or.inl ⟨hrel.2, rfl⟩⟩
  | return_ => simp only [decide_eq_true_eq] at hrel; exact ⟨hrel.1, Or.inr (Or.inl ⟨hrel.2, rfl⟩)⟩
  | areturn => simp only [decide_eq_true_eq] at hrel; exact ⟨hrel.1, Or.inr (Or.inr ⟨hrel.2, rfl⟩)⟩
  | getfield idx => exfalso; simp only [Bool.and_eq_true, decide_eq_true_eq] at hrel; obtain ⟨-, e1⟩ := hrel; obtain ⟨r, -, -, -, -, e2⟩ := qflk_spec e1; split at e2 <;> simp only [decide_eq_true_eq] at e2 <;> omega
  | putfield idx => exfalso; simp only [Bool.and_eq_true, decide_eq_true_eq] at hrel; obtain ⟨-, e1⟩ := hrel; obtain ⟨r, -, -, -, -, e2⟩ := qflk_spec e1; simp only [Bool.and_eq_true] at e2; obtain ⟨e2, -⟩ := e2; (split at e2; · simp only [decide_eq_true_eq] at e2; omega); split at e2 <;> simp only [decide_eq_true_eq] at e2 <;> omega
  | _ =>
    exfalso
    first
      | exact Bool.false_ne_true hrel
      | (simp only [Bool.and_eq_true, Bool.or_eq_true, decide_eq_true_eq] at hrel; omega)
theorem G_iret {nx a b : Nat} {vv : Int} {L : List (Int × Nat)} {w0 : Nat} {pc : Nat} {lv : List Value} {h : qH} {x : Int32} (hcd : cdok mi cd) (he : cd pc = some (40, nx, a, b, vv, L, w0)) (hr : mi.2.2.2.1 = some .int ∨ (mi.2.2.2.1 = some .boolean ∧ (x = 0 ∨ x = 1))) (hq : Q (some (.int x)) h) : G l V mi R mc ms Q mc ms pc lv [.int x] h := by
  intro p e s m args below meth c Z C RT H locs ls hR hS hl
  obtain ⟨i, len, hdec, hrel⟩ := hcd _ _ he
  obtain ⟨rfl, ⟨-, rfl⟩ | ⟨q, -⟩ | ⟨q, -⟩⟩ := qrel_ret (by omega) hrel
  · exact RT (some (.int x)) h H locs ls pc hq hr hdec hR hS
  · omega
  · omega
theorem G_vret {nx a b : Nat} {vv : Int} {L : List (Int × Nat)} {w0 : Nat} {pc : Nat} {lv : List Value} {h : qH} (hcd : cdok mi cd) (he : cd pc = some (41, nx, a, b, vv, L, w0)) (hr : mi.2.2.2.1 = none) (hq : Q none h) : G l V mi R mc ms Q mc ms pc lv [] h := by
  intro p e s m args below meth c Z C RT H locs ls hR hS hl
  obtain ⟨i, len, hdec, hrel⟩ := hcd _ _ he
  obtain ⟨rfl, ⟨q, -⟩ | ⟨-, rfl⟩ | ⟨q, -⟩⟩ := qrel_ret (by omega) hrel
  · omega
  · exact RT none h H locs ls pc hq hr hdec hR hS
  · omega
theorem G_aret {nx a b : Nat} {vv : Int} {L : List (Int × Nat)} {w0 : Nat} {pc : Nat} {lv : List Value} {h : qH} {x : Nat} (hcd : cdok mi cd) (he : cd pc = some (42, nx, a, b, vv, L, w0)) (hr : ∃ n, mi.2.2.2.1 = some (.object n)) (hq : Q (some (.ref x)) h) : G l V mi R mc ms Q mc ms pc lv [.ref x] h := by
  intro p e s m args below meth c Z C RT H locs ls hR hS hl
  obtain ⟨i, len, hdec, hrel⟩ := hcd _ _ he
  obtain ⟨rfl, ⟨q, -⟩ | ⟨q, -⟩ | ⟨-, rfl⟩⟩ := qrel_ret (by omega) hrel
  · omega
  · omega
  · exact RT (some (.ref x)) h H locs ls pc hq hr hdec hR hS
end Rules
