/-! the law from its entry, on the machine itself -/
theorem ArrOf_k {U : State} {cA : ClassId} {k : Class} {comp : ClassId} {ty : FieldType} (hk : U.vm.classes[cA]? = some k) (hkd : k.kind = .array comp ty) : ArrOfT U cA ty :=
  fun _ _ => ⟨fun _ h => (by cases h), k, hk, comp, hkd⟩
theorem ao_K {U : State} {C : String} (h : va_AO C U) : ∃ cA, ArrOfT U cA (.object C) ∧ va_RA U cA (.object C) := by
  obtain ⟨comp, c, k, h1, h2, h3, h4, h5⟩ := Cond.arrayOver_spec h
  exact ⟨c, ArrOf_k h3 h4, k, comp, h3, h4, h1, h5⟩
theorem ac_K {U : State} {ty : FieldType} {A : Array Value} (h : (Cond.arrayClass ty).before A U = true) : ∃ cA, ArrOfT U cA ty ∧ U.vm.findClass ("[" ++ ty.toString) = some cA := by
  obtain ⟨c, k, comp, h1, h2, h3⟩ := Cond.arrayClass_spec h
  exact ⟨c, ArrOf_k h2 h3, h1⟩
theorem qKf_0 {s : State} {A : Array Value} (hts : ∀ w ∈ lw_tbl, w.before A s = true) (b L n : Nat) (xs : Nat → Int32) : ∃ (D : va_G) (aC : Nat → ClassId), qKf (b, L, n, xs, D, aC) s := by
  have hq : ∀ w ∈ qT, w.before A s = true := fun w hw => hts w (List.mem_filter.mp hw).1
  have ht1 : ∀ w ∈ tables_1, w.before A s = true := fun w hw => hts w (List.mem_append_right _ hw)
  have hc : ∀ c : Nat, ∃ (cC : ClassId) (iS : Nat → Nat), ∀ q : vw_C, qcl[c]? = some q → u_Kn s q.1 q.2.1 q.2.2 cC iS := fun c => by
    match hq0 : qcl[c]? with
    | none => exact ⟨0, fun _ => 0, fun q h => by cases h⟩
    | some r =>
      obtain ⟨cC, iS, h⟩ := u_known (C := r.1) (T := r.2.1) (N := r.2.2) (n := r.2.2) hq (fun w hw => qT_mem (qcl_ws r (List.mem_of_getElem? hq0) w hw).1 (qcl_ws r (List.mem_of_getElem? hq0) w hw).2) (hq _ (qcl_inst hq0).1)
      exact ⟨cC, iS, fun q h => by cases h; exact h⟩
  obtain ⟨a0, p0, q0⟩ := ac_K (hq _ qT_arr.1)
  obtain ⟨a1, p1, q1⟩ := ac_K (hq _ qT_arr.2)
  have o3 : va_AO RX3 s := va_AO.of (ht1 _ (by decide +kernel))
  have o2 : va_AO RX2 s := va_AO.of (ht1 _ (by decide +kernel))
  have o5 : va_AO RX5 s := va_AO.of (ht1 _ (by decide +kernel))
  obtain ⟨a2, p2, q2⟩ := ao_K o3
  obtain ⟨a3, p3, q3⟩ := ao_K o2
  obtain ⟨a4, p4, q4⟩ := ao_K o5
  refine ⟨(fun c => Classical.choose (hc c), fun c => Classical.choose (Classical.choose_spec (hc c))), fun k => if k = 0 then a0 else if k = 1 then a1 else if k = 2 then a2 else if k = 3 then a3 else a4, ⟨fun c q h => Classical.choose_spec (Classical.choose_spec (hc c)) q h, fun k q h => ?_⟩, ⟨o3, o2, o5⟩, fun o i y hm => va_Nw.of rfl (ht1 _ hm)⟩
  match k, h with
  | 0, h => cases h; exact ⟨p0, q0⟩
  | 1, h => cases h; exact ⟨p1, q1⟩
  | 2, h => cases h; exact ⟨p2, q2⟩
  | 3, h => cases h; exact ⟨p3, q3⟩
  | 4, h => cases h; exact ⟨p4, q4⟩
  | k + 5, h => simp [qtys] at h
/-- an empty heap -/
def z0S : qS := (0, fun _ => (200, 0), fun _ _ => 0)
theorem LL_W {I : qN → Prop} (hI : SfA I) {p : Program} {l : Launch} {e : Env} {s : State} {m : MethodId} {below : List Frame} {meth : Method} {c : Code} {b L : Nat} {xs : Nat → Int32} {Z : State → Prop} (hL : L ≤ 3072) (hx : p.tables.exec = Jvm.exec) (hb : c.code = code) (hr : meth.sig.returnType = ret) (hml : c.maxLocals = 4) (hown : s.vm.findClass "TermLogLaw" = some m.cls) (hts : ∀ w ∈ lw_tbl, w.before #[Value.ref b] s = true) (hX : va_X b L xs s s.heap) (hbl : b < s.heap.size) (hlocks : meth.locks = false) (hname : meth.name = x.name)
    (hret : ∀ (H : Heap) (locs : List Loc) (ls : Array Slot) (pc : Nat), decode code pc = .ok (.ireturn, 1) → va_S (fun q => s.heap.size ≤ q) s.heap H locs → W p l e room_1 s m #[Value.ref b] below meth c H locs 600000 7302250 Z (F0 m pc ls [.int 1])) :
    W p l e room_1 s m #[Value.ref b] below meth c s.heap [] 0 0 Z (entryFrame m ([Value.ref b] : List Value).toArray 4) := by
  obtain ⟨D, aC, hKf⟩ := qKf_0 hts b L s.heap.size xs
  have hq : ∀ w ∈ qT, w.before #[Value.ref b] s = true := fun w hw => hts w (List.mem_filter.mp hw).1
  have w := LL_start (l := l) (V := (b, L, s.heap.size, xs, D, aC)) (mc := 600000) (ms := 7302250) (R := room_1) (s := z0S) (Q := fun v _ => v = some (.int (Int32.ofInt 1))) hI ⟨by decide, by decide⟩ ⟨by decide, by decide⟩ ⟨by decide, by decide⟩ (by show (L : Int) ≤ 2147483647; omega) (fun _ => rfl) rfl
  have C : qCx (b, L, s.heap.size, xs, D, aC) mi_L_law room_1 p s m #[Value.ref b] meth c := ⟨⟨hx, hb, hml⟩, ⟨hr, hlocks, hname⟩, hown, hq, hKf, ⟨hX, hbl, Nat.le_refl _⟩, by decide, by decide⟩
  have RT : qRet l (b, L, s.heap.size, xs, D, aC) mi_L_law room_1 600000 7302250 (fun v _ => v = some (.int (Int32.ofInt 1))) p e s m #[Value.ref b] below meth c Z := by
    intro v h H locs ls pc hv hr' hdec hRp hS
    subst hv
    exact hret H locs ls pc hdec hS
  have hRep : Rep (b, L, s.heap.size, xs, D, aC) (mkH z0S z0I) s.heap := ⟨fun k q h => by simp [qws, hn, mkH, z0S] at h, rfl, fun a ha => absurd ha (by show ¬ (200 < 200); omega)⟩
  have key := qlok_entry (V := (b, L, s.heap.size, xs, D, aC)) (n := 4) (as := [.ref 1]) (fun v hv => List.all_eq_true.mp (show ([.ref 1] : List Value).all qtr = true from rfl) v hv) (by decide)
  rw [lg_entry_eq]
  exact w p e s m #[Value.ref b] below meth c Z C RT s.heap [] _ hRep va_S.rf key
