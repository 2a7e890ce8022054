section Sound
variable {V : qV} {mi : qMI} {R : Room} {p : Program} {l : Launch} {e : Env} {s : State} {m : MethodId} {args : Array Value} {below : List Frame} {meth : Method} {c : Code} {nc ns : Nat} {Z : State → Prop}
theorem i32_ofNat_Int (n : Nat) : Int32.ofNat n = Int32.ofInt (n : Int) := by
  first | rfl | exact (Int32.ofInt_eq_ofNat).symm | exact Int32.ofInt_natCast.symm | (simp [Int32.ofNat, Int32.ofInt])
theorem Rep.put {h h' : qH} {H H1 : Heap} {a : Nat} (hR : Rep V h H) (h1 : 2 ≤ a) (h2 : a < hn h + 2) {e : va_E} (hset : (qws V h).set (a - 2) (qad V a, e) = qws V h') (hnn : hn h' = hn h) (hkk : ∀ b, hK h' b = hK h b) (he : va_at V.2.2.2.2.1 qcl (qad V a, e) H1) (hz : H1.size = H.size) (oq : ∀ q : Nat, q ≠ qad V a → H1[q]? = H[q]?) : Rep V h' H1 := by
  refine ⟨?_, by rw [hz, hnn]; exact hR.2.1, fun b hb => by rw [hnn]; rw [hkk] at hb; exact hR.2.2 b hb⟩
  rw [← hset]
  exact hR.1.set (qws_D V h) (qws_at h1 h2) he oq
theorem qput {H : Heap} {locs : List Loc} {ls : Array Slot} {pc idx a ci k w : Nat} {v : Value} {st : List Value} {h h' : qH} {g : String × String × String × Bool → FieldType → Bool} (hdec : decode mi.2.1 pc = .ok (.putfield idx, 3)) (C : qCx V mi R p s m args meth c) (hR : Rep V h H) (hS : va_S (qA V) s.heap H locs) (hka : (hK h a).1 = ci)
    (hf : qflk mi.2.2.2.2.2.1 idx ci k w g = true) (hg : ∀ f ty, g f ty = true → (f.2.2.2 = false ∨ (mi.1.name = "<init>" ∧ f.1 = qon mi.2.2.2.2.2.1))) (hnar : narrow (qty ci k) v = v) (hfit : fits (qty ci k) v = true)
    (hset : (qws V h).set (a - 2) (qad V a, .inr (ci, ((List.range (qnf ci)).map (fun k => qfv V h a ci k)).set k v)) = qws V h') (hnn : hn h' = hn h) (hkk : ∀ b, hK h' b = hK h b)
    (kk : ∀ (H1 : Heap) (locs1 : List Loc), Rep V h' H1 → va_S (qA V) s.heap H1 locs1 → W p l e R s m args below meth c H1 locs1 nc ns Z (F0 m (pc + 3) ls st)) : W p l e R s m args below meth c H locs nc ns Z (F0 m pc ls (v :: .ref (qad V a) :: st)) := by
  obtain ⟨⟨hx, hb, hml⟩, ⟨hret, hlk, hnm⟩, hown, hts, hKf, ⟨hX, hbl, hbs⟩, hfr, hlo⟩ := C
  obtain ⟨r, f1, f2, f3, f4, f5⟩ := qflk_spec hf
  obtain ⟨b1, b2⟩ := hR.2.2 a (by have := qcl_lt f1; omega)
  have hin := qcl_in f1
  have he := qws_at (V := V) b1 b2
  rw [qce_obj (z := (hK h a).2) (Prod.ext hka rfl) (qcl_lt f1)] at he
  obtain ⟨r', h1, cell, q1, q2, q3, q4⟩ := hR.1 _ _ he
  dsimp only at h1 q1 q2 q4
  have hr : r' = r := Option.some.inj (h1.symm.trans f1)
  subst hr
  obtain ⟨hSl, hfc, kC, hkC, hkind⟩ := hKf.1.1 ci _ f1
  obtain ⟨cf, kf, fi, f, hi, hsl⟩ := hSl k f2
  have hty := qcl_ty f1 k f2
  have hlays := u_lays hts hin f2
  have hft : f.type = qty ci k := (State.fieldFound?_type hi hty).2
  obtain ⟨h6, h7⟩ := u_fits hfc hkC hkind hlays hi hty hnar hfit
  have hfin : hasFlag f.accessFlags Acc.final = false ∨ (m.cls = cf ∧ meth.name = "<init>") := by
    by_cases hF : (r'.2.1 k).2.2.2 = true
    · rcases hg _ _ f5 with hg | ⟨g1, g2⟩
      · rw [hg] at hF; cases hF
      · have hlay := hts _ (hin _ (u_in_lay f2))
        unfold u_lay at hlay
        rw [if_pos hF] at hlay
        have e0 : r'.1 = qon mi.2.2.2.2.2.1 := f4.symm.trans g2
        rw [f4] at hlay hi
        exact Or.inr ⟨laid_decl (by rw [e0]; exact hown) hlay hi, hnm.trans g1⟩
    · have hlay := hts _ (hin _ (u_in_lay f2))
      unfold u_lay at hlay
      rw [if_neg hF] at hlay
      exact Or.inl (u_store hfc hkC hkind hlay hi hty hnar hfit).1
  refine W.putf hx hb hown (hts _ f3) hi (u_facts hfc hkC hlays hi).1 hfin q1 (by rw [q3]; exact fun h => by cases h) (by rw [hsl]; exact k2_hasslot (q4 k f2)) h6 (by rw [q2, q3]; exact h7) rfl rfl hdec ?_
  have hal : qad V a < H.size := (Array.getElem?_eq_some_iff.mp q1).1
  have oq : ∀ q : Nat, q ≠ qad V a → (H.setIfInBounds (qad V a) (cell.setSlot f.slot v))[q]? = H[q]? := fun q hq => by simp [Array.getElem?_setIfInBounds, Ne.symm hq]
  have zz : (H.setIfInBounds (qad V a) (cell.setSlot f.slot v)).size = H.size := by simp
  have ee : (H.setIfInBounds (qad V a) (cell.setSlot f.slot v))[qad V a]? = some (cell.setSlot f.slot v) := by simp [Array.getElem?_setIfInBounds, hal]
  have hap := va_apart (own := qon mi.2.2.2.2.2.1) hts hin (qty ci) (qcl_ty f1) (qcl_nm f1) hKf.1 f1
  refine kk _ _ (hR.put b1 b2 hset hnn hkk ⟨r', f1, ?_⟩ zz oq) (hS.put zz oq (by show V.2.2.1 ≤ qad V a; rw [qad, if_neg (by omega)]; omega))
  rw [hsl] at ee ⊢
  refine t_OB.to (V := updV (vp_V ((List.range (qnf ci)).map (fun k => qfv V h a ci k))) k v) ⟨_, ee, q2, q3, t_set q4 hap f2 v⟩ (fun j _ => vp_updV_set (by rw [List.length_map, List.length_range, qnf_of f1]; exact f2) v j)
set_option maxHeartbeats 4000000 in
theorem st_heap {pc len : Nat} {i : Instr} {op nx a b : Nat} {v : Int} {L : List (Int × Nat)} {w0 : Nat} {lv st : List Value} {h : qH} (C : qCx V mi R p s m args meth c) (hdec : decode mi.2.1 pc = .ok (i, len)) (hrel : qrel mi pc i len (op, nx, a, b, v, L, w0) = true) (hop : 19 ≤ op ∧ op ≤ 30 ∨ op = 34 ∨ op = 35)
    (w : wpI V (op, nx, a, b, v, L, w0) lv st h (Wq V mi R p l e s m args below meth c nc ns Z)) : Wq V mi R p l e s m args below meth c nc ns Z pc lv st h := by
  intro H locs ls hR hS hl
  have C' := C
  obtain ⟨⟨hx, hb, hml⟩, ⟨hret, hlk, hnm⟩, hown, hts, hKf, ⟨hX, hbl, hbs⟩, hfr, hlo⟩ := C
  have hKv := hKf.1
  have hA2 : ∀ {x : Nat}, 2 ≤ x → qA V (qad V x) := fun {x} q => by
    show V.2.2.1 ≤ qad V x
    rw [qad, if_neg (by omega)]; omega
  simp only [qrel, Bool.and_eq_true, decide_eq_true_eq] at hrel
  obtain ⟨rfl, hrel⟩ := hrel
  cases i with
  | getfield idx =>
    simp only [Bool.and_eq_true, decide_eq_true_eq] at hrel
    obtain ⟨rfl, hrel⟩ := hrel
    obtain ⟨r, f1, f2, f3, f4, f5⟩ := qflk_spec hrel
    have hc := qcl_lt f1
    have key : ∀ {x : Nat} {rest : List Value}, (hK h x).1 = a → W p l e R s m args below meth c H locs nc ns Z (F0 m (pc + 3) ls (qfv V h x a b :: rest)) → W p l e R s m args below meth c H locs nc ns Z (F0 m pc ls (qvv V (.ref x) :: rest)) := by
      intro x rest hx1 kk
      obtain ⟨b1, b2⟩ := hR.2.2 x (by omega)
      rw [qvv_ref (by omega)]
      refine va_get hx hb hts (qcl_in f1) hown hKv hR.1 (x - 2) (by rw [qws_at b1 b2, qce_obj (z := (hK h x).2) (Prod.ext hx1 rfl) hc]) f1 b f2 (hts _ f3) (fun _ e => e) (qfs_get (by rw [qnf_of f1]; exact f2)) hdec kk
    split at f5
    · rename_i hr
      simp only [decide_eq_true_eq] at f5; subst f5
      rw [w_20] at w; split at w
      · rename_i x r
        have h1 := w.2 H locs ls hR hS hl
        refine key w.1 ?_
        rw [qfv, if_pos hr]
        exact h1
      · exact w.elim
    · rename_i hr
      simp only [decide_eq_true_eq] at f5; subst f5
      rw [w_19] at w; split at w
      · rename_i x r
        have h1 := w.2 H locs ls hR hS hl
        refine key w.1 ?_
        rw [qfv, if_neg hr]
        exact h1
      · exact w.elim
  | putfield idx =>
    simp only [Bool.and_eq_true, decide_eq_true_eq] at hrel
    obtain ⟨rfl, hrel⟩ := hrel
    obtain ⟨r, f1, f2, f3, f4, f5⟩ := qflk_spec hrel
    have hc := qcl_lt f1
    have hkn : b < qnf a := by rw [qnf_of f1]; exact f2
    have hg : ∀ (f : String × String × String × Bool) (ty : FieldType), ((if qisR ty then decide (op = 23) else if ty = .int then decide (op = 21) else decide (op = 22 ∧ ty = .boolean)) && (!f.2.2.2 || decide (mi.1.name = "<init>" ∧ f.1 = qon mi.2.2.2.2.2.1))) = true → (f.2.2.2 = false ∨ (mi.1.name = "<init>" ∧ f.1 = qon mi.2.2.2.2.2.1)) := by
      intro f ty hh
      simp only [Bool.and_eq_true, Bool.or_eq_true, Bool.not_eq_true', decide_eq_true_eq] at hh
      exact hh.2
    simp only [Bool.and_eq_true] at f5
    obtain ⟨f5, -⟩ := f5
    split at f5
    · rename_i hr
      simp only [decide_eq_true_eq] at f5; subst f5
      rw [w_23] at w; split at w
      · rename_i y x r
        obtain ⟨b1, b2⟩ := hR.2.2 x (by omega)
        simp only [List.map_cons]
        rw [qvv_ref (a := x) (by omega)]
        refine qput hdec C' hR hS w.1 hrel hg ?_ ?_ (qws_putR (z := (hK h x).2) (Prod.ext w.1 rfl) hc b1 hkn hr) hn_setR (fun _ => hK_setR) (fun H1 locs1 hR1 hS1 => w.2 H1 locs1 ls hR1 hS1 hl)
        · show narrow (qty a b) (va_rf (qop V y)) = va_rf (qop V y)
          unfold qop; generalize qty a b = ty at hr ⊢
          cases ty <;> simp [qisR] at hr <;> split <;> rfl
        · show fits (qty a b) (va_rf (qop V y)) = true
          unfold qop; generalize qty a b = ty at hr ⊢
          cases ty <;> simp [qisR] at hr <;> split <;> rfl
      · exact w.elim
    · rename_i hr
      have hr2 : qisR (qty a b) = false := by simpa using hr
      split at f5
      · rename_i hty
        simp only [decide_eq_true_eq] at f5; subst f5
        rw [w_21] at w; split at w
        · rename_i y x r
          obtain ⟨b1, b2⟩ := hR.2.2 x (by omega)
          simp only [List.map_cons]
          rw [qvv_ref (a := x) (by omega)]
          exact qput hdec C' hR hS w.1 hrel hg (by rw [hty]; rfl) (by rw [hty]; rfl) (qws_putI (z := (hK h x).2) (Prod.ext w.1 rfl) hc b1 hkn hr2) hn_setM (fun _ => hK_setM) (fun H1 locs1 hR1 hS1 => w.2 H1 locs1 ls hR1 hS1 hl)
        · exact w.elim
      · simp only [decide_eq_true_eq] at f5
        obtain ⟨rfl, hty⟩ := f5
        rw [w_22] at w; split at w
        · rename_i y x r
          obtain ⟨b1, b2⟩ := hR.2.2 x (by omega)
          simp only [List.map_cons]
          rw [qvv_ref (a := x) (by omega)]
          exact qput hdec C' hR hS w.1 hrel hg (by rw [hty]; rcases w.2.1 with rfl | rfl <;> rfl) (by rw [hty]; rcases w.2.1 with rfl | rfl <;> rfl) (qws_putI (z := (hK h x).2) (Prod.ext w.1 rfl) hc b1 hkn hr2) hn_setM (fun _ => hK_setM) (fun H1 locs1 hR1 hS1 => w.2.2 H1 locs1 ls hR1 hS1 hl)
        · exact w.elim
  | iaload =>
    simp only [decide_eq_true_eq] at hrel
    obtain ⟨rfl, rfl | rfl⟩ := hrel
    · rw [w_24] at w; split at w
      · rename_i i x r
        obtain ⟨w1, w2, w3⟩ := w
        obtain ⟨b1, b2⟩ := hR.2.2 x (by omega)
        simp only [List.map_cons, qvv_int]
        rw [qvv_ref (a := x) (by omega)]
        have h1 := w3 H locs ls hR hS hl
        have e1 : ((i.toNatClampNeg : Nat) : Int) = i.toInt := by have := w2.1; show ((i.toInt.toNat : Nat) : Int) = _; omega
        refine va_iald hx hb hKv hR.1 (x - 2) 0 (by rw [qws_at b1 b2, qce_ints (t := 0) (n := (hK h x).2) (Prod.ext w1 rfl) (by omega)]) rfl (inB_vp w2) hdec ?_
        rw [e1]; exact h1
      · exact w.elim
    · rw [w_34] at w; split at w
      · rename_i i x r
        obtain ⟨rfl, w2, w3⟩ := w
        exact va_sld (b := V.1) hx hb hX (by omega) (by show ¬ V.2.2.1 ≤ V.1; omega) hS (inB_vp w2) hdec (w3 H locs ls hR hS hl)
      · exact w.elim
  | iastore =>
    simp only [decide_eq_true_eq] at hrel
    obtain ⟨rfl, rfl⟩ := hrel
    rw [w_25] at w; split at w
    · rename_i y i x r
      obtain ⟨w1, w2, w3⟩ := w
      obtain ⟨b1, b2⟩ := hR.2.2 x (by omega)
      simp only [List.map_cons, qvv_int]
      rw [qvv_ref (a := x) (by omega)]
      have he := qws_at (V := V) b1 b2
      rw [qce_ints (t := 0) (n := (hK h x).2) (Prod.ext w1 rfl) (by omega)] at he
      refine W.iast hx hb (hR.1 _ _ he) ((hKv.2 0 _ rfl).1 _ (fun j => .int (hM h x j))) (fun q => by cases q) (by show ¬ (i < 0 ∨ (arrV _ _ _).slots.size ≤ _); rw [arrV_size]; exact inB_vp w2) rfl rfl hdec fun H1 e1 z oq => ?_
      refine w3 H1 _ ls (hR.put b1 b2 (qws_astI (t := 0) (n := (hK h x).2) (j := i.toInt) (v := y) (Prod.ext w1 rfl) (by omega) b1 w2.1) hn_setM (fun _ => hK_setM) ?_ z oq) (hS.put z oq (hA2 b1)) hl
      show H1[qad V x]? = some (vp_cell _ _)
      rw [e1]
      dsimp only
      rw [vp_cell_i, vp_cell_i, arrV_store]
      congr 2
      funext q
      show updV _ _ _ _ = _
      simp only [updV, upd]
      show (if q = i.toInt.toNat then _ else _) = Value.int (if q = i.toInt.toNat then _ else _)
      split <;> rfl
    · exact w.elim
  | aaload =>
    simp only [decide_eq_true_eq] at hrel
    obtain ⟨rfl, rfl⟩ := hrel
    rw [w_26] at w; split at w
    · rename_i i x r
      obtain ⟨w1, w2, w3⟩ := w
      obtain ⟨b1, b2⟩ := hR.2.2 x (by omega)
      simp only [List.map_cons, qvv_int]
      rw [qvv_ref (a := x) (by omega)]
      have h1 := w3 H locs ls hR hS hl
      have e1 : ((i.toNatClampNeg : Nat) : Int) = i.toInt := by have := w2.1; show ((i.toInt.toNat : Nat) : Int) = _; omega
      have key : ∀ (t : Nat) (CN : String), (hK h x).1 = 100 + t → 2 ≤ t → (qtys V)[t]? = some (V.2.2.2.2.2 t, .object CN) → W p l e R s m args below meth c H locs nc ns Z (F0 m pc ls (.int i :: .ref (qad V x) :: r.map (qvv V))) := by
        intro t CN ht ht2 hty
        refine va_aldq hx hb hKv hR.1 (x - 2) t (by rw [qws_at b1 b2, qce_refs (t := t) (n := (hK h x).2) (Prod.ext ht rfl) ht2]) hty (inB_vp w2) hdec ?_
        rw [e1]; exact h1
      have hcase : (hK h x).1 = 100 + 2 ∨ (hK h x).1 = 100 + 3 ∨ (hK h x).1 = 100 + 4 := by omega
      rcases hcase with q | q | q
      · exact key 2 _ q (by omega) rfl
      · exact key 3 _ q (by omega) rfl
      · exact key 4 _ q (by omega) rfl
    · exact w.elim
  | aastore =>
    simp only [decide_eq_true_eq] at hrel
    obtain ⟨rfl, rfl⟩ := hrel
    rw [w_27] at w; split at w
    · rename_i y i x r
      obtain ⟨w1, w2, w3⟩ := w
      obtain ⟨b1, b2⟩ := hR.2.2 x (by omega)
      obtain ⟨b3, b4⟩ := hR.2.2 y (by omega)
      simp only [List.map_cons, qvv_int]
      rw [qvv_ref (a := x) (by omega), qvv_ref (a := y) (by omega)]
      have key : ∀ (t ci : Nat) (rr : vw_C), (hK h x).1 = 100 + t → 2 ≤ t → (hK h y).1 = ci → qcl[ci]? = some rr → (qtys V)[t]? = some (V.2.2.2.2.2 t, .object rr.1) → W p l e R s m args below meth c H locs nc ns Z (F0 m pc ls (.ref (qad V y) :: .int i :: .ref (qad V x) :: r.map (qvv V))) := by
        intro t ci rr ht ht2 hci hrr hty
        have he := qws_at (V := V) b1 b2
        rw [qce_refs (t := t) (n := (hK h x).2) (Prod.ext ht rfl) ht2] at he
        have hv := qws_at (V := V) b3 b4
        rw [qce_obj (z := (hK h y).2) (Prod.ext hci rfl) (qcl_lt hrr)] at hv
        obtain ⟨r', hr', cellV, g1, g2, g3, -⟩ := hR.1 _ _ hv
        have hcls := (hKv.1 ci rr hrr).2
        obtain ⟨kA, comp, k1, k2, k3, -⟩ := (hKv.2 t _ hty).2
        have hcomp : comp = V.2.2.2.2.1.1 ci := Option.some.inj (k3.symm.trans hcls.1)
        subst hcomp
        obtain ⟨kC, hkC, -⟩ := hcls.2
        have h0 : ¬ i < 0 := fun q => (inB_vp w2) (Or.inl q)
        have hlt : i.toNatClampNeg < (hK h x).2 := Nat.not_le.mp fun q => (inB_vp w2) (Or.inr q)
        refine W.aast hx hb (hR.1 _ _ he) (fun q h => by cases h) (fun h => by cases h) k1 k2 rfl hkC ⟨h0, by show _ < (arrV _ _ _).slots.size; rw [arrV_size]; exact hlt⟩ g1 (fun q h => by rw [g3] at h; cases h) (by rw [g2]; exact hkC) (by rw [g2]; exact va_assign hcls) rfl rfl hdec fun H1 e1 z oq => ?_
        refine w3 H1 _ ls (hR.put b1 b2 (qws_astR (t := t) (n := (hK h x).2) (j := i.toInt) (v := y) (Prod.ext ht rfl) ht2 b1 w2.1) hn_setR (fun _ => hK_setR) ?_ z oq) (hS.put z oq (hA2 b1)) hl
        show H1[qad V x]? = some (vp_cell _ _)
        rw [e1]
        dsimp only
        rw [vp_cell_q, vp_cell_q, arrV_store]
        congr 2
        funext q
        show updV _ _ _ _ = _
        simp only [updV, va_up]
        show (if q = i.toInt.toNat then _ else _) = va_rf (if q = i.toInt.toNat then _ else _)
        split
        · rw [qop, if_neg (by omega)]; rfl
        · rfl
      rcases w1 with ⟨q, q2⟩ | ⟨q, q2⟩ | ⟨q, q2⟩
      · exact key 2 3 _ q (by omega) q2 rfl rfl
      · exact key 3 2 _ q (by omega) q2 rfl rfl
      · exact key 4 5 _ q (by omega) q2 rfl rfl
    · exact w.elim
  | baload =>
    simp only [decide_eq_true_eq] at hrel
    obtain ⟨rfl, rfl⟩ := hrel
    rw [w_28] at w; split at w
    · rename_i i x r
      obtain ⟨w1, w2, w3⟩ := w
      obtain ⟨b1, b2⟩ := hR.2.2 x (by omega)
      simp only [List.map_cons, qvv_int]
      rw [qvv_ref (a := x) (by omega)]
      have h1 := w3 H locs ls hR hS hl
      have e1 : ((i.toNatClampNeg : Nat) : Int) = i.toInt := by have := w2.1; show ((i.toInt.toNat : Nat) : Int) = _; omega
      refine va_bald hx hb hKv hR.1 (x - 2) 1 (by rw [qws_at b1 b2, qce_ints (t := 1) (n := (hK h x).2) (Prod.ext w1 rfl) (by omega)]) rfl (inB_vp w2) hdec ?_
      rw [e1]; exact h1
    · exact w.elim
  | bastore =>
    simp only [decide_eq_true_eq] at hrel
    obtain ⟨rfl, rfl⟩ := hrel
    rw [w_29] at w; split at w
    · rename_i y i x r
      obtain ⟨w1, w2, w4, w3⟩ := w
      obtain ⟨b1, b2⟩ := hR.2.2 x (by omega)
      simp only [List.map_cons, qvv_int]
      rw [qvv_ref (a := x) (by omega)]
      have he := qws_at (V := V) b1 b2
      rw [qce_ints (t := 1) (n := (hK h x).2) (Prod.ext w1 rfl) (by omega)] at he
      refine W.bast hx hb (hR.1 _ _ he) ((hKv.2 1 _ rfl).1 _ (fun j => .int (hM h x j))) (fun q => by cases q) (by show ¬ (i < 0 ∨ (arrV _ _ _).slots.size ≤ _); rw [arrV_size]; exact inB_vp w2) rfl rfl hdec fun H1 e1 z oq => ?_
      refine w3 H1 _ ls (hR.put b1 b2 (qws_astI (t := 1) (n := (hK h x).2) (j := i.toInt) (v := y) (Prod.ext w1 rfl) (by omega) b1 w2.1) hn_setM (fun _ => hK_setM) ?_ z oq) (hS.put z oq (hA2 b1)) hl
      have e2 : narrow .byte (.int y) = .int y := by
        show Value.int y.toInt8.toInt32 = _
        rw [w4]
      show H1[qad V x]? = some (vp_cell _ _)
      rw [e1, e2]
      dsimp only
      rw [vp_cell_i, vp_cell_i, arrV_store]
      congr 2
      funext q
      show updV _ _ _ _ = _
      simp only [updV, upd]
      show (if q = i.toInt.toNat then _ else _) = Value.int (if q = i.toInt.toNat then _ else _)
      split <;> rfl
    · exact w.elim
  | arraylength =>
    simp only [decide_eq_true_eq] at hrel
    obtain ⟨rfl, rfl | rfl⟩ := hrel
    · rw [w_30] at w; split at w
      · rename_i x r
        obtain ⟨w1, w3⟩ := w
        obtain ⟨b1, b2⟩ := hR.2.2 x (by omega)
        simp only [List.map_cons]
        rw [qvv_ref (a := x) (by omega)]
        have h1 := w3 H locs ls hR hS hl
        have e1 : Int32.ofNat (hK h x).2 = Int32.ofInt (hK h x).2 := i32_ofNat_Int _
        rcases Nat.lt_or_ge (hK h x).1 102 with q | q
        · refine va_alen hx hb hKv hR.1 (x - 2) ((hK h x).1 - 100) (by rw [qws_at b1 b2, qce_ints (t := (hK h x).1 - 100) (n := (hK h x).2) (by rw [show 100 + ((hK h x).1 - 100) = (hK h x).1 by omega]) (by omega)]) (ty := if (hK h x).1 - 100 = 0 then .int else .byte) ?_ e1 hdec h1
          have : (hK h x).1 - 100 = 0 ∨ (hK h x).1 - 100 = 1 := by omega
          rcases this with q | q <;> rw [q] <;> rfl
        · have : (hK h x).1 - 100 = 2 ∨ (hK h x).1 - 100 = 3 ∨ (hK h x).1 - 100 = 4 := by omega
          refine va_alen hx hb hKv hR.1 (x - 2) ((hK h x).1 - 100) (by rw [qws_at b1 b2, qce_refs (t := (hK h x).1 - 100) (n := (hK h x).2) (by rw [show 100 + ((hK h x).1 - 100) = (hK h x).1 by omega]) (by omega)]) (ty := if (hK h x).1 - 100 = 2 then .object RX3 else if (hK h x).1 - 100 = 3 then .object RX2 else .object RX5) ?_ e1 hdec h1
          rcases this with q | q | q <;> rw [q] <;> rfl
      · exact w.elim
    · rw [w_35] at w; split at w
      · rename_i x r
        obtain ⟨rfl, w3⟩ := w
        have h1 := w3 H locs ls hR hS hl
        have e1 : Int32.ofNat V.2.1 = Int32.ofInt V.2.1 := i32_ofNat_Int _
        refine va_slen (b := V.1) hx hb hX (by omega) (by show ¬ V.2.2.1 ≤ V.1; omega) hS hdec ?_
        rw [e1]; exact h1
      · exact w.elim
  | _ =>
    exfalso
    first
      | exact Bool.false_ne_true hrel
      | (simp only [Bool.and_eq_true, Bool.or_eq_true, decide_eq_true_eq] at hrel; omega)
end Sound
