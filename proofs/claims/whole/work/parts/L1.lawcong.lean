/-! the law's loop: a row is its cells 0 .. 11137 -/
section Cg
variable {s s' : qS} {c c' r r' g : qI} {S S' f f' : qN} {w : Nat} {I : qN → Prop} {n k x : Int} {p : Nat}
theorem ndC_cg (h : ∀ e, 0 ≤ e → e < 244 → f' e = f e) : ndC f' n p k x = ndC f n p k x := by
  unfold ndC pk
  rw [h 0 (by omega) (by omega), h 1 (by omega) (by omega), h 2 (by omega) (by omega), h 3 (by omega) (by omega), h 4 (by omega) (by omega), h 5 (by omega) (by omega), h 6 (by omega) (by omega), h 7 (by omega) (by omega), h 8 (by omega) (by omega), h 9 (by omega) (by omega), h 10 (by omega) (by omega), h 11 (by omega) (by omega), h 12 (by omega) (by omega), h 13 (by omega) (by omega), h 14 (by omega) (by omega)]
  refine ite_congr rfl (fun _ => rfl) (fun _ => ite_congr rfl (fun _ => ite_congr rfl (fun q => ?_) (fun _ => rfl)) (fun _ => ite_congr rfl (fun _ => rfl) (fun _ => ite_congr rfl (fun _ => ite_congr rfl (fun q => ?_) (fun _ => rfl)) (fun _ => ite_congr rfl (fun _ => ite_congr rfl (fun q => ?_) (fun _ => rfl)) (fun _ => ite_congr rfl (fun q => ?_) (fun _ => rfl))))))
  · rw [h _ (by omega) (by omega), h _ (by omega) (by omega), h _ (by omega) (by omega), h _ (by omega) (by omega)]
  · exact h _ (by omega) (by omega)
  · exact h _ (by omega) (by omega)
  · rw [h _ (by omega) (by omega), h _ (by omega) (by omega), h _ (by omega) (by omega)]
theorem mkC_in (h : ∀ j, 0 ≤ j → j < 11138 → S' j = S j) (h16 : S 11135 ≤ 16) : mkC w S' g = mkC w S g := by
  refine mkC_eq (fun n p k n0 n1 hp => ndC_cg (fun e e0 e1 => h _ (by omega) (by omega))) (fun i k i0 i1 => ?_) (fun k => ?_) (fun k => ?_) (fun k => ?_) (fun k => ?_) (fun _ _ _ => rfl)
  · unfold rdC
    rw [h 11135 (by omega) (by omega)]
    refine ite_congr rfl (fun q => ?_) (fun _ => rfl)
    rw [h _ (by omega) (by omega), h _ (by omega) (by omega), h _ (by omega) (by omega), h _ (by omega) (by omega), h _ (by omega) (by omega), h _ (by omega) (by omega)]
  · unfold wlC
    rw [hcnt_c (S := S) (S' := S') (fun j a b => h j (by omega) (by omega)), h 11133 (by omega) (by omega), h 11135 (by omega) (by omega), h 11134 (by omega) (by omega), h 11131 (by omega) (by omega), h 11132 (by omega) (by omega), h 11136 (by omega) (by omega), h 11137 (by omega) (by omega)]
  · unfold heC pk
    refine ite_congr rfl (fun q => ?_) (fun _ => rfl)
    rw [h _ (by omega) (by omega), h _ (by omega) (by omega), h _ (by omega) (by omega), h _ (by omega) (by omega)]
  · exact ite_congr rfl (fun q => congrArg ldV (h _ (by omega) (by omega))) (fun _ => rfl)
  · exact ite_congr rfl (fun q => h _ (by omega) (by omega)) (fun _ => rfl)
theorem MsC_cg {R : Int} (hw : 8 ≤ w) (hS : ShW s w) (ho : OK R S) (h : ∀ j, 0 ≤ j → j < 11138 → S' j = S j) (m : MsC s w c S) : MsC s w c S' :=
  MsC_st hS (fun _ _ _ => rfl) (h 11133 (by omega) (by omega)) (OK_160 ho).2 (fun j a b => h j (by omega) (by omega)) m (OK_m5 ho) hw
/-- what the loop asks of the invariant of a row -/
def SfA (I : qN → Prop) : Prop :=
  (∀ S S', (∀ j, 0 ≤ j → j < 11138 → S' j = S j) → I S → I S') ∧ (∀ r, LOK r → SafI (lwR r) I ∧ PlI (lwR r) I) ∧
  (∀ r S, LOK r → RSt S → I S → (∀ x, I (rfd (lwR r) S x)) ∧ (∀ n, I (rcr S n)) ∧ (∀ n, I (rup (lwR r) S n)) ∧ (∀ a b y, I (ctS S a b y)) ∧ (∀ n, I (rcm S n)) ∧ (∀ x, I (seedS S x)) ∧ (∀ n k x, I (wrS (lwR r) S n k x)) ∧ (∀ n k, I (akS (lwR r) S n k)) ∧ ∀ n x, I (chS (lwR r) S n x)) ∧
  I (fdS (lwR z0I) tiX 7)
theorem LvW_cg (hI : SfA I) (hw : 8 ≤ w) (hS : ShW s w) (W : LvW I s w c S) (h : ∀ j, 0 ≤ j → j < 11138 → S' j = S j) (hr : RSt S') : LvW I s w c S' :=
  ⟨⟨by rw [mkC_in h (by have := (OK_g W.2.1.1); unfold GOK at this; omega)]; exact W.1.1, MsC_cg hw hS W.2.1.1 h W.1.2⟩, hr, hI.1 _ _ h W.2.2⟩
/-- a trial on the reference's side -/
theorem LvI_Ra (hI : SfA I) (h : LvI I s c r) (z : Ra r r') : LvI I s c r' := by
  obtain ⟨hS, hW, hL, hz, hT, hB, hK⟩ := h
  obtain ⟨z1, z2, z3, z4⟩ := z
  exact ⟨hS, LvW_cg hI (by omega) hS.2.1 hW z3 z4, CLw_r hL (z2 15 (by omega)) (fun a a1 a2 => z1 a (by omega) (by omega) (by omega) (by omega) (by omega) (by omega) (by omega)), hz, LvT_c hT rfl rfl (z2 6 (by omega)) (z1 2204 (by omega) (by omega) (by omega) (by omega) (by omega) (by omega) (by omega)), hB, LvK_c hS.2.2.2 hK (fun _ _ _ => rfl) (fun _ => rfl) rfl (z2 44 (by omega)) (z1 2201 (by omega) (by omega) (by omega) (by omega) (by omega) (by omega) (by omega))⟩
theorem i32b (x : Int32) : -2147483648 ≤ x.toInt ∧ x.toInt ≤ 2147483647 := by
  have h1 := Int32.le_toInt x
  have h2 := Int32.toInt_lt x
  omega
end Cg
