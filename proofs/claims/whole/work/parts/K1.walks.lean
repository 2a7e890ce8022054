/-! walks with makings -/
section Gw
variable {l : Launch} {V : qV} {mi : qMI} {d mc ms nc ns : Nat} {Q : Option Value → qH → Prop} {cd : Nat → Option qE} {sm : qSm} {R : Room}
/-- what was made is rounded up -/
theorem G_wide {nc' ns' pc : Nat} {lv st : List Value} {h : qH} (h1 : nc ≤ nc') (h2 : ns ≤ ns') (w : G l V mi R mc ms Q nc' ns' pc lv st h) : G l V mi R mc ms Q nc ns pc lv st h :=
  fun p e s m args below meth c Z C RT H locs ls hRp hS hl => W.widen h1 h2 (w p e s m args below meth c Z C RT H locs ls hRp hS hl)
theorem G_ev1 (hcd : cdok mi cd) (h33 : ∀ pc e, cd pc = some e → e.1 ≠ 33) (hnc : nc ≤ R.cells) (hns : ns ≤ R.slots) (hmc : nc ≤ mc ∧ ns ≤ ms) (stop : Nat → Bool) {K : qC} (hKk : ∀ pc lv st h, K pc lv st h → G l V mi R mc ms Q nc ns pc lv st h) : ∀ (n : Nat) {pc : Nat} {lv st : List Value} {h : qH}, ev V sm0 mi.2.2.2.1 Q cd stop n K pc lv st h → G l V mi R mc ms Q nc ns pc lv st h
  | 0, _, _, _, _, w => hKk _ _ _ _ w
  | n + 1, pc, lv, st, h, w => by
    have ih := @G_ev1 hcd h33 hnc hns hmc stop K hKk n
    have hKn : ∀ pc' lv' st' h', (if stop pc' = true then K pc' lv' st' h' else ev V sm0 mi.2.2.2.1 Q cd stop n K pc' lv' st' h') → G l V mi R mc ms Q nc ns pc' lv' st' h' := by
      intro pc' lv' st' h' k
      split at k
      · exact hKk _ _ _ _ k
      · exact ih k
    unfold ev evE at w
    split at w
    · exact w.elim
    · rename_i op nx a b v L w0 he
      split at w
      · rename_i hlt
        intro p e s m args below meth c Z C RT
        obtain ⟨i, len, hdec, hrel⟩ := hcd _ _ he
        refine st_all C hnc hns hdec hrel hlt (Or.inr (h33 _ _ he)) (wpI_mono (fun pc' lv' st' h' k => hKn _ _ _ _ k p e s m args below meth c Z C RT) w)
      · have calls : ∀ (bb : Nat), (match qspl bb [] st with
              | some (as, rest) => (match sm0 a as h with | some (P, v, h') => P ∧ qrest rest ∧ (if stop nx = true then K nx lv (v.toList ++ rest) h' else ev V sm0 mi.2.2.2.1 Q cd stop n K nx lv (v.toList ++ rest) h') | none => K pc lv st h)
              | none => False) → G l V mi R mc ms Q nc ns pc lv st h := by
          intro bb w
          split at w
          · split at w
            · rename_i hs; cases hs
            · exact hKk _ _ _ _ w
          · exact w.elim
        split at w
        · split at w
          · exact G_wide hmc.1 hmc.2 (G_iret hcd he w.1 w.2)
          · exact w.elim
        · split at w
          · exact G_wide hmc.1 hmc.2 (G_vret hcd he w.1 w.2)
          · exact w.elim
        · split at w
          · exact G_wide hmc.1 hmc.2 (G_aret hcd he w.1 w.2)
          · exact w.elim
        · exact calls (b + 1) w
        · exact calls (b + 1) w
        · exact calls b w
        · exact hKk _ _ _ _ w
theorem G_ev2 (hcd : cdok mi cd) (h33 : ∀ pc e, cd pc = some e → e.1 ≠ 33) (hnc : nc ≤ R.cells) (hns : ns ≤ R.slots) (hmc : nc ≤ mc ∧ ns ≤ ms) (stop : Nat → Bool) (n : Nat) {pc : Nat} {lv st : List Value} {h : qH}
    (w : ∀ K : qC, (∀ pc lv st h, G l V mi R mc ms Q nc ns pc lv st h → K pc lv st h) → ev V sm0 mi.2.2.2.1 Q cd stop n K pc lv st h) : G l V mi R mc ms Q nc ns pc lv st h :=
  G_ev1 hcd h33 hnc hns hmc stop (fun _ _ _ _ k => k) n (w _ (fun _ _ _ _ k => k))
end Gw
section Ev
variable {V : qV} {sm : qSm} {ret : Option FieldType} {Q : Option Value → qH → Prop} {K Kn : qC} {nx a b pc w0 : Nat} {v : Int} {L : List (Int × Nat)} {lv st : List Value} {h : qH}
theorem e_46 : evE V sm ret Q (some (46, nx, a, b, v, L, w0)) K Kn pc lv st h = K pc lv st h := nrfl rfl
theorem e_47 : evE V sm ret Q (some (47, nx, a, b, v, L, w0)) K Kn pc lv st h = K pc lv st h := nrfl rfl
theorem e_48 : evE V sm ret Q (some (48, nx, a, b, v, L, w0)) K Kn pc lv st h = K pc lv st h := nrfl rfl
theorem e_49 : evE V sm ret Q (some (49, nx, a, b, v, L, w0)) K Kn pc lv st h = K pc lv st h := nrfl rfl
theorem no33 {cl : List (Nat × qE)} (h : cl.all (fun q => q.2.1 != 33) = true) : ∀ pc e, cl.lookup pc = some e → e.1 ≠ 33 := by
  intro pc e he z
  have hm : ∀ (cl : List (Nat × qE)), cl.lookup pc = some e → ∃ q ∈ cl, q.2 = e := by
    intro cl
    induction cl with
    | nil => intro h; cases h
    | cons q cl ih =>
      intro h
      obtain ⟨k, u⟩ := q
      rw [List.lookup_cons] at h
      split at h
      · exact ⟨_, List.mem_cons_self, Option.some.inj h⟩
      · obtain ⟨q2, h1, h2⟩ := ih h
        exact ⟨q2, List.mem_cons_of_mem _ h1, h2⟩
  obtain ⟨q, h1, h2⟩ := hm cl he
  have h3 := List.all_eq_true.mp h q h1
  rw [h2, z] at h3
  exact absurd h3 (by decide)
end Ev
def rmk (d mc ms : Nat) : Room := { frames := d + 1, cells := mc, slots := ms, locals := 64 * (d + 1) }
theorem rmk_ok (d mc ms : Nat) : 1 ≤ (rmk d mc ms).frames ∧ 64 ≤ (rmk d mc ms).locals ∧ (rmk d mc ms).cells = mc ∧ (rmk d mc ms).slots = ms := ⟨by simp [rmk], by simp [rmk]; omega, rfl, rfl⟩
theorem rmk_lt {d d' mc ms mc' ms' : Nat} (h : d' < d) : (rmk d' mc' ms').frames + 1 ≤ (rmk d mc ms).frames ∧ (rmk d' mc' ms').locals + 64 ≤ (rmk d mc ms).locals ∧ (rmk d' mc' ms').cells = mc' ∧ (rmk d' mc' ms').slots = ms' := ⟨by simp [rmk]; omega, by simp [rmk]; omega, rfl, rfl⟩
/-- a new shape -/
def nwS (s : qS) (k : Nat × Nat) : qS := (s.1 + 1, fun a => if a = s.1 + 2 then k else s.2.1 a, fun a j => if a = s.1 + 2 then 0 else s.2.2 a j)
def Zr (s : qS) (m : qI) : Prop := ∀ a k, s.1 + 2 ≤ a → m a k = 0
section Nw
variable {s : qS} {m : qI} {k : Nat × Nat} {a b x v : Nat} {i j : Int}
theorem hn_mk : hn (mkH s m) = s.1 := nrfl rfl
theorem newO_mk (h : Zr s m) : newO (mkH s m) k = mkH (nwS s k) m := by
  unfold newO mkH nwS
  refine Prod.ext rfl (Prod.ext rfl (Prod.ext ?_ rfl))
  funext a j
  show (if a = s.1 + 2 then 0 else Int32.ofInt (m a j)) = Int32.ofInt (m a j)
  split
  · rename_i e; rw [h a j (by omega)]; rfl
  · rfl
theorem nw_1 : (nwS s k).1 = s.1 + 1 := rfl
theorem kd_nw : kd (nwS s k) a = if a = s.1 + 2 then k else kd s a := rfl
theorem rf_nw : rf (nwS s k) a i = if a = s.1 + 2 then 0 else rf s a i := rfl
theorem kd_nws (h : a ≠ s.1 + 2) : kd (nwS s k) a = kd s a := by rw [kd_nw, if_neg h]
theorem kd_nwn : kd (nwS s k) (s.1 + 2) = k := by rw [kd_nw, if_pos rfl]
theorem up_1 : (upR s a i v).1 = s.1 := rfl
theorem Zr_nw (h : Zr s m) : Zr (nwS s k) m := fun a j ha => h a j (by rw [nw_1] at ha; omega)
theorem Zr_up (h : Zr s m) : Zr (upR s x i v) m := h
end Nw
theorem T_mk {l : Launch} {V : qV} {mi : qMI} {d mc ms k : Nat} {Q : Option Value → qH → Prop} {as : List Value} {h : qH} (hm : qms[k]? = some mi) (lv : List Value) (hlv : lv = as ++ List.replicate (mi.2.2.1 - as.length) (.retAddr 0)) (hta : as.all qtr = true) (hal : as.length ≤ mi.2.2.1)
    (w : G l V mi (rmk d mc ms) mc ms Q 0 0 0 lv [] h) : T l V mi (rmk d mc ms) mc ms as h Q := by
  subst hlv
  exact T_of hm hta hal (rmk_ok d mc ms) w
section Gk
variable {l : Launch} {V : qV} {mi : qMI} {mc ms nc ns : Nat} {Q : Option Value → qH → Prop} {cd : Nat → Option qE} {R : Room} {s : qS} {m : qI}
theorem I_nat {N : Nat} (h : N ≤ 100000) : (Int32.ofInt (N : Int)).toInt = N := Int32.toInt_ofInt_of_le (by omega) (by omega)
theorem G_ni (N : Nat) {nx a b : Nat} {vv : Int} {L : List (Int × Nat)} {w0 : Nat} {pc : Nat} {lv st : List Value} (hcd : cdok mi cd) (he : cd pc = some (47, nx, a, b, vv, L, w0)) (hz : Zr s m) (hb8 : N ≤ 100000) (hnc : nc + 1 ≤ R.cells) (hns : ns + N ≤ R.slots) (kk : G l V mi R mc ms Q (nc + 1) (ns + N) nx lv (.ref (s.1 + 2) :: st) (mkH (nwS s (100, N)) m)) : G l V mi R mc ms Q nc ns pc lv (.int (Int32.ofInt (N : Int)) :: st) (mkH s m) :=
  G_newi hcd he (by rw [I_nat hb8]; omega) (by rw [I_nat hb8]; omega) hb8 hnc hns (by rw [newO_mk hz]; exact kk)
theorem G_nb (N : Nat) {nx a b : Nat} {vv : Int} {L : List (Int × Nat)} {w0 : Nat} {pc : Nat} {lv st : List Value} (hcd : cdok mi cd) (he : cd pc = some (48, nx, a, b, vv, L, w0)) (hz : Zr s m) (hb8 : N ≤ 100000) (hnc : nc + 1 ≤ R.cells) (hns : ns + N ≤ R.slots) (kk : G l V mi R mc ms Q (nc + 1) (ns + N) nx lv (.ref (s.1 + 2) :: st) (mkH (nwS s (101, N)) m)) : G l V mi R mc ms Q nc ns pc lv (.int (Int32.ofInt (N : Int)) :: st) (mkH s m) :=
  G_newb hcd he (by rw [I_nat hb8]; omega) (by rw [I_nat hb8]; omega) hb8 hnc hns (by rw [newO_mk hz]; exact kk)
theorem G_nq (N t : Nat) {nx a b : Nat} {vv : Int} {L : List (Int × Nat)} {w0 : Nat} {pc : Nat} {lv st : List Value} (hcd : cdok mi cd) (he : cd pc = some (49, nx, a, b, vv, L, w0)) (hat : (a = 3 ∧ t = 2) ∨ (a = 2 ∧ t = 3) ∨ (a = 5 ∧ t = 4)) (hz : Zr s m) (hb8 : N ≤ 100000) (hnc : nc + 1 ≤ R.cells) (hns : ns + N ≤ R.slots) (kk : G l V mi R mc ms Q (nc + 1) (ns + N) nx lv (.ref (s.1 + 2) :: st) (mkH (nwS s (100 + t, N)) m)) : G l V mi R mc ms Q nc ns pc lv (.int (Int32.ofInt (N : Int)) :: st) (mkH s m) :=
  G_newq hcd he hat (by rw [I_nat hb8]; omega) (by rw [I_nat hb8]; omega) hb8 hnc hns (by rw [newO_mk hz]; exact kk)
theorem G_no (k : Nat) {nx a b : Nat} {vv : Int} {L : List (Int × Nat)} {w0 : Nat} {pc : Nat} {lv st : List Value} (hcd : cdok mi cd) (he : cd pc = some (46, nx, a, b, vv, L, w0)) (hk : qnf a = k) (hz : Zr s m) (hnc : nc + 1 ≤ R.cells) (hns : ns + k ≤ R.slots) (kk : G l V mi R mc ms Q (nc + 1) (ns + k) nx lv (.ref (s.1 + 2) :: st) (mkH (nwS s (a, 0)) m)) : G l V mi R mc ms Q nc ns pc lv st (mkH s m) := by
  subst hk
  exact G_new hcd he hnc hns (by rw [newO_mk hz]; exact kk)
end Gk
