/-! ===== worlds with a family behind them: the twenty past states ===== -/
abbrev krS : Type := Int32 × Int32 × Int32 × Int32 × Int32 × (Nat → Int32) × (Nat → Int32)
def krF3 (κ : Nat → ClassId) (sg1 sg2 sg3 : Nat → Nat) (ps : Nat → krS) (j : Nat) : va_W := [(sg1 j, .inr (5, [.int (ps j).1, .int (ps j).2.1, .int (ps j).2.2.1, .int (ps j).2.2.2.1, .int (ps j).2.2.2.2.1, .ref (sg2 j), .ref (sg3 j)])), (sg2 j, .inl (κ 0, 6, .inl (ps j).2.2.2.2.2.1)), (sg3 j, .inl (κ 0, 6, .inl (ps j).2.2.2.2.2.2))]
def krF (κ : Nat → ClassId) (sg1 sg2 sg3 : Nat → Nat) (ps : Nat → krS) : va_W := (List.range 20).flatMap (krF3 κ sg1 sg2 sg3 ps)
def krFr (κ : Nat → ClassId) (sg1 sg2 sg3 : Nat → Nat) (ps : Nat → krS) (j : Nat) : va_W := ((List.range 20).erase j).flatMap (krF3 κ sg1 sg2 sg3 ps)
theorem kr_Piff {D : va_G} {cl : List vw_C} {ws : va_W} {H : Heap} : va_P D cl ws H ↔ ∀ q ∈ ws, va_at D cl q H :=
  ⟨fun h q hq => by obtain ⟨i, hi⟩ := List.getElem?_of_mem hq; exact h i q hi, fun h k q hk => h q (List.mem_of_getElem? hk)⟩
theorem kr_Diff {A : Nat → Prop} {ws : va_W} : va_D A ws ↔ (ws.map Prod.fst).Nodup ∧ ∀ q ∈ ws, A q.1 := by
  constructor
  · intro h
    refine ⟨?_, fun q hq => by obtain ⟨i, hi⟩ := List.getElem?_of_mem hq; exact h.2 i q hi⟩
    refine List.pairwise_iff_getElem.mpr (fun i j hi hj hij e => ?_)
    rw [List.length_map] at hi hj
    rw [List.getElem_map, List.getElem_map] at e
    have := h.1 i j _ _ (List.getElem?_eq_getElem hi) (List.getElem?_eq_getElem hj) e
    omega
  · intro h
    refine ⟨fun i j p q hi hj e => ?_, fun k q hk => h.2 q (List.mem_of_getElem? hk)⟩
    obtain ⟨li, ei⟩ := List.getElem?_eq_some_iff.mp hi
    obtain ⟨lj, ej⟩ := List.getElem?_eq_some_iff.mp hj
    have hp := List.pairwise_iff_getElem.mp h.1
    rcases Nat.lt_trichotomy i j with z | z | z
    · have := hp i j (by rw [List.length_map]; exact li) (by rw [List.length_map]; exact lj) z
      rw [List.getElem_map, List.getElem_map, ei, ej] at this
      exact absurd e this
    · exact z
    · have := hp j i (by rw [List.length_map]; exact lj) (by rw [List.length_map]; exact li) z
      rw [List.getElem_map, List.getElem_map, ei, ej] at this
      exact absurd e.symm this
theorem kr_permP {D : va_G} {cl : List vw_C} {ws ws' : va_W} {H : Heap} (e : List.Perm ws ws') (h : va_P D cl ws H) : va_P D cl ws' H := kr_Piff.mpr (fun q hq => kr_Piff.mp h q (e.mem_iff.mpr hq))
theorem kr_permD {A : Nat → Prop} {ws ws' : va_W} (e : List.Perm ws ws') (h : va_D A ws) : va_D A ws' := by
  have h := kr_Diff.mp h
  exact kr_Diff.mpr ⟨((e.map Prod.fst).nodup_iff).mp h.1, fun q hq => h.2 q (e.mem_iff.mpr hq)⟩
theorem kr_ndiff : ∀ {l : List Nat}, va_nd l = true ↔ l.Nodup
  | [] => by simp [va_nd]
  | a :: l => by
    have ih := kr_ndiff (l := l)
    simp only [va_nd, Bool.and_eq_true, decide_eq_true_eq, List.nodup_cons]
    rw [ih]
theorem kr_ext {Wd Fm : va_W} : ∀ {is : List Nat} {C : va_W}, is.map (fun i => Wd[i]?) = C.map some → is.map (fun i => (Wd ++ Fm)[i]?) = C.map some ∧ ∀ i ∈ is, i < Wd.length
  | [], [], _ => ⟨rfl, fun _ h => absurd h List.not_mem_nil⟩
  | [], _ :: _, h => by simp at h
  | _ :: _, [], h => by simp at h
  | i :: is, x :: C, h => by
    rw [List.map_cons, List.map_cons] at h
    obtain ⟨h1, h2⟩ := List.cons.inj h
    obtain ⟨e1, e2⟩ := kr_ext h2
    have hl : i < Wd.length := (List.getElem?_eq_some_iff.mp h1).1
    refine ⟨?_, fun j hj => ?_⟩
    · rw [List.map_cons, List.map_cons, e1, List.getElem?_append_left hl, h1]
    · rcases List.mem_cons.mp hj with rfl | hj
      · exact hl
      · exact e2 j hj
abbrev kr_sh (Wd Fm : va_W) : List Nat := (List.range Fm.length).map (fun k => k + Wd.length)
theorem kr_shm {Wd Fm : va_W} : (kr_sh Wd Fm).map (fun i => (Wd ++ Fm)[i]?) = Fm.map some := by
  refine List.ext_getElem? (fun k => ?_)
  rw [List.getElem?_map, List.getElem?_map, List.getElem?_map]
  by_cases hk : k < Fm.length
  · rw [List.getElem?_range hk, List.getElem?_eq_getElem hk]
    show some ((Wd ++ Fm)[k + Wd.length]?) = some (some Fm[k])
    rw [List.getElem?_append_right (by omega), Nat.add_sub_cancel, List.getElem?_eq_getElem hk]
  · rw [List.getElem?_eq_none (by rw [List.length_range]; omega), List.getElem?_eq_none (l := Fm) (by omega)]
    rfl
theorem kr_shg {Wd Fm : va_W} {i : Nat} (h : i ∈ kr_sh Wd Fm) : Wd.length ≤ i := by
  obtain ⟨k, -, rfl⟩ := List.mem_map.mp h
  omega
theorem kr_shn {Wd Fm : va_W} : (kr_sh Wd Fm).Nodup := by
  refine List.pairwise_map.mpr (List.Pairwise.imp (fun h => ?_) List.nodup_range)
  omega
theorem kr_ndapp {Wd Fm : va_W} {is : List Nat} (hn : va_nd is = true) (hl : ∀ i ∈ is, i < Wd.length) : va_nd (is ++ kr_sh Wd Fm) = true :=
  kr_ndiff.mpr (List.nodup_append.mpr ⟨kr_ndiff.mp hn, kr_shn, fun a ha b hb e => by have := hl a ha; have := kr_shg hb; omega⟩)
theorem kr_mapapp {Wd Fm : va_W} {is : List Nat} {C : va_W} (h : is.map (fun i => Wd[i]?) = C.map some) : (is ++ kr_sh Wd Fm).map (fun i => (Wd ++ Fm)[i]?) = (C ++ Fm).map some := by
  rw [List.map_append, List.map_append, (kr_ext h).1, kr_shm]
theorem kr_Psp {D : va_G} {cl : List vw_C} {a b : va_W} {H : Heap} : va_P D cl (a ++ b) H ↔ va_P D cl a H ∧ va_P D cl b H :=
  ⟨fun h => ⟨kr_Piff.mpr fun q hq => kr_Piff.mp h q (List.mem_append_left _ hq), kr_Piff.mpr fun q hq => kr_Piff.mp h q (List.mem_append_right _ hq)⟩, fun h => h.1.app h.2⟩
theorem kr_subP {D : va_G} {cl : List vw_C} {ws ws' Fm : va_W} {H : Heap} (h : va_P D cl (ws ++ Fm) H) (is : List Nat) (hs : is.filterMap (fun i => ws[i]?) = ws') : va_P D cl (ws' ++ Fm) H := ((kr_Psp.mp h).1.sub is hs).app (kr_Psp.mp h).2
theorem kr_subD {A : Nat → Prop} {ws ws' Fm : va_W} (h : va_D A (ws ++ Fm)) (is : List Nat) (hn : va_nd is = true) (hs : is.map (fun i => ws[i]?) = ws'.map some) : va_D A (ws' ++ Fm) := h.sub (is ++ kr_sh ws Fm) (kr_ndapp hn (kr_ext (Fm := Fm) hs).2) (kr_mapapp hs)
theorem kr_mid (a b c : va_W) : List.Perm ((a ++ b) ++ c) ((a ++ c) ++ b) := by
  rw [List.append_assoc, List.append_assoc]
  exact List.Perm.append_left a List.perm_append_comm
theorem krF_foc (κ : Nat → ClassId) (sg1 sg2 sg3 : Nat → Nat) (ps : Nat → krS) {j : Nat} (hj : j < 20) : List.Perm (krF κ sg1 sg2 sg3 ps) (krF3 κ sg1 sg2 sg3 ps j ++ krFr κ sg1 sg2 sg3 ps j) := by
  have h := (List.perm_cons_erase (List.mem_range.mpr hj)).flatMap_right (krF3 κ sg1 sg2 sg3 ps)
  rw [List.flatMap_cons] at h
  exact h
theorem kr_fmc {α β : Type} {f g : α → List β} : ∀ {l : List α}, (∀ a ∈ l, f a = g a) → l.flatMap f = l.flatMap g
  | [], _ => rfl
  | a :: l, h => by rw [List.flatMap_cons, List.flatMap_cons, h a List.mem_cons_self, kr_fmc (fun b hb => h b (List.mem_cons_of_mem _ hb))]
theorem krFr_up (κ : Nat → ClassId) (sg1 sg2 sg3 : Nat → Nat) (ps : Nat → krS) (j : Nat) (v : krS) : krFr κ sg1 sg2 sg3 (va_up ps j v) j = krFr κ sg1 sg2 sg3 ps j := by
  refine kr_fmc (fun k hk => ?_)
  have hne : k ≠ j := fun e => by
    subst e
    exact (List.Nodup.not_mem_erase List.nodup_range) hk
  simp only [krF3, va_up_ne _ _ hne]
theorem kr_focP {D : va_G} {ws : va_W} {H : Heap} {κ : Nat → ClassId} {sg1 sg2 sg3 : Nat → Nat} {ps : Nat → krS} {j : Nat} (hj : j < 20) (h : va_P D vwCl (ws ++ krF κ sg1 sg2 sg3 ps) H) : va_P D vwCl ((ws ++ krF3 κ sg1 sg2 sg3 ps j) ++ krFr κ sg1 sg2 sg3 ps j) H := by
  rw [List.append_assoc]; exact kr_permP ((krF_foc κ sg1 sg2 sg3 ps hj).append_left ws) h
theorem kr_focD {A : Nat → Prop} {ws : va_W} {κ : Nat → ClassId} {sg1 sg2 sg3 : Nat → Nat} {ps : Nat → krS} {j : Nat} (hj : j < 20) (h : va_D A (ws ++ krF κ sg1 sg2 sg3 ps)) : va_D A ((ws ++ krF3 κ sg1 sg2 sg3 ps j) ++ krFr κ sg1 sg2 sg3 ps j) := by
  rw [List.append_assoc]; exact kr_permD ((krF_foc κ sg1 sg2 sg3 ps hj).append_left ws) h
theorem kr_bacP {D : va_G} {ws : va_W} {H : Heap} {κ : Nat → ClassId} {sg1 sg2 sg3 : Nat → Nat} {ps : Nat → krS} {j : Nat} (hj : j < 20) (h : va_P D vwCl ((ws ++ krF3 κ sg1 sg2 sg3 ps j) ++ krFr κ sg1 sg2 sg3 ps j) H) : va_P D vwCl (ws ++ krF κ sg1 sg2 sg3 ps) H := by
  rw [List.append_assoc] at h; exact kr_permP ((krF_foc κ sg1 sg2 sg3 ps hj).append_left ws).symm h
theorem kr_bacD {A : Nat → Prop} {ws : va_W} {κ : Nat → ClassId} {sg1 sg2 sg3 : Nat → Nat} {ps : Nat → krS} {j : Nat} (hj : j < 20) (h : va_D A ((ws ++ krF3 κ sg1 sg2 sg3 ps j) ++ krFr κ sg1 sg2 sg3 ps j)) : va_D A (ws ++ krF κ sg1 sg2 sg3 ps) := by
  rw [List.append_assoc] at h; exact kr_permD ((krF_foc κ sg1 sg2 sg3 ps hj).append_left ws).symm h
/-- the j-th triple with new contents -/
def krT3 (κ : Nat → ClassId) (a g r : Nat) (v : krS) : va_W := [(a, .inr (5, [.int v.1, .int v.2.1, .int v.2.2.1, .int v.2.2.2.1, .int v.2.2.2.2.1, .ref g, .ref r])), (g, .inl (κ 0, 6, .inl v.2.2.2.2.2.1)), (r, .inl (κ 0, 6, .inl v.2.2.2.2.2.2))]
theorem krF3_up (κ : Nat → ClassId) (sg1 sg2 sg3 : Nat → Nat) (ps : Nat → krS) (j : Nat) (v : krS) : krF3 κ sg1 sg2 sg3 (va_up ps j v) j = krT3 κ (sg1 j) (sg2 j) (sg3 j) v := by
  simp only [krF3, krT3, va_up_self]
theorem kr_upP {D : va_G} {ws : va_W} {H : Heap} {κ : Nat → ClassId} {sg1 sg2 sg3 : Nat → Nat} {ps : Nat → krS} {j : Nat} {v : krS} (hj : j < 20) (h : va_P D vwCl ((ws ++ krT3 κ (sg1 j) (sg2 j) (sg3 j) v) ++ krFr κ sg1 sg2 sg3 ps j) H) : va_P D vwCl (ws ++ krF κ sg1 sg2 sg3 (va_up ps j v)) H := by
  rw [← krF3_up κ sg1 sg2 sg3 ps j v, ← krFr_up κ sg1 sg2 sg3 ps j v] at h; exact kr_bacP hj h
theorem kr_upD {A : Nat → Prop} {ws : va_W} {κ : Nat → ClassId} {sg1 sg2 sg3 : Nat → Nat} {ps : Nat → krS} {j : Nat} {v : krS} (hj : j < 20) (h : va_D A ((ws ++ krT3 κ (sg1 j) (sg2 j) (sg3 j) v) ++ krFr κ sg1 sg2 sg3 ps j)) : va_D A (ws ++ krF κ sg1 sg2 sg3 (va_up ps j v)) := by
  rw [← krF3_up κ sg1 sg2 sg3 ps j v, ← krFr_up κ sg1 sg2 sg3 ps j v] at h; exact kr_bacD hj h
section KRfam
variable {p : Program} {l : Launch} {e : Env} {R : Room} {s : State} {m : MethodId} {args : Array Value} {below : List Frame} {meth : Method} {c : Code} {H H0 : Heap} {locs : List Loc} {cells slots : Nat} {Q : State → Prop}
  {y : MethodName} {bytes cc : ByteArray} {maxL nL mc ms n index pc : Nat} {ret : Option FieldType} {ws : List Cond} {rm : Room} {Ts : List Cond} {own host Cn : String} {b : Addr} {As rest st0 as : List Value} {ls : Array Slot} {D : va_G} {κ : Nat → ClassId} {C C' Wd wr Fm Fm' : va_W} {A0 : Nat → Prop} {a : Array Value}
theorem krI_V_R {r0 : Int32} (F : CallFix p m c cc nL s args Ts own) (hK : krK D κ s) (hM : krI l y ws rm D κ (.ref b :: As) C C' r0) (cw : CallW R s args own Cn index y bytes maxL ret ws rm 0 0 n) {ci : Nat} {fs : List Value} {q : vw_C} (he : C[0]? = some (b, .inr (ci, fs))) (hci : vwCl[ci]? = some q) (hq : q.1 = Cn) (hP : va_P D vwCl (Wd ++ Fm) H) (hD : va_D A0 (Wd ++ Fm)) (hS : va_S A0 H0 H locs) (hA : ∀ q, H0.size ≤ q → A0 q) (isC isR : List Nat) (hC : isC.map (fun i => Wd[i]?) = C.map some) (hR : isR.map (fun i => Wd[i]?) = wr.map some) (hnC : va_nd isC = true) (hnR : va_nd isR = true) (hdis : ∀ i ∈ isR, i ∉ isC) (hn : As.length = n) (hls : ls.size = nL) (hst : st0 = As.reverse ++ .ref b :: rest) (hroom : (rest.map fun v => v.category).sum ≤ 8) (hdg : decode cc pc = .ok (.invokevirtual index, 3)) (hcs : cells ≤ R.cells ∧ slots ≤ R.slots)
    (kk : ∀ (H : Heap) (locs : List Loc), va_P D vwCl ((wr ++ C') ++ Fm) H → va_D A0 ((wr ++ C') ++ Fm) → va_S A0 H0 H locs → W p l e R s m args below meth c H locs cells slots Q (F0 m (pc + 3) ls (.int r0 :: rest))) : W p l e R s m args below meth c H locs cells slots Q (F0 m pc ls st0) :=
  krI_V F hK hM cw he hci hq hP hD hS hA isC (isR ++ kr_sh Wd Fm) (wr := wr ++ Fm) (kr_ext hC).1 (kr_mapapp hR) hnC (kr_ndapp hnR (kr_ext (Fm := Fm) hR).2) (fun i hi hc => (List.mem_append.mp hi).elim (fun h => hdis i h hc) (fun h => by have := kr_shg h; have := (kr_ext (Fm := Fm) hC).2 i hc; omega)) hn hls hst hroom hdg hcs
    (fun H locs hP hD hS => kk H locs (kr_permP (kr_mid wr Fm C') hP) (kr_permD (kr_mid wr Fm C') hD) hS)
theorem krI_V_F {r0 : Int32} (F : CallFix p m c cc nL s args Ts own) (hK : krK D κ s) (hM : krI l y ws rm D κ (.ref b :: As) (C ++ Fm) (C' ++ Fm') r0) (cw : CallW R s args own Cn index y bytes maxL ret ws rm 0 0 n) {ci : Nat} {fs : List Value} {q : vw_C} (he : C[0]? = some (b, .inr (ci, fs))) (hci : vwCl[ci]? = some q) (hq : q.1 = Cn) (hP : va_P D vwCl (Wd ++ Fm) H) (hD : va_D A0 (Wd ++ Fm)) (hS : va_S A0 H0 H locs) (hA : ∀ q, H0.size ≤ q → A0 q) (isC isR : List Nat) (hC : isC.map (fun i => Wd[i]?) = C.map some) (hR : isR.map (fun i => Wd[i]?) = wr.map some) (hnC : va_nd isC = true) (hnR : va_nd isR = true) (hdis : ∀ i ∈ isR, i ∉ isC) (hn : As.length = n) (hls : ls.size = nL) (hst : st0 = As.reverse ++ .ref b :: rest) (hroom : (rest.map fun v => v.category).sum ≤ 8) (hdg : decode cc pc = .ok (.invokevirtual index, 3)) (hcs : cells ≤ R.cells ∧ slots ≤ R.slots)
    (kk : ∀ (H : Heap) (locs : List Loc), va_P D vwCl ((wr ++ C') ++ Fm') H → va_D A0 ((wr ++ C') ++ Fm') → va_S A0 H0 H locs → W p l e R s m args below meth c H locs cells slots Q (F0 m (pc + 3) ls (.int r0 :: rest))) : W p l e R s m args below meth c H locs cells slots Q (F0 m pc ls st0) := by
  have he2 : (C ++ Fm)[0]? = some (b, .inr (ci, fs)) := by rw [List.getElem?_append_left (List.getElem?_eq_some_iff.mp he).1]; exact he
  refine krI_V F hK hM cw he2 hci hq hP hD hS hA (isC ++ kr_sh Wd Fm) isR (kr_mapapp hC) (kr_ext hR).1 (kr_ndapp hnC (kr_ext (Fm := Fm) hC).2) hnR (fun i hi hc => (List.mem_append.mp hc).elim (fun h => hdis i hi h) (fun h => by have := kr_shg h; have := (kr_ext (Fm := Fm) hR).2 i hi; omega)) hn hls hst hroom hdg hcs
    (fun H locs hP hD hS => kk H locs ?_ ?_ hS)
  · rw [List.append_assoc]; exact hP
  · rw [List.append_assoc]; exact hD
theorem krI_VN_R {r0 : Int32} (F : CallFix p m c cc nL s args Ts own) (hK : krK D κ s) (hM : krI l y ws rm D κ (.ref b :: As) C C' r0) (cw : va_CN R s args own index y host bytes maxL ret ws rm 0 0 n ∧ (Cond.instanceMethod y).before args s = true ∧ (Cond.selects Cn y y).before args s = true) {ci : Nat} {fs : List Value} {q : vw_C} (he : C[0]? = some (b, .inr (ci, fs))) (hci : vwCl[ci]? = some q) (hq : q.1 = Cn) (hP : va_P D vwCl (Wd ++ Fm) H) (hD : va_D A0 (Wd ++ Fm)) (hS : va_S A0 H0 H locs) (hA : ∀ q, H0.size ≤ q → A0 q) (isC isR : List Nat) (hC : isC.map (fun i => Wd[i]?) = C.map some) (hR : isR.map (fun i => Wd[i]?) = wr.map some) (hnC : va_nd isC = true) (hnR : va_nd isR = true) (hdis : ∀ i ∈ isR, i ∉ isC) (hn : As.length = n) (hls : ls.size = nL) (hst : st0 = As.reverse ++ .ref b :: rest) (hroom : (rest.map fun v => v.category).sum ≤ 8) (hdg : decode cc pc = .ok (.invokevirtual index, 3)) (hcs : cells ≤ R.cells ∧ slots ≤ R.slots)
    (kk : ∀ (H : Heap) (locs : List Loc), va_P D vwCl ((wr ++ C') ++ Fm) H → va_D A0 ((wr ++ C') ++ Fm) → va_S A0 H0 H locs → W p l e R s m args below meth c H locs cells slots Q (F0 m (pc + 3) ls (.int r0 :: rest))) : W p l e R s m args below meth c H locs cells slots Q (F0 m pc ls st0) :=
  krI_VN F hK hM cw he hci hq hP hD hS hA isC (isR ++ kr_sh Wd Fm) (wr := wr ++ Fm) (kr_ext hC).1 (kr_mapapp hR) hnC (kr_ndapp hnR (kr_ext (Fm := Fm) hR).2) (fun i hi hc => (List.mem_append.mp hi).elim (fun h => hdis i h hc) (fun h => by have := kr_shg h; have := (kr_ext (Fm := Fm) hC).2 i hc; omega)) hn hls hst hroom hdg hcs
    (fun H locs hP hD hS => kk H locs (kr_permP (kr_mid wr Fm C') hP) (kr_permD (kr_mid wr Fm C') hD) hS)
theorem krI_VN_F {r0 : Int32} (F : CallFix p m c cc nL s args Ts own) (hK : krK D κ s) (hM : krI l y ws rm D κ (.ref b :: As) (C ++ Fm) (C' ++ Fm') r0) (cw : va_CN R s args own index y host bytes maxL ret ws rm 0 0 n ∧ (Cond.instanceMethod y).before args s = true ∧ (Cond.selects Cn y y).before args s = true) {ci : Nat} {fs : List Value} {q : vw_C} (he : C[0]? = some (b, .inr (ci, fs))) (hci : vwCl[ci]? = some q) (hq : q.1 = Cn) (hP : va_P D vwCl (Wd ++ Fm) H) (hD : va_D A0 (Wd ++ Fm)) (hS : va_S A0 H0 H locs) (hA : ∀ q, H0.size ≤ q → A0 q) (isC isR : List Nat) (hC : isC.map (fun i => Wd[i]?) = C.map some) (hR : isR.map (fun i => Wd[i]?) = wr.map some) (hnC : va_nd isC = true) (hnR : va_nd isR = true) (hdis : ∀ i ∈ isR, i ∉ isC) (hn : As.length = n) (hls : ls.size = nL) (hst : st0 = As.reverse ++ .ref b :: rest) (hroom : (rest.map fun v => v.category).sum ≤ 8) (hdg : decode cc pc = .ok (.invokevirtual index, 3)) (hcs : cells ≤ R.cells ∧ slots ≤ R.slots)
    (kk : ∀ (H : Heap) (locs : List Loc), va_P D vwCl ((wr ++ C') ++ Fm') H → va_D A0 ((wr ++ C') ++ Fm') → va_S A0 H0 H locs → W p l e R s m args below meth c H locs cells slots Q (F0 m (pc + 3) ls (.int r0 :: rest))) : W p l e R s m args below meth c H locs cells slots Q (F0 m pc ls st0) := by
  have he2 : (C ++ Fm)[0]? = some (b, .inr (ci, fs)) := by rw [List.getElem?_append_left (List.getElem?_eq_some_iff.mp he).1]; exact he
  refine krI_VN F hK hM cw he2 hci hq hP hD hS hA (isC ++ kr_sh Wd Fm) isR (kr_mapapp hC) (kr_ext hR).1 (kr_ndapp hnC (kr_ext (Fm := Fm) hC).2) hnR (fun i hi hc => (List.mem_append.mp hc).elim (fun h => hdis i hi h) (fun h => by have := kr_shg h; have := (kr_ext (Fm := Fm) hR).2 i hi; omega)) hn hls hst hroom hdg hcs
    (fun H locs hP hD hS => kk H locs ?_ ?_ hS)
  · rw [List.append_assoc]; exact hP
  · rw [List.append_assoc]; exact hD
theorem krV_V_R (F : CallFix p m c cc nL s args Ts own) (hK : krK D κ s) (hM : krV l y ws rm D κ (.ref b :: As) C C') (cw : CallW R s args own Cn index y bytes maxL ret ws rm 0 0 n) {ci : Nat} {fs : List Value} {q : vw_C} (he : C[0]? = some (b, .inr (ci, fs))) (hci : vwCl[ci]? = some q) (hq : q.1 = Cn) (hP : va_P D vwCl (Wd ++ Fm) H) (hD : va_D A0 (Wd ++ Fm)) (hS : va_S A0 H0 H locs) (hA : ∀ q, H0.size ≤ q → A0 q) (isC isR : List Nat) (hC : isC.map (fun i => Wd[i]?) = C.map some) (hR : isR.map (fun i => Wd[i]?) = wr.map some) (hnC : va_nd isC = true) (hnR : va_nd isR = true) (hdis : ∀ i ∈ isR, i ∉ isC) (hn : As.length = n) (hls : ls.size = nL) (hst : st0 = As.reverse ++ .ref b :: rest) (hroom : (rest.map fun v => v.category).sum ≤ 8) (hdg : decode cc pc = .ok (.invokevirtual index, 3)) (hcs : cells ≤ R.cells ∧ slots ≤ R.slots)
    (kk : ∀ (H : Heap) (locs : List Loc), va_P D vwCl ((wr ++ C') ++ Fm) H → va_D A0 ((wr ++ C') ++ Fm) → va_S A0 H0 H locs → W p l e R s m args below meth c H locs cells slots Q (F0 m (pc + 3) ls rest)) : W p l e R s m args below meth c H locs cells slots Q (F0 m pc ls st0) :=
  krV_V F hK hM cw he hci hq hP hD hS hA isC (isR ++ kr_sh Wd Fm) (wr := wr ++ Fm) (kr_ext hC).1 (kr_mapapp hR) hnC (kr_ndapp hnR (kr_ext (Fm := Fm) hR).2) (fun i hi hc => (List.mem_append.mp hi).elim (fun h => hdis i h hc) (fun h => by have := kr_shg h; have := (kr_ext (Fm := Fm) hC).2 i hc; omega)) hn hls hst hroom hdg hcs
    (fun H locs hP hD hS => kk H locs (kr_permP (kr_mid wr Fm C') hP) (kr_permD (kr_mid wr Fm C') hD) hS)
theorem krV_V_F (F : CallFix p m c cc nL s args Ts own) (hK : krK D κ s) (hM : krV l y ws rm D κ (.ref b :: As) (C ++ Fm) (C' ++ Fm')) (cw : CallW R s args own Cn index y bytes maxL ret ws rm 0 0 n) {ci : Nat} {fs : List Value} {q : vw_C} (he : C[0]? = some (b, .inr (ci, fs))) (hci : vwCl[ci]? = some q) (hq : q.1 = Cn) (hP : va_P D vwCl (Wd ++ Fm) H) (hD : va_D A0 (Wd ++ Fm)) (hS : va_S A0 H0 H locs) (hA : ∀ q, H0.size ≤ q → A0 q) (isC isR : List Nat) (hC : isC.map (fun i => Wd[i]?) = C.map some) (hR : isR.map (fun i => Wd[i]?) = wr.map some) (hnC : va_nd isC = true) (hnR : va_nd isR = true) (hdis : ∀ i ∈ isR, i ∉ isC) (hn : As.length = n) (hls : ls.size = nL) (hst : st0 = As.reverse ++ .ref b :: rest) (hroom : (rest.map fun v => v.category).sum ≤ 8) (hdg : decode cc pc = .ok (.invokevirtual index, 3)) (hcs : cells ≤ R.cells ∧ slots ≤ R.slots)
    (kk : ∀ (H : Heap) (locs : List Loc), va_P D vwCl ((wr ++ C') ++ Fm') H → va_D A0 ((wr ++ C') ++ Fm') → va_S A0 H0 H locs → W p l e R s m args below meth c H locs cells slots Q (F0 m (pc + 3) ls rest)) : W p l e R s m args below meth c H locs cells slots Q (F0 m pc ls st0) := by
  have he2 : (C ++ Fm)[0]? = some (b, .inr (ci, fs)) := by rw [List.getElem?_append_left (List.getElem?_eq_some_iff.mp he).1]; exact he
  refine krV_V F hK hM cw he2 hci hq hP hD hS hA (isC ++ kr_sh Wd Fm) isR (kr_mapapp hC) (kr_ext hR).1 (kr_ndapp hnC (kr_ext (Fm := Fm) hC).2) hnR (fun i hi hc => (List.mem_append.mp hc).elim (fun h => hdis i hi h) (fun h => by have := kr_shg h; have := (kr_ext (Fm := Fm) hR).2 i hi; omega)) hn hls hst hroom hdg hcs
    (fun H locs hP hD hS => kk H locs ?_ ?_ hS)
  · rw [List.append_assoc]; exact hP
  · rw [List.append_assoc]; exact hD
theorem krV_VN_R (F : CallFix p m c cc nL s args Ts own) (hK : krK D κ s) (hM : krV l y ws rm D κ (.ref b :: As) C C') (cw : va_CN R s args own index y host bytes maxL ret ws rm 0 0 n ∧ (Cond.instanceMethod y).before args s = true ∧ (Cond.selects Cn y y).before args s = true) {ci : Nat} {fs : List Value} {q : vw_C} (he : C[0]? = some (b, .inr (ci, fs))) (hci : vwCl[ci]? = some q) (hq : q.1 = Cn) (hP : va_P D vwCl (Wd ++ Fm) H) (hD : va_D A0 (Wd ++ Fm)) (hS : va_S A0 H0 H locs) (hA : ∀ q, H0.size ≤ q → A0 q) (isC isR : List Nat) (hC : isC.map (fun i => Wd[i]?) = C.map some) (hR : isR.map (fun i => Wd[i]?) = wr.map some) (hnC : va_nd isC = true) (hnR : va_nd isR = true) (hdis : ∀ i ∈ isR, i ∉ isC) (hn : As.length = n) (hls : ls.size = nL) (hst : st0 = As.reverse ++ .ref b :: rest) (hroom : (rest.map fun v => v.category).sum ≤ 8) (hdg : decode cc pc = .ok (.invokevirtual index, 3)) (hcs : cells ≤ R.cells ∧ slots ≤ R.slots)
    (kk : ∀ (H : Heap) (locs : List Loc), va_P D vwCl ((wr ++ C') ++ Fm) H → va_D A0 ((wr ++ C') ++ Fm) → va_S A0 H0 H locs → W p l e R s m args below meth c H locs cells slots Q (F0 m (pc + 3) ls rest)) : W p l e R s m args below meth c H locs cells slots Q (F0 m pc ls st0) :=
  krV_VN F hK hM cw he hci hq hP hD hS hA isC (isR ++ kr_sh Wd Fm) (wr := wr ++ Fm) (kr_ext hC).1 (kr_mapapp hR) hnC (kr_ndapp hnR (kr_ext (Fm := Fm) hR).2) (fun i hi hc => (List.mem_append.mp hi).elim (fun h => hdis i h hc) (fun h => by have := kr_shg h; have := (kr_ext (Fm := Fm) hC).2 i hc; omega)) hn hls hst hroom hdg hcs
    (fun H locs hP hD hS => kk H locs (kr_permP (kr_mid wr Fm C') hP) (kr_permD (kr_mid wr Fm C') hD) hS)
theorem krV_VN_F (F : CallFix p m c cc nL s args Ts own) (hK : krK D κ s) (hM : krV l y ws rm D κ (.ref b :: As) (C ++ Fm) (C' ++ Fm')) (cw : va_CN R s args own index y host bytes maxL ret ws rm 0 0 n ∧ (Cond.instanceMethod y).before args s = true ∧ (Cond.selects Cn y y).before args s = true) {ci : Nat} {fs : List Value} {q : vw_C} (he : C[0]? = some (b, .inr (ci, fs))) (hci : vwCl[ci]? = some q) (hq : q.1 = Cn) (hP : va_P D vwCl (Wd ++ Fm) H) (hD : va_D A0 (Wd ++ Fm)) (hS : va_S A0 H0 H locs) (hA : ∀ q, H0.size ≤ q → A0 q) (isC isR : List Nat) (hC : isC.map (fun i => Wd[i]?) = C.map some) (hR : isR.map (fun i => Wd[i]?) = wr.map some) (hnC : va_nd isC = true) (hnR : va_nd isR = true) (hdis : ∀ i ∈ isR, i ∉ isC) (hn : As.length = n) (hls : ls.size = nL) (hst : st0 = As.reverse ++ .ref b :: rest) (hroom : (rest.map fun v => v.category).sum ≤ 8) (hdg : decode cc pc = .ok (.invokevirtual index, 3)) (hcs : cells ≤ R.cells ∧ slots ≤ R.slots)
    (kk : ∀ (H : Heap) (locs : List Loc), va_P D vwCl ((wr ++ C') ++ Fm') H → va_D A0 ((wr ++ C') ++ Fm') → va_S A0 H0 H locs → W p l e R s m args below meth c H locs cells slots Q (F0 m (pc + 3) ls rest)) : W p l e R s m args below meth c H locs cells slots Q (F0 m pc ls st0) := by
  have he2 : (C ++ Fm)[0]? = some (b, .inr (ci, fs)) := by rw [List.getElem?_append_left (List.getElem?_eq_some_iff.mp he).1]; exact he
  refine krV_VN F hK hM cw he2 hci hq hP hD hS hA (isC ++ kr_sh Wd Fm) isR (kr_mapapp hC) (kr_ext hR).1 (kr_ndapp hnC (kr_ext (Fm := Fm) hC).2) hnR (fun i hi hc => (List.mem_append.mp hc).elim (fun h => hdis i hi h) (fun h => by have := kr_shg h; have := (kr_ext (Fm := Fm) hR).2 i hi; omega)) hn hls hst hroom hdg hcs
    (fun H locs hP hD hS => kk H locs ?_ ?_ hS)
  · rw [List.append_assoc]; exact hP
  · rw [List.append_assoc]; exact hD
end KRfam
/-- a method's own words, for its call of itself -/
theorem kr_cwself {R : Room} {s : State} {args : Array Value} {own : String} {index : Nat} {y : MethodName} {bytes : ByteArray} {maxL : Nat} {ret : Option FieldType} {Ts ws' : List Cond} {rm : Room} (n : Nat) (ht : ∀ w ∈ Ts, w.before args s = true) (hG : GoodIn Ts Ts) (hw : Ts = Cond.code y bytes maxL ret :: ws') (hrc : rm.cells = 0) (hrs : rm.slots = 0) (hini : (Cond.initialized y.cls).before args s = true) (hl : (Cond.methodLink own index y).before args s = true) (hin : (Cond.instanceMethod y).before args s = true) (hse : (Cond.selects y.cls y y).before args s = true)
    (hd : y.cls ≠ "java/lang/invoke/MethodHandle" ∧ y.cls ≠ "java/lang/invoke/VarHandle" ∧ (parseMethodDescriptor y.desc).map (fun d => d.parameters.length) = some n) (hR : rm.frames + 1 ≤ R.frames ∧ 8 + (maxL + 11) + rm.locals ≤ R.locals) : CallW R s args own y.cls index y bytes maxL ret Ts rm 0 0 n :=
  ⟨callB_of n ht hG hw hrc hrs hini hl hd hR, hin, hse⟩
