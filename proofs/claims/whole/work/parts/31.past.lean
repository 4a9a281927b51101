section KRpast
variable {p : Program} {l : Launch} {e : Env} {R : Room} {s : State} {m : MethodId} {args : Array Value} {below : List Frame} {meth : Method} {c : Code} {H H0 : Heap} {locs : List Loc} {cells slots : Nat} {Q : State → Prop}
  {y : MethodName} {bytes cc : ByteArray} {maxL nL mc ms n index pc : Nat} {ret : Option FieldType} {ws : List Cond} {rm : Room} {Ts : List Cond} {own host Cn : String} {b : Addr} {As rest st0 as : List Value} {ls : Array Slot} {D : va_G} {κ : Nat → ClassId} {C C' Wd wr Fm Fm' : va_W} {A0 : Nat → Prop} {a : Array Value}
theorem krN_IN_R {C'' : (Nat → Nat) → va_W} (F : CallFix p m c cc nL s args Ts own) (hK : krK D κ s) (hM : krN l y ws rm D κ (.ref b :: As) C C'' mc ms) (cw : va_CN R s args own index y host bytes maxL none ws rm mc ms n ∧ y.name = "<init>" ∧ (Cond.instanceMethod y).before args s = true) (hP : va_P D vwCl (Wd ++ Fm) H) (hD : va_D A0 (Wd ++ Fm)) (hS : va_S A0 H0 H locs) (hA : ∀ q, H0.size ≤ q → A0 q) (isC isR : List Nat) (hC : isC.map (fun i => Wd[i]?) = C.map some) (hR : isR.map (fun i => Wd[i]?) = wr.map some) (hnC : va_nd isC = true) (hnR : va_nd isR = true) (hdis : ∀ i ∈ isR, i ∉ isC) (hn : As.length = n) (hls : ls.size = nL) (hst : st0 = As.reverse ++ .ref b :: rest) (hroom : (rest.map fun v => v.category).sum ≤ 8) (hdg : decode cc pc = .ok (.invokespecial index, 3)) (hcs : cells + mc ≤ R.cells ∧ slots + ms ≤ R.slots)
    (kk : ∀ (u : Nat → Nat) (H : Heap) (locs : List Loc), va_P D vwCl ((wr ++ C'' u) ++ Fm) H → va_D A0 ((wr ++ C'' u) ++ Fm) → va_S A0 H0 H locs → W p l e R s m args below meth c H locs (cells + mc) (slots + ms) Q (F0 m (pc + 3) ls rest)) : W p l e R s m args below meth c H locs cells slots Q (F0 m pc ls st0) :=
  krN_IN F hK hM cw hP hD hS hA isC (isR ++ kr_sh Wd Fm) (wr := wr ++ Fm) (kr_ext hC).1 (kr_mapapp hR) hnC (kr_ndapp hnR (kr_ext (Fm := Fm) hR).2) (fun i hi hc => (List.mem_append.mp hi).elim (fun h => hdis i h hc) (fun h => by have := kr_shg h; have := (kr_ext (Fm := Fm) hC).2 i hc; omega)) hn hls hst hroom hdg hcs
    (fun u H locs hP hD hS => kk u H locs (kr_permP (kr_mid wr Fm (C'' u)) hP) (kr_permD (kr_mid wr Fm (C'' u)) hD) hS)
end KRpast
theorem kr_cq {D : va_G} {cl : List vw_C} {a n : Nat} {cA : ClassId} {f g : Nat → Option Nat} {H : Heap} (h : ∀ k, k < n → f k = g k) (hP : va_at D cl (a, .inl (cA, n, .inr (.inr (.inr (.inr f))))) H) : va_at D cl (a, .inl (cA, n, .inr (.inr (.inr (.inr g))))) H := by
  have e : (fun j : Fin n => va_rf (f j.val)) = fun j : Fin n => va_rf (g j.val) := funext fun j => by rw [h j.val j.isLt]
  have e2 : arrV cA n (fun j => va_rf (f j)) = arrV cA n (fun j => va_rf (g j)) := by
    show ({ cls := cA, slots := Array.ofFn (n := n) fun j => va_rf (f j.val), vm := .none } : Cell) = { cls := cA, slots := Array.ofFn (n := n) fun j => va_rf (g j.val), vm := .none }
    rw [e]
  show H[a]? = some (arrV cA n (fun j => va_rf (g j)))
  rw [← e2]
  exact hP
def krFL (κ : Nat → ClassId) (L : List (Nat × Nat × Nat)) : va_W := L.flatMap (fun t => krT3 κ t.1 t.2.1 t.2.2 krS0)
theorem krFL_push (κ : Nat → ClassId) (L : List (Nat × Nat × Nat)) (t : Nat × Nat × Nat) : krFL κ (L ++ [t]) = krFL κ L ++ krT3 κ t.1 t.2.1 t.2.2 krS0 := by
  simp [krFL]
theorem kr_fmr {α β : Type} (f : α → List β) (d : α) (L : List α) : L.flatMap f = (List.range L.length).flatMap (fun k => f (L.getD k d)) := by
  show (L.map f).flatten = ((List.range L.length).map (fun k => f (L.getD k d))).flatten
  congr 1
  refine List.ext_getElem? (fun k => ?_)
  rw [List.getElem?_map, List.getElem?_map]
  by_cases hk : k < L.length
  · rw [List.getElem?_range hk, List.getElem?_eq_getElem hk]
    simp [List.getD, List.getElem?_eq_getElem hk]
  · rw [List.getElem?_eq_none (by omega), List.getElem?_eq_none (l := List.range L.length) (by rw [List.length_range]; omega)]
    rfl
theorem kr_refsPush (L : List (Nat × Nat × Nat)) (t : Nat × Nat × Nat) : va_up (fun k => (L[k]?).map Prod.fst) L.length (some t.1) = fun k => ((L ++ [t])[k]?).map Prod.fst := by
  funext k
  rcases Nat.lt_trichotomy k L.length with h | h | h
  · rw [va_up_ne _ _ (by omega), List.getElem?_append_left h]
  · subst h
    rw [va_up_self, List.getElem?_append_right (Nat.le_refl _)]
    simp
  · rw [va_up_ne _ _ (by omega), List.getElem?_eq_none (by omega), List.getElem?_eq_none (by simp; omega)]
def krU (sa : Nat) (L : List (Nat × Nat × Nat)) : Nat → Nat := fun i => if i = 0 then sa else if (i - 1) % 3 = 0 then (L.getD ((i - 1) / 3) (0, 0, 0)).1 else if (i - 1) % 3 = 1 then (L.getD ((i - 1) / 3) (0, 0, 0)).2.1 else (L.getD ((i - 1) / 3) (0, 0, 0)).2.2
theorem krU_1 (sa : Nat) (L : List (Nat × Nat × Nat)) (k : Nat) : krU sa L (1 + 3 * k) = (L.getD k (0, 0, 0)).1 := by
  have h1 : (1 + 3 * k - 1) % 3 = 0 := by omega
  have h2 : (1 + 3 * k - 1) / 3 = k := by omega
  simp only [krU]
  rw [if_neg (by omega), if_pos h1, h2]
theorem krU_2 (sa : Nat) (L : List (Nat × Nat × Nat)) (k : Nat) : krU sa L (2 + 3 * k) = (L.getD k (0, 0, 0)).2.1 := by
  have h1 : (2 + 3 * k - 1) % 3 = 1 := by omega
  have h2 : (2 + 3 * k - 1) / 3 = k := by omega
  simp only [krU]
  rw [if_neg (by omega), if_neg (by omega), if_pos h1, h2]
theorem krU_3 (sa : Nat) (L : List (Nat × Nat × Nat)) (k : Nat) : krU sa L (3 + 3 * k) = (L.getD k (0, 0, 0)).2.2 := by
  have h1 : (3 + 3 * k - 1) % 3 = 2 := by omega
  have h2 : (3 + 3 * k - 1) / 3 = k := by omega
  simp only [krU]
  rw [if_neg (by omega), if_neg (by omega), if_neg (by omega), h2]
theorem krFL_F (κ : Nat → ClassId) (sa : Nat) (L : List (Nat × Nat × Nat)) (hL : L.length = 20) : krFL κ L = krF κ (fun k => krU sa L (1 + 3 * k)) (fun k => krU sa L (2 + 3 * k)) (fun k => krU sa L (3 + 3 * k)) (fun _ => krS0) := by
  unfold krFL krF
  rw [kr_fmr _ (0, 0, 0) L, hL]
  refine kr_fmc (fun k _ => ?_)
  simp only [krF3, krT3, krU_1, krU_2, krU_3]
set_option maxHeartbeats 8000000 in
set_option maxRecDepth 100000 in
theorem tX2_init (l : Launch) (D : va_G) (κ : Nat → ClassId) (pao : Nat) : krN l yX2_init wsX2_init { frames := 2, cells := 61, slots := 400, locals := 200 } D κ [.ref pao] ([(pao, .inr (2, [.null, .int 0, .int 0]))]) (fun u => [(pao, .inr (2, [.ref (u 0), .int 0, .int 0])), ((u 0), .inl (κ 3, 20, .inr (.inr (.inr (.inr (fun k => some (u (1 + 3 * k))))))))] ++ krF κ (fun k => u (1 + 3 * k)) (fun k => u (2 + 3 * k)) (fun k => u (3 + 3 * k)) (fun _ => krS0)) 61 400 := by
  refine krN_of (cc := cX2_init) (maxL := 2) (by decide) rfl (Nat.le_of_ble_eq_true rfl) ?_
  intro p e s m args below meth c A Q ls hx hb hml hown hts hK hA hin hret hP hD hS hl
  have hin : meth.name = "<init>" := hin
  have hown : s.vm.findClass RX2 = some m.cls := hown
  have hl : lv_has ls 2 [(0, .ref pao)] := hl
  have iw2 : ∀ w ∈ u_ws RX2 TX2 3, w ∈ wsX2_init := (fun _ h => List.mem_cons_of_mem _ (List.mem_append_left _ (List.mem_append_right _ h)))
  have iw5 : ∀ w ∈ u_ws RX5 TX5 7, w ∈ wsX2_init := (fun _ h => List.mem_cons_of_mem _ (List.mem_append_right _ h))
  have k0 : (Cond.methodLink RX2 3 objectInit).before args s = true := hts _ (by decide +kernel)
  have k1 : (Cond.instanceMethod objectInit).before args s = true := hts _ (by decide +kernel)
  have k2 : (Cond.code objectInit ⟨#[0xb1]⟩ 1 none).before args s = true := hts _ (List.mem_of_getElem? (i := 3) rfl)
  have k3 : (Cond.classLink RX2 9 RX5).before args s = true := hts _ (by decide +kernel)
  have k4 : (Cond.instantiable RX5 7).before args s = true := hts _ (by decide +kernel)
  have k5 : (Cond.initialized RX5).before args s = true := hts _ (by decide +kernel)
  have k6 : (Cond.instanceMethod yX5_init).before args s = true := hts _ (by decide +kernel)
  have k7 : (Cond.fieldLink RX2 11 "KingRansom$Past" "states" "[LKingRansom$State;").before args s = true := hts _ (by decide +kernel)
  have Lp : ∀ (k i : Nat) (sa : Nat) (L : List (Nat × Nat × Nat)) (H : Heap) (locs : List Loc) (ls : Array Slot), i + k = 20 → L.length = i → va_P D vwCl ([(pao, .inr (2, [.ref sa, .int 0, .int 0])), (sa, .inl (κ 3, 20, .inr (.inr (.inr (.inr (fun k => (L[k]?).map Prod.fst))))))] ++ krFL κ L) H → va_D A ([(pao, .inr (2, [.ref sa, .int 0, .int 0])), (sa, .inl (κ 3, 20, .inr (.inr (.inr (.inr (fun k => (L[k]?).map Prod.fst))))))] ++ krFL κ L) → va_S A s.heap H locs → lv_has ls 2 [(0, .ref pao), (1, .int (nI i))] → W p l e { frames := 2, cells := 61, slots := 400, locals := 200 } s m args below meth c H locs (1 + 3 * i) (20 + 19 * i) Q (F0 m 15 ls []) := by
    intro k
    induction k with
    | zero =>
      intro i sa L H locs ls hik hL hP hD hS hl
      have hi : i = 20 := by omega
      subst hi
      refine lv_iload_n hx hb dX2_init_15 rfl (lv_at hl 1 rfl) ?_
      refine lv_bipush (v := 20) hx hb dX2_init_16 (by decide) ?_
      refine lv_icmp_ge (tgt := 40) hx hb dX2_init_18 (by decide) (fun c1 => ?_) (fun c1 => ?_)
      · have e0 : krU sa L 0 = sa := rfl
        refine hret (krU sa L) _ _ _ _ ?_ ?_ hS dX2_init_40
        · rw [← krFL_F κ sa L hL, e0]
          obtain ⟨h1, h2⟩ := kr_Psp.mp hP
          refine kr_Psp.mpr ⟨kr_Piff.mpr (fun q hq => ?_), h2⟩
          rcases List.mem_cons.mp hq with rfl | hq
          · exact h1 0 _ rfl
          · rcases List.mem_cons.mp hq with rfl | hq
            · exact kr_cq (fun k hk => by rw [krU_1]; simp [List.getD, List.getElem?_eq_getElem (show k < L.length by omega)]) (h1 1 _ rfl)
            · exact absurd hq List.not_mem_nil
        · rw [← krFL_F κ sa L hL, e0]
          have h := kr_Diff.mp hD
          exact kr_Diff.mpr ⟨h.1, fun q hq => by
            rcases List.mem_append.mp hq with hq | hq
            · rcases List.mem_cons.mp hq with rfl | hq
              · exact hD.2 0 _ rfl
              · rcases List.mem_cons.mp hq with rfl | hq
                · have h7 := hD.2 1 _ rfl
                  exact h7
                · exact absurd hq List.not_mem_nil
            · exact h.2 q (List.mem_append_right _ hq)⟩
      · exact absurd (by decide) c1
    | succ k ih =>
      intro i sa L H locs ls hik hL hP hD hS hl
      refine lv_iload_n hx hb dX2_init_15 rfl (lv_at hl 1 rfl) ?_
      refine lv_bipush (v := 20) hx hb dX2_init_16 (by decide) ?_
      refine lv_icmp_ge (tgt := 40) hx hb dX2_init_18 (by decide) (fun c1 => ?_) (fun c1 => ?_)
      · exact absurd c1 (nI_ge (a := i) (b := 20) (by omega) (by decide))
      · refine lv_aload_n hx hb dX2_init_21 rfl (lv_at hl 0 rfl) ?_
        refine va_get (D := D) (ci := 2) (v := .ref sa) (C := RX2) (T := TX2) (N := 3) hx hb hts iw2 hown hK.1 hP 0 rfl rfl 0 (by decide) k7 (fun _ h9 => h9) rfl dX2_init_22 ?_
        refine lv_iload_n hx hb dX2_init_25 rfl (lv_at hl 1 rfl) ?_
        refine va_new (ci := 5) (fs := [.int 0, .int 0, .int 0, .int 0, .int 0, .null, .null]) (C := RX5) (T := TX5) (N := 7) hx hb hts iw5 tyX5 tyX5_ok hown k3 k4 k5 hK.1 hP hD hS hA rfl dfX5 (show 1 + 3 * i + 1 ≤ 61 by omega) (show 20 + 19 * i + 7 ≤ 400 by omega) dX2_init_26 (fun q1 H hP hD hS => ?_)
        replace hP := kr_permP (kr_mid _ _ _) hP
        replace hD := kr_permD (kr_mid _ _ _) hD
        refine lv_dup hx hb dX2_init_29 rfl ?_
        refine krN_IN_R (Wd := [(pao, .inr (2, [.ref sa, .int 0, .int 0])), (sa, .inl (κ 3, 20, .inr (.inr (.inr (.inr (fun k => (L[k]?).map Prod.fst)))))), (q1, .inr (5, [.int 0, .int 0, .int 0, .int 0, .int 0, .null, .null]))]) (Fm := krFL κ L) (As := []) (rest := [.ref q1, .int (nI i), .ref sa]) (wr := [(pao, .inr (2, [.ref sa, .int 0, .int 0])), (sa, .inl (κ 3, 20, .inr (.inr (.inr (.inr (fun k => (L[k]?).map Prod.fst))))))]) ⟨hx, hb, hml, hown, hts⟩ hK (tX5_init l D κ q1) ⟨va_cnB 0 hts gX2_init_X5_init_n17 rfl rfl rfl (hK.ml 4 rfl) k5 (by decide +kernel) ⟨(Nat.le_of_ble_eq_true rfl), (Nat.le_of_ble_eq_true rfl)⟩, rfl, k6⟩ hP hD hS hA [2] [0, 1] rfl rfl rfl rfl (by decide) rfl hl.1 rfl (Nat.le_of_ble_eq_true rfl) dX2_init_30 ⟨(show 1 + 3 * i + 1 + 2 ≤ 61 by omega), (show 20 + 19 * i + 7 + 12 ≤ 400 by omega)⟩ (fun u H locs hP hD hS => ?_)
        have hP : va_P D vwCl ([(pao, .inr (2, [.ref sa, .int 0, .int 0])), (sa, .inl (κ 3, 20, .inr (.inr (.inr (.inr (fun k => (L[k]?).map Prod.fst)))))), (q1, .inr (5, [.int 0, .int 0, .int 0, .int 0, .int 0, .ref (u 0), .ref (u 1)])), (u 0, .inl (κ 0, 6, .inl (fun _ => 0))), (u 1, .inl (κ 0, 6, .inl (fun _ => 0)))] ++ krFL κ L) H := hP
        have hD : va_D A ([(pao, .inr (2, [.ref sa, .int 0, .int 0])), (sa, .inl (κ 3, 20, .inr (.inr (.inr (.inr (fun k => (L[k]?).map Prod.fst)))))), (q1, .inr (5, [.int 0, .int 0, .int 0, .int 0, .int 0, .ref (u 0), .ref (u 1)])), (u 0, .inl (κ 0, 6, .inl (fun _ => 0))), (u 1, .inl (κ 0, 6, .inl (fun _ => 0)))] ++ krFL κ L) := hD
        refine va_astq hx hb hK.1 hP hD hS 1 3 2 5 rfl rfl rfl rfl (vp_in_nI (show i < 20 by omega) (by decide)) dX2_init_33 (fun H locs hP hD hS => ?_)
        have hcl : (nI i).toNatClampNeg = L.length := by rw [nI_clamp (by omega), hL]
        rw [hcl] at hP hD
        have hr := kr_refsPush L (q1, u 0, u 1)
        have hP : va_P D vwCl ([(pao, .inr (2, [.ref sa, .int 0, .int 0])), (sa, .inl (κ 3, 20, .inr (.inr (.inr (.inr (va_up (fun k => (L[k]?).map Prod.fst) L.length (some (q1, u 0, u 1).1))))))), (q1, .inr (5, [.int 0, .int 0, .int 0, .int 0, .int 0, .ref (u 0), .ref (u 1)])), (u 0, .inl (κ 0, 6, .inl (fun _ => 0))), (u 1, .inl (κ 0, 6, .inl (fun _ => 0)))] ++ krFL κ L) H := hP
        have hD : va_D A ([(pao, .inr (2, [.ref sa, .int 0, .int 0])), (sa, .inl (κ 3, 20, .inr (.inr (.inr (.inr (va_up (fun k => (L[k]?).map Prod.fst) L.length (some (q1, u 0, u 1).1))))))), (q1, .inr (5, [.int 0, .int 0, .int 0, .int 0, .int 0, .ref (u 0), .ref (u 1)])), (u 0, .inl (κ 0, 6, .inl (fun _ => 0))), (u 1, .inl (κ 0, 6, .inl (fun _ => 0)))] ++ krFL κ L) := hD
        rw [hr] at hP hD
        have hP : va_P D vwCl (([(pao, .inr (2, [.ref sa, .int 0, .int 0])), (sa, .inl (κ 3, 20, .inr (.inr (.inr (.inr (fun k => ((L ++ [(q1, u 0, u 1)])[k]?).map Prod.fst))))))] ++ krT3 κ q1 (u 0) (u 1) krS0) ++ krFL κ L) H := hP
        have hD : va_D A (([(pao, .inr (2, [.ref sa, .int 0, .int 0])), (sa, .inl (κ 3, 20, .inr (.inr (.inr (.inr (fun k => ((L ++ [(q1, u 0, u 1)])[k]?).map Prod.fst))))))] ++ krT3 κ q1 (u 0) (u 1) krS0) ++ krFL κ L) := hD
        replace hP := kr_permP (kr_mid _ _ _) hP
        replace hD := kr_permD (kr_mid _ _ _) hD
        rw [List.append_assoc, ← krFL_push κ L (q1, u 0, u 1)] at hP hD
        refine lv_iinc (v := nI (i + 1)) (lv' := [(1, .int (nI (i + 1))), (0, .ref pao)]) hx hb dX2_init_34 hl (k := 1) rfl (nI_1 i) (by decide) rfl (fun ls hl => ?_)
        refine lv_goto (tgt := 15) hx hb dX2_init_37 (by decide) ?_
        refine W.widen (k := 1 + 3 * (i + 1)) (n := 20 + 19 * (i + 1)) (by omega) (by omega) ?_
        exact ih (i + 1) sa (L ++ [(q1, u 0, u 1)]) _ _ _ (by omega) (by rw [List.length_append, hL]; rfl) hP hD hS (lv_sub hl [1, 0] rfl)
  refine lv_aload_n hx hb dX2_init_0 rfl (lv_at hl 0 rfl) ?_
  refine W.objInit hx hb hown k0 k1 k2 rfl (by rw [hml]; exact hl.1) rfl dX2_init_1 (Nat.le_of_ble_eq_true rfl) (Nat.le_of_ble_eq_true rfl) ?_
  refine W.eq (g2 := F0 m 4 ls []) rfl ?_
  refine lv_aload_n hx hb dX2_init_4 rfl (lv_at hl 0 rfl) ?_
  refine lv_bipush (v := 20) hx hb dX2_init_5 (by decide) ?_
  refine kr_newqS (N := 20) hx hb hK hown k3 hP hD hS hA (by decide) (by decide) (Nat.le_of_ble_eq_true rfl) (Nat.le_of_ble_eq_true rfl) (Nat.le_of_ble_eq_true rfl) dX2_init_7 (fun sa H hP hD hS => ?_)
  have hP : va_P D vwCl ([(pao, .inr (2, [.null, .int 0, .int 0])), (sa, .inl (κ 3, 20, .inr (.inr (.inr (.inr (fun _ => none))))))]) H := hP
  have hD : va_D A ([(pao, .inr (2, [.null, .int 0, .int 0])), (sa, .inl (κ 3, 20, .inr (.inr (.inr (.inr (fun _ => none))))))]) := hD
  refine va_putF (D := D) (ci := 2) (v := .ref sa) (ty := .array (.object "KingRansom$State")) (C := RX2) (T := TX2) (N := 3) hx hb hts iw2 tyX2 tyX2_ok nmX2 hown hK.1 hP hD hS 0 rfl rfl 0 (by decide) k7 (fun _ h9 => h9) rfl hin rfl (tyX2_ok 0 (by decide)) rfl rfl (Nat.le_of_ble_eq_true rfl) dX2_init_10 (fun H locs hP hD hS => ?_)
  have hP : va_P D vwCl ([(pao, .inr (2, [.ref sa, .int 0, .int 0])), (sa, .inl (κ 3, 20, .inr (.inr (.inr (.inr (fun k => (([] : List (Nat × Nat × Nat))[k]?).map Prod.fst))))))] ++ krFL κ []) H := hP
  have hD : va_D A ([(pao, .inr (2, [.ref sa, .int 0, .int 0])), (sa, .inl (κ 3, 20, .inr (.inr (.inr (.inr (fun k => (([] : List (Nat × Nat × Nat))[k]?).map Prod.fst))))))] ++ krFL κ []) := hD
  refine lv_iconst (v := 0) hx hb dX2_init_13 (by decide) ?_
  refine lv_istore_n (lv' := [(1, .int 0), (0, .ref pao)]) hx hb dX2_init_14 rfl hl (by decide) rfl (fun ls hl => ?_)
  exact Lp 20 0 sa [] _ _ _ rfl rfl hP hD hS (lv_sub hl [1, 0] rfl)
