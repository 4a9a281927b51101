def pX2_push (N : Nat) (pa_next : Int32) (pa_count : Int32) (ps : Nat → krS) (st_price : Int32) (st_months : Int32) (st_chest : Int32) (st_given : Int32) (st_fate : Int32) (st_goods : Nat → Int32) (st_rates : Nat → Int32) : Option (Int32 × Int32 × (Nat → krS)) :=
    if pa_next < 0 ∨ 20 ≤ pa_next.toNatClampNeg then none else
    kb7 (pX5_become N (ps pa_next.toNatClampNeg).2.2.2.2.2.1 (ps pa_next.toNatClampNeg).2.2.2.2.2.2 st_price st_months st_chest st_given st_fate st_goods st_rates) fun w2 w3 w4 w5 w6 w7 w8 =>
    kl ((pa_next + 1) - (pa_next + 1) / 20 * 20) fun y10 =>
    kl (if (pa_count + 1) < (20 : Int32) then (pa_count + 1) else 20) fun y11 =>
    some (y10, y11, (va_up ps pa_next.toNatClampNeg (w2, w3, w4, w5, w6, w7, w8)))
set_option maxHeartbeats 8000000 in
set_option maxRecDepth 100000 in
theorem tX2_push (l : Launch) (D : va_G) (κ : Nat → ClassId) (pao : Nat) (saA : Nat) (sg1 : Nat → Nat) (sg2 : Nat → Nat) (sg3 : Nat → Nat) (sto : Nat) (st_goodsA : Nat) (st_ratesA : Nat) (N : Nat) (pa_next : Int32) (pa_count : Int32) (ps : Nat → krS) (st_price : Int32) (st_months : Int32) (st_chest : Int32) (st_given : Int32) (st_fate : Int32) (st_goods : Nat → Int32) (st_rates : Nat → Int32) (z_pa_next : Int32) (z_pa_count : Int32) (z_ps : Nat → krS) (hres : pX2_push N pa_next pa_count ps st_price st_months st_chest st_given st_fate st_goods st_rates = some (z_pa_next, z_pa_count, z_ps)) : krV l yX2_push wsX2_push { frames := 1, cells := 0, slots := 0, locals := 100 } D κ [.ref pao, .ref sto] ([(pao, .inr (2, [.ref saA, .int pa_next, .int pa_count])), (saA, .inl (κ 3, 20, .inr (.inr (.inr (.inr (fun k => some (sg1 k))))))), (sto, .inr (5, [.int st_price, .int st_months, .int st_chest, .int st_given, .int st_fate, .ref st_goodsA, .ref st_ratesA])), (st_goodsA, .inl (κ 0, 6, .inl st_goods)), (st_ratesA, .inl (κ 0, 6, .inl st_rates))] ++ krF κ sg1 sg2 sg3 ps) ([(pao, .inr (2, [.ref saA, .int z_pa_next, .int z_pa_count])), (saA, .inl (κ 3, 20, .inr (.inr (.inr (.inr (fun k => some (sg1 k))))))), (sto, .inr (5, [.int st_price, .int st_months, .int st_chest, .int st_given, .int st_fate, .ref st_goodsA, .ref st_ratesA])), (st_goodsA, .inl (κ 0, 6, .inl st_goods)), (st_ratesA, .inl (κ 0, 6, .inl st_rates))] ++ krF κ sg1 sg2 sg3 z_ps) := by
  refine krV_of (cc := cX2_push) (maxL := 2) (by decide) rfl (Nat.le_of_ble_eq_true rfl) ?_
  intro p e s m args below meth c A Q ls hx hb hml hown hts hK hA hret hP hD hS hl
  have hown : s.vm.findClass RX2 = some m.cls := hown
  have hl : lv_has ls 2 [(0, .ref pao), (1, .ref sto)] := hl
  have iw2 : ∀ w ∈ u_ws RX2 TX2 3, w ∈ wsX2_push := (fun _ h => List.mem_cons_of_mem _ (List.mem_append_left _ (List.mem_append_right _ h)))
  have k0 : (Cond.fieldLink RX2 11 "KingRansom$Past" "states" "[LKingRansom$State;").before args s = true := hts _ (List.mem_of_getElem? (i := 1) rfl)
  have k1 : (Cond.fieldLink RX2 18 "KingRansom$Past" "next" "I").before args s = true := hts _ (List.mem_of_getElem? (i := 2) rfl)
  have k2 : (Cond.initialized RX5).before args s = true := hts _ (List.mem_of_getElem? (i := 9) rfl)
  have k3 : (Cond.instanceMethod yX5_become).before args s = true := hts _ (List.mem_of_getElem? (i := 8) rfl)
  have k4 : (Cond.selects RX5 yX5_become yX5_become).before args s = true := hts _ (List.mem_of_getElem? (i := 10) rfl)
  have k5 : (Cond.fieldLink RX2 26 "KingRansom$Past" "count" "I").before args s = true := hts _ (List.mem_of_getElem? (i := 3) rfl)
  have k6 : (Cond.methodLink RX2 29 Lib.Math.min.name).before args s = true := hts _ (List.mem_of_getElem? (i := 4) rfl)
  have k7 : (Cond.static Lib.Math.min.name).before args s = true := hts _ (List.mem_of_getElem? (i := 5) rfl)
  have k8 : (Cond.initialized "java/lang/Math").before args s = true := hts _ (List.mem_of_getElem? (i := 6) rfl)
  have k9 : (Cond.code Lib.Math.min.name Lib.Math.min.code 2 (some .int)).before args s = true := hts _ (List.mem_of_getElem? (i := 7) rfl)
  unfold pX2_push at hres
  refine lv_aload_n hx hb dX2_push_0 rfl (lv_at hl 0 rfl) ?_
  refine va_get (D := D) (ci := 2) (v := .ref saA) (C := RX2) (T := TX2) (N := 3) hx hb hts iw2 hown hK.1 hP 0 rfl rfl 0 (by decide) k0 (fun _ h9 => h9) rfl dX2_push_1 ?_
  refine lv_aload_n hx hb dX2_push_4 rfl (lv_at hl 0 rfl) ?_
  refine va_get (D := D) (ci := 2) (v := .int pa_next) (C := RX2) (T := TX2) (N := 3) hx hb hts iw2 hown hK.1 hP 0 rfl rfl 1 (by decide) k1 (fun _ h9 => h9) rfl dX2_push_5 ?_
  obtain ⟨g1, hres⟩ := og_no hres
  refine va_aldq hx hb hK.1 hP 1 3 rfl rfl g1 dX2_push_8 ?_
  refine W.eq (g2 := F0 m 9 ls [.ref (sg1 pa_next.toNatClampNeg)]) rfl ?_
  refine lv_aload_n hx hb dX2_push_9 rfl (lv_at hl 1 rfl) ?_
  have hj : pa_next.toNatClampNeg < 20 := Nat.lt_of_not_le (fun z => g1 (Or.inr z))
  replace hP := kr_focP hj hP
  replace hD := kr_focD hj hD
  have hP : va_P D vwCl ([(pao, .inr (2, [.ref saA, .int pa_next, .int pa_count])), (saA, .inl (κ 3, 20, .inr (.inr (.inr (.inr (fun k => some (sg1 k))))))), (sto, .inr (5, [.int st_price, .int st_months, .int st_chest, .int st_given, .int st_fate, .ref st_goodsA, .ref st_ratesA])), (st_goodsA, .inl (κ 0, 6, .inl st_goods)), (st_ratesA, .inl (κ 0, 6, .inl st_rates)), ((sg1 pa_next.toNatClampNeg), .inr (5, [.int (ps pa_next.toNatClampNeg).1, .int (ps pa_next.toNatClampNeg).2.1, .int (ps pa_next.toNatClampNeg).2.2.1, .int (ps pa_next.toNatClampNeg).2.2.2.1, .int (ps pa_next.toNatClampNeg).2.2.2.2.1, .ref (sg2 pa_next.toNatClampNeg), .ref (sg3 pa_next.toNatClampNeg)])), ((sg2 pa_next.toNatClampNeg), .inl (κ 0, 6, .inl (ps pa_next.toNatClampNeg).2.2.2.2.2.1)), ((sg3 pa_next.toNatClampNeg), .inl (κ 0, 6, .inl (ps pa_next.toNatClampNeg).2.2.2.2.2.2))] ++ krFr κ sg1 sg2 sg3 ps pa_next.toNatClampNeg) _ := hP
  have hD : va_D A ([(pao, .inr (2, [.ref saA, .int pa_next, .int pa_count])), (saA, .inl (κ 3, 20, .inr (.inr (.inr (.inr (fun k => some (sg1 k))))))), (sto, .inr (5, [.int st_price, .int st_months, .int st_chest, .int st_given, .int st_fate, .ref st_goodsA, .ref st_ratesA])), (st_goodsA, .inl (κ 0, 6, .inl st_goods)), (st_ratesA, .inl (κ 0, 6, .inl st_rates)), ((sg1 pa_next.toNatClampNeg), .inr (5, [.int (ps pa_next.toNatClampNeg).1, .int (ps pa_next.toNatClampNeg).2.1, .int (ps pa_next.toNatClampNeg).2.2.1, .int (ps pa_next.toNatClampNeg).2.2.2.1, .int (ps pa_next.toNatClampNeg).2.2.2.2.1, .ref (sg2 pa_next.toNatClampNeg), .ref (sg3 pa_next.toNatClampNeg)])), ((sg2 pa_next.toNatClampNeg), .inl (κ 0, 6, .inl (ps pa_next.toNatClampNeg).2.2.2.2.2.1)), ((sg3 pa_next.toNatClampNeg), .inl (κ 0, 6, .inl (ps pa_next.toNatClampNeg).2.2.2.2.2.2))] ++ krFr κ sg1 sg2 sg3 ps pa_next.toNatClampNeg) := hD
  obtain ⟨w2, w3, w4, w5, w6, w7, w8, hc9, hres⟩ := kb7_s hres
  refine krV_VN_R (As := [.ref sto]) (rest := []) (wr := [(pao, .inr (2, [.ref saA, .int pa_next, .int pa_count])), (saA, .inl (κ 3, 20, .inr (.inr (.inr (.inr (fun k => some (sg1 k)))))))]) ⟨hx, hb, hml, hown, hts⟩ hK (tX5_become l D κ (sg1 pa_next.toNatClampNeg) (sg2 pa_next.toNatClampNeg) (sg3 pa_next.toNatClampNeg) sto st_goodsA st_ratesA N (ps pa_next.toNatClampNeg).1 (ps pa_next.toNatClampNeg).2.1 (ps pa_next.toNatClampNeg).2.2.1 (ps pa_next.toNatClampNeg).2.2.2.1 (ps pa_next.toNatClampNeg).2.2.2.2.1 (ps pa_next.toNatClampNeg).2.2.2.2.2.1 (ps pa_next.toNatClampNeg).2.2.2.2.2.2 st_price st_months st_chest st_given st_fate st_goods st_rates w2 w3 w4 w5 w6 w7 w8 hc9) ⟨va_cnB 1 hts gX2_push_X5_become_n22 rfl rfl rfl (hK.ml 21 rfl) k2 (by decide +kernel) ⟨(Nat.le_of_ble_eq_true rfl), (Nat.le_of_ble_eq_true rfl)⟩, k3, k4⟩ rfl rfl rfl hP hD hS hA [5, 6, 7, 2, 3, 4] [0, 1] rfl rfl rfl rfl (by decide) rfl hl.1 rfl (Nat.le_of_ble_eq_true rfl) dX2_push_10 ⟨Nat.zero_le _, Nat.zero_le _⟩ (fun H locs hP hD hS => ?_)
  have hP : va_P D vwCl (([(pao, .inr (2, [.ref saA, .int pa_next, .int pa_count])), (saA, .inl (κ 3, 20, .inr (.inr (.inr (.inr (fun k => some (sg1 k))))))), (sto, .inr (5, [.int st_price, .int st_months, .int st_chest, .int st_given, .int st_fate, .ref st_goodsA, .ref st_ratesA])), (st_goodsA, .inl (κ 0, 6, .inl st_goods)), (st_ratesA, .inl (κ 0, 6, .inl st_rates))] ++ krT3 κ (sg1 pa_next.toNatClampNeg) (sg2 pa_next.toNatClampNeg) (sg3 pa_next.toNatClampNeg) (w2, w3, w4, w5, w6, w7, w8)) ++ krFr κ sg1 sg2 sg3 ps pa_next.toNatClampNeg) H := kr_subP hP [0, 1, 5, 6, 7, 2, 3, 4] rfl
  have hD : va_D A (([(pao, .inr (2, [.ref saA, .int pa_next, .int pa_count])), (saA, .inl (κ 3, 20, .inr (.inr (.inr (.inr (fun k => some (sg1 k))))))), (sto, .inr (5, [.int st_price, .int st_months, .int st_chest, .int st_given, .int st_fate, .ref st_goodsA, .ref st_ratesA])), (st_goodsA, .inl (κ 0, 6, .inl st_goods)), (st_ratesA, .inl (κ 0, 6, .inl st_rates))] ++ krT3 κ (sg1 pa_next.toNatClampNeg) (sg2 pa_next.toNatClampNeg) (sg3 pa_next.toNatClampNeg) (w2, w3, w4, w5, w6, w7, w8)) ++ krFr κ sg1 sg2 sg3 ps pa_next.toNatClampNeg) := kr_subD hD [0, 1, 5, 6, 7, 2, 3, 4] (by decide) rfl
  replace hP := kr_upP hj hP
  replace hD := kr_upD hj hD
  have hP : va_P D vwCl ([(pao, .inr (2, [.ref saA, .int pa_next, .int pa_count])), (saA, .inl (κ 3, 20, .inr (.inr (.inr (.inr (fun k => some (sg1 k))))))), (sto, .inr (5, [.int st_price, .int st_months, .int st_chest, .int st_given, .int st_fate, .ref st_goodsA, .ref st_ratesA])), (st_goodsA, .inl (κ 0, 6, .inl st_goods)), (st_ratesA, .inl (κ 0, 6, .inl st_rates))] ++ krF κ sg1 sg2 sg3 (va_up ps pa_next.toNatClampNeg (w2, w3, w4, w5, w6, w7, w8))) H := hP
  have hD : va_D A ([(pao, .inr (2, [.ref saA, .int pa_next, .int pa_count])), (saA, .inl (κ 3, 20, .inr (.inr (.inr (.inr (fun k => some (sg1 k))))))), (sto, .inr (5, [.int st_price, .int st_months, .int st_chest, .int st_given, .int st_fate, .ref st_goodsA, .ref st_ratesA])), (st_goodsA, .inl (κ 0, 6, .inl st_goods)), (st_ratesA, .inl (κ 0, 6, .inl st_rates))] ++ krF κ sg1 sg2 sg3 (va_up ps pa_next.toNatClampNeg (w2, w3, w4, w5, w6, w7, w8))) := hD
  refine lv_aload_n hx hb dX2_push_13 rfl (lv_at hl 0 rfl) ?_
  refine lv_aload_n hx hb dX2_push_14 rfl (lv_at hl 0 rfl) ?_
  refine va_get (D := D) (ci := 2) (v := .int pa_next) (C := RX2) (T := TX2) (N := 3) hx hb hts iw2 hown hK.1 hP 0 rfl rfl 1 (by decide) k1 (fun _ h9 => h9) rfl dX2_push_15 ?_
  refine lv_iconst (v := 1) hx hb dX2_push_18 (by decide) ?_
  refine lv_iadd hx hb dX2_push_19 ?_
  refine lv_bipush (v := 20) hx hb dX2_push_20 (by decide) ?_
  refine lv_irem hx hb dX2_push_22 (by decide) ?_
  obtain ⟨y10, ey10, hres⟩ := kl_s hres
  refine kr_tope ey10 ?_
  refine va_put (D := D) (ci := 2) (v := .int y10) (ty := .int) (C := RX2) (T := TX2) (N := 3) hx hb hts iw2 tyX2 tyX2_ok nmX2 hown hK.1 hP hD hS 0 rfl rfl 1 (by decide) k1 (fun _ h9 => h9) rfl (tyX2_ok 1 (by decide)) rfl rfl (Nat.le_of_ble_eq_true rfl) dX2_push_23 (fun H locs hP hD hS => ?_)
  have hP : va_P D vwCl ([(pao, .inr (2, [.ref saA, .int y10, .int pa_count])), (saA, .inl (κ 3, 20, .inr (.inr (.inr (.inr (fun k => some (sg1 k))))))), (sto, .inr (5, [.int st_price, .int st_months, .int st_chest, .int st_given, .int st_fate, .ref st_goodsA, .ref st_ratesA])), (st_goodsA, .inl (κ 0, 6, .inl st_goods)), (st_ratesA, .inl (κ 0, 6, .inl st_rates))] ++ krF κ sg1 sg2 sg3 (va_up ps pa_next.toNatClampNeg (w2, w3, w4, w5, w6, w7, w8))) H := hP
  have hD : va_D A ([(pao, .inr (2, [.ref saA, .int y10, .int pa_count])), (saA, .inl (κ 3, 20, .inr (.inr (.inr (.inr (fun k => some (sg1 k))))))), (sto, .inr (5, [.int st_price, .int st_months, .int st_chest, .int st_given, .int st_fate, .ref st_goodsA, .ref st_ratesA])), (st_goodsA, .inl (κ 0, 6, .inl st_goods)), (st_ratesA, .inl (κ 0, 6, .inl st_rates))] ++ krF κ sg1 sg2 sg3 (va_up ps pa_next.toNatClampNeg (w2, w3, w4, w5, w6, w7, w8))) := hD
  refine lv_aload_n hx hb dX2_push_26 rfl (lv_at hl 0 rfl) ?_
  refine lv_bipush (v := 20) hx hb dX2_push_27 (by decide) ?_
  refine lv_aload_n hx hb dX2_push_29 rfl (lv_at hl 0 rfl) ?_
  refine va_get (D := D) (ci := 2) (v := .int pa_count) (C := RX2) (T := TX2) (N := 3) hx hb hts iw2 hown hK.1 hP 0 rfl rfl 2 (by decide) k5 (fun _ h9 => h9) rfl dX2_push_30 ?_
  refine lv_iconst (v := 1) hx hb dX2_push_33 (by decide) ?_
  refine lv_iadd hx hb dX2_push_34 ?_
  refine va_mmin hx hb (hml.trans hl.1.symm) hown k6 k7 k8 k9 (Nat.le_of_ble_eq_true rfl) (Nat.le_of_ble_eq_true rfl) (Nat.zero_le _) (Nat.zero_le _) dX2_push_35 ?_
  obtain ⟨y11, ey11, hres⟩ := kl_s hres
  refine kr_tope ey11 ?_
  refine va_put (D := D) (ci := 2) (v := .int y11) (ty := .int) (C := RX2) (T := TX2) (N := 3) hx hb hts iw2 tyX2 tyX2_ok nmX2 hown hK.1 hP hD hS 0 rfl rfl 2 (by decide) k5 (fun _ h9 => h9) rfl (tyX2_ok 2 (by decide)) rfl rfl (Nat.le_of_ble_eq_true rfl) dX2_push_38 (fun H locs hP hD hS => ?_)
  have hP : va_P D vwCl ([(pao, .inr (2, [.ref saA, .int y10, .int y11])), (saA, .inl (κ 3, 20, .inr (.inr (.inr (.inr (fun k => some (sg1 k))))))), (sto, .inr (5, [.int st_price, .int st_months, .int st_chest, .int st_given, .int st_fate, .ref st_goodsA, .ref st_ratesA])), (st_goodsA, .inl (κ 0, 6, .inl st_goods)), (st_ratesA, .inl (κ 0, 6, .inl st_rates))] ++ krF κ sg1 sg2 sg3 (va_up ps pa_next.toNatClampNeg (w2, w3, w4, w5, w6, w7, w8))) H := hP
  have hD : va_D A ([(pao, .inr (2, [.ref saA, .int y10, .int y11])), (saA, .inl (κ 3, 20, .inr (.inr (.inr (.inr (fun k => some (sg1 k))))))), (sto, .inr (5, [.int st_price, .int st_months, .int st_chest, .int st_given, .int st_fate, .ref st_goodsA, .ref st_ratesA])), (st_goodsA, .inl (κ 0, 6, .inl st_goods)), (st_ratesA, .inl (κ 0, 6, .inl st_rates))] ++ krF κ sg1 sg2 sg3 (va_up ps pa_next.toNatClampNeg (w2, w3, w4, w5, w6, w7, w8))) := hD
  have hres := Option.some.inj hres
  have h0 := (Prod.mk.inj hres).1
  replace hres := (Prod.mk.inj hres).2
  have h1 := (Prod.mk.inj hres).1
  replace hres := (Prod.mk.inj hres).2
  have h2 := hres
  subst h0
  subst h1
  subst h2
  exact hret _ _ _ _ hP hD hS dX2_push_41

def pX2_pop (N : Nat) (pa_next : Int32) (pa_count : Int32) (ps : Nat → krS) (st_price : Int32) (st_months : Int32) (st_chest : Int32) (st_given : Int32) (st_fate : Int32) (st_goods : Nat → Int32) (st_rates : Nat → Int32) : Option (Int32 × Int32 × Int32 × Int32 × Int32 × Int32 × Int32 × Int32 × (Nat → Int32) × (Nat → Int32)) :=
    (if pa_count = 0 then
    some (0, pa_next, pa_count, st_price, st_months, st_chest, st_given, st_fate, st_goods, st_rates)
    else
    kl (((pa_next + 20) - 1) - ((pa_next + 20) - 1) / 20 * 20) fun y2 =>
    if y2 < 0 ∨ 20 ≤ y2.toNatClampNeg then none else
    kb7 (pX5_become N st_goods st_rates (ps y2.toNatClampNeg).1 (ps y2.toNatClampNeg).2.1 (ps y2.toNatClampNeg).2.2.1 (ps y2.toNatClampNeg).2.2.2.1 (ps y2.toNatClampNeg).2.2.2.2.1 (ps y2.toNatClampNeg).2.2.2.2.2.1 (ps y2.toNatClampNeg).2.2.2.2.2.2) fun w4 w5 w6 w7 w8 w9 w10 =>
    some (1, y2, (pa_count - 1), w4, w5, w6, w7, w8, w9, w10))
set_option maxHeartbeats 8000000 in
set_option maxRecDepth 100000 in
theorem tX2_pop (l : Launch) (D : va_G) (κ : Nat → ClassId) (pao : Nat) (saA : Nat) (sg1 : Nat → Nat) (sg2 : Nat → Nat) (sg3 : Nat → Nat) (sto : Nat) (st_goodsA : Nat) (st_ratesA : Nat) (N : Nat) (pa_next : Int32) (pa_count : Int32) (ps : Nat → krS) (st_price : Int32) (st_months : Int32) (st_chest : Int32) (st_given : Int32) (st_fate : Int32) (st_goods : Nat → Int32) (st_rates : Nat → Int32) (r0 : Int32) (z_pa_next : Int32) (z_pa_count : Int32) (z_st_price : Int32) (z_st_months : Int32) (z_st_chest : Int32) (z_st_given : Int32) (z_st_fate : Int32) (z_st_goods : Nat → Int32) (z_st_rates : Nat → Int32) (hres : pX2_pop N pa_next pa_count ps st_price st_months st_chest st_given st_fate st_goods st_rates = some (r0, z_pa_next, z_pa_count, z_st_price, z_st_months, z_st_chest, z_st_given, z_st_fate, z_st_goods, z_st_rates)) : krI l yX2_pop wsX2_pop { frames := 1, cells := 0, slots := 0, locals := 100 } D κ [.ref pao, .ref sto] ([(pao, .inr (2, [.ref saA, .int pa_next, .int pa_count])), (saA, .inl (κ 3, 20, .inr (.inr (.inr (.inr (fun k => some (sg1 k))))))), (sto, .inr (5, [.int st_price, .int st_months, .int st_chest, .int st_given, .int st_fate, .ref st_goodsA, .ref st_ratesA])), (st_goodsA, .inl (κ 0, 6, .inl st_goods)), (st_ratesA, .inl (κ 0, 6, .inl st_rates))] ++ krF κ sg1 sg2 sg3 ps) ([(pao, .inr (2, [.ref saA, .int z_pa_next, .int z_pa_count])), (saA, .inl (κ 3, 20, .inr (.inr (.inr (.inr (fun k => some (sg1 k))))))), (sto, .inr (5, [.int z_st_price, .int z_st_months, .int z_st_chest, .int z_st_given, .int z_st_fate, .ref st_goodsA, .ref st_ratesA])), (st_goodsA, .inl (κ 0, 6, .inl z_st_goods)), (st_ratesA, .inl (κ 0, 6, .inl z_st_rates))] ++ krF κ sg1 sg2 sg3 ps) r0 := by
  refine krI_of (cc := cX2_pop) (maxL := 2) (rt := .boolean) (by decide) rfl (Nat.le_of_ble_eq_true rfl) ?_
  intro p e s m args below meth c A Q ls hx hb hml hown hts hK hA hret hP hD hS hl
  have hown : s.vm.findClass RX2 = some m.cls := hown
  have hl : lv_has ls 2 [(0, .ref pao), (1, .ref sto)] := hl
  have iw2 : ∀ w ∈ u_ws RX2 TX2 3, w ∈ wsX2_pop := (fun _ h => List.mem_cons_of_mem _ (List.mem_append_left _ (List.mem_append_right _ h)))
  have k0 : (Cond.fieldLink RX2 26 "KingRansom$Past" "count" "I").before args s = true := hts _ (List.mem_of_getElem? (i := 1) rfl)
  have k1 : (Cond.fieldLink RX2 18 "KingRansom$Past" "next" "I").before args s = true := hts _ (List.mem_of_getElem? (i := 2) rfl)
  have k2 : (Cond.fieldLink RX2 11 "KingRansom$Past" "states" "[LKingRansom$State;").before args s = true := hts _ (List.mem_of_getElem? (i := 3) rfl)
  have k3 : (Cond.initialized RX5).before args s = true := hts _ (List.mem_of_getElem? (i := 5) rfl)
  have k4 : (Cond.instanceMethod yX5_become).before args s = true := hts _ (List.mem_of_getElem? (i := 4) rfl)
  have k5 : (Cond.selects RX5 yX5_become yX5_become).before args s = true := hts _ (List.mem_of_getElem? (i := 6) rfl)
  unfold pX2_pop at hres
  refine lv_aload_n hx hb dX2_pop_0 rfl (lv_at hl 0 rfl) ?_
  refine va_get (D := D) (ci := 2) (v := .int pa_count) (C := RX2) (T := TX2) (N := 3) hx hb hts iw2 hown hK.1 hP 0 rfl rfl 2 (by decide) k0 (fun _ h9 => h9) rfl dX2_pop_1 ?_
  refine lv_if_ne (tgt := 9) hx hb dX2_pop_4 (by decide) (fun c1 => ?_) (fun c1 => ?_)
  · replace hres := og_f c1 hres
    refine lv_aload_n hx hb dX2_pop_9 rfl (lv_at hl 0 rfl) ?_
    refine lv_aload_n hx hb dX2_pop_10 rfl (lv_at hl 0 rfl) ?_
    refine va_get (D := D) (ci := 2) (v := .int pa_next) (C := RX2) (T := TX2) (N := 3) hx hb hts iw2 hown hK.1 hP 0 rfl rfl 1 (by decide) k1 (fun _ h9 => h9) rfl dX2_pop_11 ?_
    refine lv_bipush (v := 20) hx hb dX2_pop_14 (by decide) ?_
    refine lv_iadd hx hb dX2_pop_16 ?_
    refine lv_iconst (v := 1) hx hb dX2_pop_17 (by decide) ?_
    refine lv_isub hx hb dX2_pop_18 ?_
    refine lv_bipush (v := 20) hx hb dX2_pop_19 (by decide) ?_
    refine lv_irem hx hb dX2_pop_21 (by decide) ?_
    obtain ⟨y2, ey2, hres⟩ := kl_s hres
    refine kr_tope ey2 ?_
    refine va_put (D := D) (ci := 2) (v := .int y2) (ty := .int) (C := RX2) (T := TX2) (N := 3) hx hb hts iw2 tyX2 tyX2_ok nmX2 hown hK.1 hP hD hS 0 rfl rfl 1 (by decide) k1 (fun _ h9 => h9) rfl (tyX2_ok 1 (by decide)) rfl rfl (Nat.le_of_ble_eq_true rfl) dX2_pop_22 (fun H locs hP hD hS => ?_)
    have hP : va_P D vwCl ([(pao, .inr (2, [.ref saA, .int y2, .int pa_count])), (saA, .inl (κ 3, 20, .inr (.inr (.inr (.inr (fun k => some (sg1 k))))))), (sto, .inr (5, [.int st_price, .int st_months, .int st_chest, .int st_given, .int st_fate, .ref st_goodsA, .ref st_ratesA])), (st_goodsA, .inl (κ 0, 6, .inl st_goods)), (st_ratesA, .inl (κ 0, 6, .inl st_rates))] ++ krF κ sg1 sg2 sg3 ps) H := hP
    have hD : va_D A ([(pao, .inr (2, [.ref saA, .int y2, .int pa_count])), (saA, .inl (κ 3, 20, .inr (.inr (.inr (.inr (fun k => some (sg1 k))))))), (sto, .inr (5, [.int st_price, .int st_months, .int st_chest, .int st_given, .int st_fate, .ref st_goodsA, .ref st_ratesA])), (st_goodsA, .inl (κ 0, 6, .inl st_goods)), (st_ratesA, .inl (κ 0, 6, .inl st_rates))] ++ krF κ sg1 sg2 sg3 ps) := hD
    refine lv_aload_n hx hb dX2_pop_25 rfl (lv_at hl 0 rfl) ?_
    refine lv_dup hx hb dX2_pop_26 rfl ?_
    refine va_get (D := D) (ci := 2) (v := .int pa_count) (C := RX2) (T := TX2) (N := 3) hx hb hts iw2 hown hK.1 hP 0 rfl rfl 2 (by decide) k0 (fun _ h9 => h9) rfl dX2_pop_27 ?_
    refine lv_iconst (v := 1) hx hb dX2_pop_30 (by decide) ?_
    refine lv_isub hx hb dX2_pop_31 ?_
    refine va_put (D := D) (ci := 2) (v := .int (pa_count - 1)) (ty := .int) (C := RX2) (T := TX2) (N := 3) hx hb hts iw2 tyX2 tyX2_ok nmX2 hown hK.1 hP hD hS 0 rfl rfl 2 (by decide) k0 (fun _ h9 => h9) rfl (tyX2_ok 2 (by decide)) rfl rfl (Nat.le_of_ble_eq_true rfl) dX2_pop_32 (fun H locs hP hD hS => ?_)
    have hP : va_P D vwCl ([(pao, .inr (2, [.ref saA, .int y2, .int (pa_count - 1)])), (saA, .inl (κ 3, 20, .inr (.inr (.inr (.inr (fun k => some (sg1 k))))))), (sto, .inr (5, [.int st_price, .int st_months, .int st_chest, .int st_given, .int st_fate, .ref st_goodsA, .ref st_ratesA])), (st_goodsA, .inl (κ 0, 6, .inl st_goods)), (st_ratesA, .inl (κ 0, 6, .inl st_rates))] ++ krF κ sg1 sg2 sg3 ps) H := hP
    have hD : va_D A ([(pao, .inr (2, [.ref saA, .int y2, .int (pa_count - 1)])), (saA, .inl (κ 3, 20, .inr (.inr (.inr (.inr (fun k => some (sg1 k))))))), (sto, .inr (5, [.int st_price, .int st_months, .int st_chest, .int st_given, .int st_fate, .ref st_goodsA, .ref st_ratesA])), (st_goodsA, .inl (κ 0, 6, .inl st_goods)), (st_ratesA, .inl (κ 0, 6, .inl st_rates))] ++ krF κ sg1 sg2 sg3 ps) := hD
    refine lv_aload_n hx hb dX2_pop_35 rfl (lv_at hl 1 rfl) ?_
    refine lv_aload_n hx hb dX2_pop_36 rfl (lv_at hl 0 rfl) ?_
    refine va_get (D := D) (ci := 2) (v := .ref saA) (C := RX2) (T := TX2) (N := 3) hx hb hts iw2 hown hK.1 hP 0 rfl rfl 0 (by decide) k2 (fun _ h9 => h9) rfl dX2_pop_37 ?_
    refine lv_aload_n hx hb dX2_pop_40 rfl (lv_at hl 0 rfl) ?_
    refine va_get (D := D) (ci := 2) (v := .int y2) (C := RX2) (T := TX2) (N := 3) hx hb hts iw2 hown hK.1 hP 0 rfl rfl 1 (by decide) k1 (fun _ h9 => h9) rfl dX2_pop_41 ?_
    obtain ⟨g3, hres⟩ := og_no hres
    refine va_aldq hx hb hK.1 hP 1 3 rfl rfl g3 dX2_pop_44 ?_
    refine W.eq (g2 := F0 m 45 ls [.ref (sg1 y2.toNatClampNeg), .ref sto]) rfl ?_
    have hj : y2.toNatClampNeg < 20 := Nat.lt_of_not_le (fun z => g3 (Or.inr z))
    replace hP := kr_focP hj hP
    replace hD := kr_focD hj hD
    have hP : va_P D vwCl ([(pao, .inr (2, [.ref saA, .int y2, .int (pa_count - 1)])), (saA, .inl (κ 3, 20, .inr (.inr (.inr (.inr (fun k => some (sg1 k))))))), (sto, .inr (5, [.int st_price, .int st_months, .int st_chest, .int st_given, .int st_fate, .ref st_goodsA, .ref st_ratesA])), (st_goodsA, .inl (κ 0, 6, .inl st_goods)), (st_ratesA, .inl (κ 0, 6, .inl st_rates)), ((sg1 y2.toNatClampNeg), .inr (5, [.int (ps y2.toNatClampNeg).1, .int (ps y2.toNatClampNeg).2.1, .int (ps y2.toNatClampNeg).2.2.1, .int (ps y2.toNatClampNeg).2.2.2.1, .int (ps y2.toNatClampNeg).2.2.2.2.1, .ref (sg2 y2.toNatClampNeg), .ref (sg3 y2.toNatClampNeg)])), ((sg2 y2.toNatClampNeg), .inl (κ 0, 6, .inl (ps y2.toNatClampNeg).2.2.2.2.2.1)), ((sg3 y2.toNatClampNeg), .inl (κ 0, 6, .inl (ps y2.toNatClampNeg).2.2.2.2.2.2))] ++ krFr κ sg1 sg2 sg3 ps y2.toNatClampNeg) _ := hP
    have hD : va_D A ([(pao, .inr (2, [.ref saA, .int y2, .int (pa_count - 1)])), (saA, .inl (κ 3, 20, .inr (.inr (.inr (.inr (fun k => some (sg1 k))))))), (sto, .inr (5, [.int st_price, .int st_months, .int st_chest, .int st_given, .int st_fate, .ref st_goodsA, .ref st_ratesA])), (st_goodsA, .inl (κ 0, 6, .inl st_goods)), (st_ratesA, .inl (κ 0, 6, .inl st_rates)), ((sg1 y2.toNatClampNeg), .inr (5, [.int (ps y2.toNatClampNeg).1, .int (ps y2.toNatClampNeg).2.1, .int (ps y2.toNatClampNeg).2.2.1, .int (ps y2.toNatClampNeg).2.2.2.1, .int (ps y2.toNatClampNeg).2.2.2.2.1, .ref (sg2 y2.toNatClampNeg), .ref (sg3 y2.toNatClampNeg)])), ((sg2 y2.toNatClampNeg), .inl (κ 0, 6, .inl (ps y2.toNatClampNeg).2.2.2.2.2.1)), ((sg3 y2.toNatClampNeg), .inl (κ 0, 6, .inl (ps y2.toNatClampNeg).2.2.2.2.2.2))] ++ krFr κ sg1 sg2 sg3 ps y2.toNatClampNeg) := hD
    obtain ⟨w4, w5, w6, w7, w8, w9, w10, hc11, hres⟩ := kb7_s hres
    refine krV_VN_R (As := [.ref (sg1 y2.toNatClampNeg)]) (rest := []) (wr := [(pao, .inr (2, [.ref saA, .int y2, .int (pa_count - 1)])), (saA, .inl (κ 3, 20, .inr (.inr (.inr (.inr (fun k => some (sg1 k)))))))]) ⟨hx, hb, hml, hown, hts⟩ hK (tX5_become l D κ sto st_goodsA st_ratesA (sg1 y2.toNatClampNeg) (sg2 y2.toNatClampNeg) (sg3 y2.toNatClampNeg) N st_price st_months st_chest st_given st_fate st_goods st_rates (ps y2.toNatClampNeg).1 (ps y2.toNatClampNeg).2.1 (ps y2.toNatClampNeg).2.2.1 (ps y2.toNatClampNeg).2.2.2.1 (ps y2.toNatClampNeg).2.2.2.2.1 (ps y2.toNatClampNeg).2.2.2.2.2.1 (ps y2.toNatClampNeg).2.2.2.2.2.2 w4 w5 w6 w7 w8 w9 w10 hc11) ⟨va_cnB 1 hts gX2_pop_X5_become_n22 rfl rfl rfl (hK.ml 21 rfl) k3 (by decide +kernel) ⟨(Nat.le_of_ble_eq_true rfl), (Nat.le_of_ble_eq_true rfl)⟩, k4, k5⟩ rfl rfl rfl hP hD hS hA [2, 3, 4, 5, 6, 7] [0, 1] rfl rfl rfl rfl (by decide) rfl hl.1 rfl (Nat.le_of_ble_eq_true rfl) dX2_pop_45 ⟨Nat.zero_le _, Nat.zero_le _⟩ (fun H locs hP hD hS => ?_)
    have hP : va_P D vwCl (([(pao, .inr (2, [.ref saA, .int y2, .int (pa_count - 1)])), (saA, .inl (κ 3, 20, .inr (.inr (.inr (.inr (fun k => some (sg1 k))))))), (sto, .inr (5, [.int w4, .int w5, .int w6, .int w7, .int w8, .ref st_goodsA, .ref st_ratesA])), (st_goodsA, .inl (κ 0, 6, .inl w9)), (st_ratesA, .inl (κ 0, 6, .inl w10))] ++ krF3 κ sg1 sg2 sg3 ps y2.toNatClampNeg) ++ krFr κ sg1 sg2 sg3 ps y2.toNatClampNeg) H := kr_subP hP [0, 1, 2, 3, 4, 5, 6, 7] rfl
    have hD : va_D A (([(pao, .inr (2, [.ref saA, .int y2, .int (pa_count - 1)])), (saA, .inl (κ 3, 20, .inr (.inr (.inr (.inr (fun k => some (sg1 k))))))), (sto, .inr (5, [.int w4, .int w5, .int w6, .int w7, .int w8, .ref st_goodsA, .ref st_ratesA])), (st_goodsA, .inl (κ 0, 6, .inl w9)), (st_ratesA, .inl (κ 0, 6, .inl w10))] ++ krF3 κ sg1 sg2 sg3 ps y2.toNatClampNeg) ++ krFr κ sg1 sg2 sg3 ps y2.toNatClampNeg) := kr_subD hD [0, 1, 2, 3, 4, 5, 6, 7] (by decide) rfl
    replace hP := kr_bacP hj hP
    replace hD := kr_bacD hj hD
    have hP : va_P D vwCl ([(pao, .inr (2, [.ref saA, .int y2, .int (pa_count - 1)])), (saA, .inl (κ 3, 20, .inr (.inr (.inr (.inr (fun k => some (sg1 k))))))), (sto, .inr (5, [.int w4, .int w5, .int w6, .int w7, .int w8, .ref st_goodsA, .ref st_ratesA])), (st_goodsA, .inl (κ 0, 6, .inl w9)), (st_ratesA, .inl (κ 0, 6, .inl w10))] ++ krF κ sg1 sg2 sg3 ps) H := hP
    have hD : va_D A ([(pao, .inr (2, [.ref saA, .int y2, .int (pa_count - 1)])), (saA, .inl (κ 3, 20, .inr (.inr (.inr (.inr (fun k => some (sg1 k))))))), (sto, .inr (5, [.int w4, .int w5, .int w6, .int w7, .int w8, .ref st_goodsA, .ref st_ratesA])), (st_goodsA, .inl (κ 0, 6, .inl w9)), (st_ratesA, .inl (κ 0, 6, .inl w10))] ++ krF κ sg1 sg2 sg3 ps) := hD
    refine lv_iconst (v := 1) hx hb dX2_pop_48 (by decide) ?_
    have hres := Option.some.inj hres
    have h0 := (Prod.mk.inj hres).1
    replace hres := (Prod.mk.inj hres).2
    have h1 := (Prod.mk.inj hres).1
    replace hres := (Prod.mk.inj hres).2
    have h2 := (Prod.mk.inj hres).1
    replace hres := (Prod.mk.inj hres).2
    have h3 := (Prod.mk.inj hres).1
    replace hres := (Prod.mk.inj hres).2
    have h4 := (Prod.mk.inj hres).1
    replace hres := (Prod.mk.inj hres).2
    have h5 := (Prod.mk.inj hres).1
    replace hres := (Prod.mk.inj hres).2
    have h6 := (Prod.mk.inj hres).1
    replace hres := (Prod.mk.inj hres).2
    have h7 := (Prod.mk.inj hres).1
    replace hres := (Prod.mk.inj hres).2
    have h8 := (Prod.mk.inj hres).1
    replace hres := (Prod.mk.inj hres).2
    have h9 := hres
    subst h0
    subst h1
    subst h2
    subst h3
    subst h4
    subst h5
    subst h6
    subst h7
    subst h8
    subst h9
    exact hret _ _ _ _ (by decide) hP hD hS dX2_pop_49
  · replace hres := og_t c1 hres
    refine lv_iconst (v := 0) hx hb dX2_pop_7 (by decide) ?_
    have hres := Option.some.inj hres
    have h0 := (Prod.mk.inj hres).1
    replace hres := (Prod.mk.inj hres).2
    have h1 := (Prod.mk.inj hres).1
    replace hres := (Prod.mk.inj hres).2
    have h2 := (Prod.mk.inj hres).1
    replace hres := (Prod.mk.inj hres).2
    have h3 := (Prod.mk.inj hres).1
    replace hres := (Prod.mk.inj hres).2
    have h4 := (Prod.mk.inj hres).1
    replace hres := (Prod.mk.inj hres).2
    have h5 := (Prod.mk.inj hres).1
    replace hres := (Prod.mk.inj hres).2
    have h6 := (Prod.mk.inj hres).1
    replace hres := (Prod.mk.inj hres).2
    have h7 := (Prod.mk.inj hres).1
    replace hres := (Prod.mk.inj hres).2
    have h8 := (Prod.mk.inj hres).1
    replace hres := (Prod.mk.inj hres).2
    have h9 := hres
    subst h0
    subst h1
    subst h2
    subst h3
    subst h4
    subst h5
    subst h6
    subst h7
    subst h8
    subst h9
    exact hret _ _ _ _ (by decide) hP hD hS dX2_pop_8

def pX8_rate (N : Nat) (x1 : Int32) (x2 : Int32) (tl_payers : Int32) (nw_price : Int32) (nw_months : Int32) (nw_chest : Int32) (nw_given : Int32) (nw_fate : Int32) (nw_goods : Nat → Int32) (nw_rates : Nat → Int32) (pa_next : Int32) (pa_count : Int32) (ps : Nat → krS) : Option (Int32 × (Nat → Int32) × Int32 × Int32 × (Nat → krS)) :=
    kb1 (pX8_isPayer x1 tl_payers) fun r1 =>
    (if r1 = 0 then
    some ((-1000000001), nw_rates, pa_next, pa_count, ps)
    else
    kb1 (pX8_isRate x2) fun r4 =>
    (if r4 = 0 then
    some ((-1000000002), nw_rates, pa_next, pa_count, ps)
    else
    kb3 (pX2_push N pa_next pa_count ps nw_price nw_months nw_chest nw_given nw_fate nw_goods nw_rates) fun w7 w8 w9 =>
    if x1 < 0 ∨ 6 ≤ x1.toNatClampNeg then none else
    some ((nw_rates x1.toNatClampNeg), (upd nw_rates x1.toNatClampNeg x2), w7, w8, w9)))
set_option maxHeartbeats 8000000 in
set_option maxRecDepth 100000 in
theorem tX8_rate (l : Launch) (D : va_G) (κ : Nat → ClassId) (kro : Nat) (txo : Nat) (tlo : Nat) (dfo : Nat) (nwo : Nat) (aho : Nat) (pao : Nat) (iaA : Nat) (sco : Nat) (bko : Nat) (spo : Nat) (tl_goodsA : Nat) (tl_shyA : Nat) (tl_bidOfA : Nat) (tl_daysOfA : Nat) (nw_goodsA : Nat) (nw_ratesA : Nat) (saA : Nat) (sg1 : Nat → Nat) (sg2 : Nat → Nat) (sg3 : Nat → Nat) (N : Nat) (kr_drawn : Int32) (tl_stands : Int32) (tl_price : Int32) (tl_death : Int32) (tl_payers : Int32) (tl_bids : Int32) (tl_hostages : Int32) (tl_bags : Int32) (tl_bagMarks : Int32) (tl_goods : Nat → Int32) (tl_shy : Nat → Int32) (tl_bidOf : Nat → Int32) (tl_daysOf : Nat → Int32) (nw_price : Int32) (nw_months : Int32) (nw_chest : Int32) (nw_given : Int32) (nw_fate : Int32) (nw_goods : Nat → Int32) (nw_rates : Nat → Int32) (pa_next : Int32) (pa_count : Int32) (ps : Nat → krS) (x1 : Int32) (x2 : Int32) (r0 : Int32) (z_nw_rates : Nat → Int32) (z_pa_next : Int32) (z_pa_count : Int32) (z_ps : Nat → krS) (hres : pX8_rate N x1 x2 tl_payers nw_price nw_months nw_chest nw_given nw_fate nw_goods nw_rates pa_next pa_count ps = some (r0, z_nw_rates, z_pa_next, z_pa_count, z_ps)) : krI l yX8_rate wsX8_rate { frames := 2, cells := 0, slots := 0, locals := 200 } D κ [.ref kro, .int x1, .int x2] ([(kro, .inr (8, [.ref txo, .ref tlo, .ref dfo, .ref nwo, .ref aho, .ref pao, .ref iaA, .ref sco, .ref bko, .ref spo, .int kr_drawn])), (tlo, .inr (6, [.int tl_stands, .int tl_price, .int tl_death, .int tl_payers, .int tl_bids, .int tl_hostages, .int tl_bags, .int tl_bagMarks, .ref tl_goodsA, .ref tl_shyA, .ref tl_bidOfA, .ref tl_daysOfA])), (tl_goodsA, .inl (κ 0, 6, .inl tl_goods)), (tl_shyA, .inl (κ 0, 6, .inl tl_shy)), (tl_bidOfA, .inl (κ 0, 9, .inl tl_bidOf)), (tl_daysOfA, .inl (κ 0, 6, .inl tl_daysOf)), (nwo, .inr (5, [.int nw_price, .int nw_months, .int nw_chest, .int nw_given, .int nw_fate, .ref nw_goodsA, .ref nw_ratesA])), (nw_goodsA, .inl (κ 0, 6, .inl nw_goods)), (nw_ratesA, .inl (κ 0, 6, .inl nw_rates)), (pao, .inr (2, [.ref saA, .int pa_next, .int pa_count])), (saA, .inl (κ 3, 20, .inr (.inr (.inr (.inr (fun k => some (sg1 k)))))))] ++ krF κ sg1 sg2 sg3 ps) ([(kro, .inr (8, [.ref txo, .ref tlo, .ref dfo, .ref nwo, .ref aho, .ref pao, .ref iaA, .ref sco, .ref bko, .ref spo, .int kr_drawn])), (tlo, .inr (6, [.int tl_stands, .int tl_price, .int tl_death, .int tl_payers, .int tl_bids, .int tl_hostages, .int tl_bags, .int tl_bagMarks, .ref tl_goodsA, .ref tl_shyA, .ref tl_bidOfA, .ref tl_daysOfA])), (tl_goodsA, .inl (κ 0, 6, .inl tl_goods)), (tl_shyA, .inl (κ 0, 6, .inl tl_shy)), (tl_bidOfA, .inl (κ 0, 9, .inl tl_bidOf)), (tl_daysOfA, .inl (κ 0, 6, .inl tl_daysOf)), (nwo, .inr (5, [.int nw_price, .int nw_months, .int nw_chest, .int nw_given, .int nw_fate, .ref nw_goodsA, .ref nw_ratesA])), (nw_goodsA, .inl (κ 0, 6, .inl nw_goods)), (nw_ratesA, .inl (κ 0, 6, .inl z_nw_rates)), (pao, .inr (2, [.ref saA, .int z_pa_next, .int z_pa_count])), (saA, .inl (κ 3, 20, .inr (.inr (.inr (.inr (fun k => some (sg1 k)))))))] ++ krF κ sg1 sg2 sg3 z_ps) r0 := by
  refine krI_of (cc := cX8_rate) (maxL := 4) (rt := .int) (by decide) rfl (Nat.le_of_ble_eq_true rfl) ?_
  intro p e s m args below meth c A Q ls hx hb hml hown hts hK hA hret hP hD hS hl
  have hown : s.vm.findClass RX8 = some m.cls := hown
  have hl : lv_has ls 4 [(0, .ref kro), (1, .int x1), (2, .int x2)] := hl
  have iw8 : ∀ w ∈ u_ws RX8 TX8 11, w ∈ wsX8_rate := (fun _ h => List.mem_cons_of_mem _ (List.mem_append_left _ (List.mem_append_left _ (List.mem_append_left _ (List.mem_append_right _ h)))))
  have iw5 : ∀ w ∈ u_ws RX5 TX5 7, w ∈ wsX8_rate := (fun _ h => List.mem_cons_of_mem _ (List.mem_append_left _ (List.mem_append_left _ (List.mem_append_right _ h))))
  have k0 : (Cond.fieldLink RX8 39 "KingRansom" "past" "LKingRansom$Past;").before args s = true := hts _ (List.mem_of_getElem? (i := 3) rfl)
  have k1 : (Cond.fieldLink RX8 29 "KingRansom" "now" "LKingRansom$State;").before args s = true := hts _ (List.mem_of_getElem? (i := 4) rfl)
  have k2 : (Cond.initialized RX2).before args s = true := hts _ (List.mem_of_getElem? (i := 15) rfl)
  have k3 : (Cond.instanceMethod yX2_push).before args s = true := hts _ (List.mem_of_getElem? (i := 14) rfl)
  have k4 : (Cond.selects RX2 yX2_push yX2_push).before args s = true := hts _ (List.mem_of_getElem? (i := 16) rfl)
  have k5 : (Cond.constant RX8 71 (-1000000002)).before args s = true := hts _ (List.mem_of_getElem? (i := 2) rfl)
  have k6 : (Cond.constant RX8 146 (-1000000001)).before args s = true := hts _ (List.mem_of_getElem? (i := 1) rfl)
  unfold pX8_rate at hres
  refine lv_aload_n hx hb dX8_rate_0 rfl (lv_at hl 0 rfl) ?_
  refine lv_iload_n hx hb dX8_rate_1 rfl (lv_at hl 1 rfl) ?_
  obtain ⟨r1, hc2, hres⟩ := kb1_s hres
  refine krI_V_R (As := [.int x1]) (rest := []) (wr := [(nwo, .inr (5, [.int nw_price, .int nw_months, .int nw_chest, .int nw_given, .int nw_fate, .ref nw_goodsA, .ref nw_ratesA])), (nw_goodsA, .inl (κ 0, 6, .inl nw_goods)), (nw_ratesA, .inl (κ 0, 6, .inl nw_rates)), (pao, .inr (2, [.ref saA, .int pa_next, .int pa_count])), (saA, .inl (κ 3, 20, .inr (.inr (.inr (.inr (fun k => some (sg1 k)))))))]) ⟨hx, hb, hml, hown, hts⟩ hK (tX8_isPayer l D κ kro txo tlo dfo nwo aho pao iaA sco bko spo tl_goodsA tl_shyA tl_bidOfA tl_daysOfA kr_drawn tl_stands tl_price tl_death tl_payers tl_bids tl_hostages tl_bags tl_bagMarks tl_goods tl_shy tl_bidOf tl_daysOf x1 r1 hc2) (cwV 1 hts gX8_rate_X8_isPayer rfl rfl rfl (by decide +kernel) ⟨(Nat.le_of_ble_eq_true rfl), (Nat.le_of_ble_eq_true rfl)⟩) rfl rfl rfl hP hD hS hA [0, 1, 2, 3, 4, 5] [6, 7, 8, 9, 10] rfl rfl rfl rfl (by decide) rfl hl.1 rfl (Nat.le_of_ble_eq_true rfl) dX8_rate_2 ⟨Nat.zero_le _, Nat.zero_le _⟩ (fun H locs hP hD hS => ?_)
  have hP : va_P D vwCl ([(nwo, .inr (5, [.int nw_price, .int nw_months, .int nw_chest, .int nw_given, .int nw_fate, .ref nw_goodsA, .ref nw_ratesA])), (nw_goodsA, .inl (κ 0, 6, .inl nw_goods)), (nw_ratesA, .inl (κ 0, 6, .inl nw_rates)), (pao, .inr (2, [.ref saA, .int pa_next, .int pa_count])), (saA, .inl (κ 3, 20, .inr (.inr (.inr (.inr (fun k => some (sg1 k))))))), (kro, .inr (8, [.ref txo, .ref tlo, .ref dfo, .ref nwo, .ref aho, .ref pao, .ref iaA, .ref sco, .ref bko, .ref spo, .int kr_drawn])), (tlo, .inr (6, [.int tl_stands, .int tl_price, .int tl_death, .int tl_payers, .int tl_bids, .int tl_hostages, .int tl_bags, .int tl_bagMarks, .ref tl_goodsA, .ref tl_shyA, .ref tl_bidOfA, .ref tl_daysOfA])), (tl_goodsA, .inl (κ 0, 6, .inl tl_goods)), (tl_shyA, .inl (κ 0, 6, .inl tl_shy)), (tl_bidOfA, .inl (κ 0, 9, .inl tl_bidOf)), (tl_daysOfA, .inl (κ 0, 6, .inl tl_daysOf))] ++ krF κ sg1 sg2 sg3 ps) H := hP
  have hD : va_D A ([(nwo, .inr (5, [.int nw_price, .int nw_months, .int nw_chest, .int nw_given, .int nw_fate, .ref nw_goodsA, .ref nw_ratesA])), (nw_goodsA, .inl (κ 0, 6, .inl nw_goods)), (nw_ratesA, .inl (κ 0, 6, .inl nw_rates)), (pao, .inr (2, [.ref saA, .int pa_next, .int pa_count])), (saA, .inl (κ 3, 20, .inr (.inr (.inr (.inr (fun k => some (sg1 k))))))), (kro, .inr (8, [.ref txo, .ref tlo, .ref dfo, .ref nwo, .ref aho, .ref pao, .ref iaA, .ref sco, .ref bko, .ref spo, .int kr_drawn])), (tlo, .inr (6, [.int tl_stands, .int tl_price, .int tl_death, .int tl_payers, .int tl_bids, .int tl_hostages, .int tl_bags, .int tl_bagMarks, .ref tl_goodsA, .ref tl_shyA, .ref tl_bidOfA, .ref tl_daysOfA])), (tl_goodsA, .inl (κ 0, 6, .inl tl_goods)), (tl_shyA, .inl (κ 0, 6, .inl tl_shy)), (tl_bidOfA, .inl (κ 0, 9, .inl tl_bidOf)), (tl_daysOfA, .inl (κ 0, 6, .inl tl_daysOf))] ++ krF κ sg1 sg2 sg3 ps) := hD
  refine lv_if_ne (tgt := 11) hx hb dX8_rate_5 (by decide) (fun c3 => ?_) (fun c3 => ?_)
  · replace hres := og_f c3 hres
    refine lv_iload_n hx hb dX8_rate_11 rfl (lv_at hl 2 rfl) ?_
    obtain ⟨r4, hc5, hres⟩ := kb1_s hres
    refine krI_S0 (As := [.int x2]) (rest := []) ⟨hx, hb, hml, hown, hts⟩ hK (tX8_isRate l D κ x2 r4 hc5) (va_cwS 1 hts gX8_rate_X8_isRate rfl rfl rfl (by decide +kernel) ⟨(Nat.le_of_ble_eq_true rfl), (Nat.le_of_ble_eq_true rfl)⟩) hP hD hS hA rfl hl.1 rfl (Nat.le_of_ble_eq_true rfl) dX8_rate_12 ⟨Nat.zero_le _, Nat.zero_le _⟩ (fun H locs hP hD hS => ?_)
    refine lv_if_ne (tgt := 21) hx hb dX8_rate_15 (by decide) (fun c6 => ?_) (fun c6 => ?_)
    · replace hres := og_f c6 hres
      refine lv_aload_n hx hb dX8_rate_21 rfl (lv_at hl 0 rfl) ?_
      refine va_get (D := D) (ci := 8) (v := .ref pao) (C := RX8) (T := TX8) (N := 11) hx hb hts iw8 hown hK.1 hP 5 rfl rfl 5 (by decide) k0 (fun _ h9 => h9) rfl dX8_rate_22 ?_
      refine lv_aload_n hx hb dX8_rate_25 rfl (lv_at hl 0 rfl) ?_
      refine va_get (D := D) (ci := 8) (v := .ref nwo) (C := RX8) (T := TX8) (N := 11) hx hb hts iw8 hown hK.1 hP 5 rfl rfl 3 (by decide) k1 (fun _ h9 => h9) rfl dX8_rate_26 ?_
      obtain ⟨w7, w8, w9, hc10, hres⟩ := kb3_s hres
      refine krV_VN_F (As := [.ref nwo]) (rest := []) (wr := [(kro, .inr (8, [.ref txo, .ref tlo, .ref dfo, .ref nwo, .ref aho, .ref pao, .ref iaA, .ref sco, .ref bko, .ref spo, .int kr_drawn])), (tlo, .inr (6, [.int tl_stands, .int tl_price, .int tl_death, .int tl_payers, .int tl_bids, .int tl_hostages, .int tl_bags, .int tl_bagMarks, .ref tl_goodsA, .ref tl_shyA, .ref tl_bidOfA, .ref tl_daysOfA])), (tl_goodsA, .inl (κ 0, 6, .inl tl_goods)), (tl_shyA, .inl (κ 0, 6, .inl tl_shy)), (tl_bidOfA, .inl (κ 0, 9, .inl tl_bidOf)), (tl_daysOfA, .inl (κ 0, 6, .inl tl_daysOf))]) ⟨hx, hb, hml, hown, hts⟩ hK (tX2_push l D κ pao saA sg1 sg2 sg3 nwo nw_goodsA nw_ratesA N pa_next pa_count ps nw_price nw_months nw_chest nw_given nw_fate nw_goods nw_rates w7 w8 w9 hc10) ⟨va_cnB 1 hts gX8_rate_X2_push_n170 rfl rfl rfl (hK.ml 20 rfl) k2 (by decide +kernel) ⟨(Nat.le_of_ble_eq_true rfl), (Nat.le_of_ble_eq_true rfl)⟩, k3, k4⟩ rfl rfl rfl hP hD hS hA [3, 4, 0, 1, 2] [5, 6, 7, 8, 9, 10] rfl rfl rfl rfl (by decide) rfl hl.1 rfl (Nat.le_of_ble_eq_true rfl) dX8_rate_29 ⟨Nat.zero_le _, Nat.zero_le _⟩ (fun H locs hP hD hS => ?_)
      have hP : va_P D vwCl ([(kro, .inr (8, [.ref txo, .ref tlo, .ref dfo, .ref nwo, .ref aho, .ref pao, .ref iaA, .ref sco, .ref bko, .ref spo, .int kr_drawn])), (tlo, .inr (6, [.int tl_stands, .int tl_price, .int tl_death, .int tl_payers, .int tl_bids, .int tl_hostages, .int tl_bags, .int tl_bagMarks, .ref tl_goodsA, .ref tl_shyA, .ref tl_bidOfA, .ref tl_daysOfA])), (tl_goodsA, .inl (κ 0, 6, .inl tl_goods)), (tl_shyA, .inl (κ 0, 6, .inl tl_shy)), (tl_bidOfA, .inl (κ 0, 9, .inl tl_bidOf)), (tl_daysOfA, .inl (κ 0, 6, .inl tl_daysOf)), (pao, .inr (2, [.ref saA, .int w7, .int w8])), (saA, .inl (κ 3, 20, .inr (.inr (.inr (.inr (fun k => some (sg1 k))))))), (nwo, .inr (5, [.int nw_price, .int nw_months, .int nw_chest, .int nw_given, .int nw_fate, .ref nw_goodsA, .ref nw_ratesA])), (nw_goodsA, .inl (κ 0, 6, .inl nw_goods)), (nw_ratesA, .inl (κ 0, 6, .inl nw_rates))] ++ krF κ sg1 sg2 sg3 w9) H := hP
      have hD : va_D A ([(kro, .inr (8, [.ref txo, .ref tlo, .ref dfo, .ref nwo, .ref aho, .ref pao, .ref iaA, .ref sco, .ref bko, .ref spo, .int kr_drawn])), (tlo, .inr (6, [.int tl_stands, .int tl_price, .int tl_death, .int tl_payers, .int tl_bids, .int tl_hostages, .int tl_bags, .int tl_bagMarks, .ref tl_goodsA, .ref tl_shyA, .ref tl_bidOfA, .ref tl_daysOfA])), (tl_goodsA, .inl (κ 0, 6, .inl tl_goods)), (tl_shyA, .inl (κ 0, 6, .inl tl_shy)), (tl_bidOfA, .inl (κ 0, 9, .inl tl_bidOf)), (tl_daysOfA, .inl (κ 0, 6, .inl tl_daysOf)), (pao, .inr (2, [.ref saA, .int w7, .int w8])), (saA, .inl (κ 3, 20, .inr (.inr (.inr (.inr (fun k => some (sg1 k))))))), (nwo, .inr (5, [.int nw_price, .int nw_months, .int nw_chest, .int nw_given, .int nw_fate, .ref nw_goodsA, .ref nw_ratesA])), (nw_goodsA, .inl (κ 0, 6, .inl nw_goods)), (nw_ratesA, .inl (κ 0, 6, .inl nw_rates))] ++ krF κ sg1 sg2 sg3 w9) := hD
      refine lv_aload_n hx hb dX8_rate_32 rfl (lv_at hl 0 rfl) ?_
      refine va_get (D := D) (ci := 8) (v := .ref nwo) (C := RX8) (T := TX8) (N := 11) hx hb hts iw8 hown hK.1 hP 0 rfl rfl 3 (by decide) k1 (fun _ h9 => h9) rfl dX8_rate_33 ?_
      refine va_getN (D := D) (ci := 5) (v := .ref nw_ratesA) (C := RX5) (T := TX5) (N := 7) hx hb hts iw5 hown hK.1 hP 8 rfl rfl 6 (by decide) (hK.fl 37 rfl) (fun _ h9 => h9) rfl dX8_rate_36 ?_
      refine lv_iload_n hx hb dX8_rate_39 rfl (lv_at hl 1 rfl) ?_
      obtain ⟨g11, hres⟩ := og_no hres
      refine kr_iald (f := nw_rates) (j := x1.toNatClampNeg) hx hb hK hP 10 rfl g11 rfl dX8_rate_40 ?_
      refine lv_istore_n (lv' := [(3, .int (nw_rates x1.toNatClampNeg)), (0, .ref kro), (1, .int x1), (2, .int x2)]) hx hb dX8_rate_41 rfl hl (by decide) rfl (fun ls hl => ?_)
      refine lv_aload_n hx hb dX8_rate_42 rfl (lv_at hl 1 rfl) ?_
      refine va_get (D := D) (ci := 8) (v := .ref nwo) (C := RX8) (T := TX8) (N := 11) hx hb hts iw8 hown hK.1 hP 0 rfl rfl 3 (by decide) k1 (fun _ h9 => h9) rfl dX8_rate_43 ?_
      refine va_getN (D := D) (ci := 5) (v := .ref nw_ratesA) (C := RX5) (T := TX5) (N := 7) hx hb hts iw5 hown hK.1 hP 8 rfl rfl 6 (by decide) (hK.fl 37 rfl) (fun _ h9 => h9) rfl dX8_rate_46 ?_
      refine lv_iload_n hx hb dX8_rate_49 rfl (lv_at hl 2 rfl) ?_
      refine lv_iload_n hx hb dX8_rate_50 rfl (lv_at hl 3 rfl) ?_
      refine kr_iast (f := nw_rates) (j := x1.toNatClampNeg) (x := x2) hx hb hK hP hD hS 10 rfl g11 rfl dX8_rate_51 (fun H locs hP hD hS => ?_)
      have hP : va_P D vwCl ([(kro, .inr (8, [.ref txo, .ref tlo, .ref dfo, .ref nwo, .ref aho, .ref pao, .ref iaA, .ref sco, .ref bko, .ref spo, .int kr_drawn])), (tlo, .inr (6, [.int tl_stands, .int tl_price, .int tl_death, .int tl_payers, .int tl_bids, .int tl_hostages, .int tl_bags, .int tl_bagMarks, .ref tl_goodsA, .ref tl_shyA, .ref tl_bidOfA, .ref tl_daysOfA])), (tl_goodsA, .inl (κ 0, 6, .inl tl_goods)), (tl_shyA, .inl (κ 0, 6, .inl tl_shy)), (tl_bidOfA, .inl (κ 0, 9, .inl tl_bidOf)), (tl_daysOfA, .inl (κ 0, 6, .inl tl_daysOf)), (pao, .inr (2, [.ref saA, .int w7, .int w8])), (saA, .inl (κ 3, 20, .inr (.inr (.inr (.inr (fun k => some (sg1 k))))))), (nwo, .inr (5, [.int nw_price, .int nw_months, .int nw_chest, .int nw_given, .int nw_fate, .ref nw_goodsA, .ref nw_ratesA])), (nw_goodsA, .inl (κ 0, 6, .inl nw_goods)), (nw_ratesA, .inl (κ 0, 6, .inl (upd nw_rates x1.toNatClampNeg x2)))] ++ krF κ sg1 sg2 sg3 w9) H := hP
      have hD : va_D A ([(kro, .inr (8, [.ref txo, .ref tlo, .ref dfo, .ref nwo, .ref aho, .ref pao, .ref iaA, .ref sco, .ref bko, .ref spo, .int kr_drawn])), (tlo, .inr (6, [.int tl_stands, .int tl_price, .int tl_death, .int tl_payers, .int tl_bids, .int tl_hostages, .int tl_bags, .int tl_bagMarks, .ref tl_goodsA, .ref tl_shyA, .ref tl_bidOfA, .ref tl_daysOfA])), (tl_goodsA, .inl (κ 0, 6, .inl tl_goods)), (tl_shyA, .inl (κ 0, 6, .inl tl_shy)), (tl_bidOfA, .inl (κ 0, 9, .inl tl_bidOf)), (tl_daysOfA, .inl (κ 0, 6, .inl tl_daysOf)), (pao, .inr (2, [.ref saA, .int w7, .int w8])), (saA, .inl (κ 3, 20, .inr (.inr (.inr (.inr (fun k => some (sg1 k))))))), (nwo, .inr (5, [.int nw_price, .int nw_months, .int nw_chest, .int nw_given, .int nw_fate, .ref nw_goodsA, .ref nw_ratesA])), (nw_goodsA, .inl (κ 0, 6, .inl nw_goods)), (nw_ratesA, .inl (κ 0, 6, .inl (upd nw_rates x1.toNatClampNeg x2)))] ++ krF κ sg1 sg2 sg3 w9) := hD
      refine lv_iload_n hx hb dX8_rate_52 rfl (lv_at hl 0 rfl) ?_
      have hres := Option.some.inj hres
      have h0 := (Prod.mk.inj hres).1
      replace hres := (Prod.mk.inj hres).2
      have h1 := (Prod.mk.inj hres).1
      replace hres := (Prod.mk.inj hres).2
      have h2 := (Prod.mk.inj hres).1
      replace hres := (Prod.mk.inj hres).2
      have h3 := (Prod.mk.inj hres).1
      replace hres := (Prod.mk.inj hres).2
      have h4 := hres
      subst h0
      subst h1
      subst h2
      subst h3
      subst h4
      exact hret _ _ _ _ (vp_nar_int _) (kr_subP hP [0, 1, 2, 3, 4, 5, 8, 9, 10, 6, 7] rfl) (kr_subD hD [0, 1, 2, 3, 4, 5, 8, 9, 10, 6, 7] (by decide) rfl) hS dX8_rate_53
    · replace hres := og_t c6 hres
      refine lv_ldc (v := (-1000000002)) hx hb hown k5 dX8_rate_18 ?_
      have hres := Option.some.inj hres
      have h0 := (Prod.mk.inj hres).1
      replace hres := (Prod.mk.inj hres).2
      have h1 := (Prod.mk.inj hres).1
      replace hres := (Prod.mk.inj hres).2
      have h2 := (Prod.mk.inj hres).1
      replace hres := (Prod.mk.inj hres).2
      have h3 := (Prod.mk.inj hres).1
      replace hres := (Prod.mk.inj hres).2
      have h4 := hres
      subst h0
      subst h1
      subst h2
      subst h3
      subst h4
      exact hret _ _ _ _ (vp_nar_int _) (kr_subP hP [5, 6, 7, 8, 9, 10, 0, 1, 2, 3, 4] rfl) (kr_subD hD [5, 6, 7, 8, 9, 10, 0, 1, 2, 3, 4] (by decide) rfl) hS dX8_rate_20
  · replace hres := og_t c3 hres
    refine lv_ldc (v := (-1000000001)) hx hb hown k6 dX8_rate_8 ?_
    have hres := Option.some.inj hres
    have h0 := (Prod.mk.inj hres).1
    replace hres := (Prod.mk.inj hres).2
    have h1 := (Prod.mk.inj hres).1
    replace hres := (Prod.mk.inj hres).2
    have h2 := (Prod.mk.inj hres).1
    replace hres := (Prod.mk.inj hres).2
    have h3 := (Prod.mk.inj hres).1
    replace hres := (Prod.mk.inj hres).2
    have h4 := hres
    subst h0
    subst h1
    subst h2
    subst h3
    subst h4
    exact hret _ _ _ _ (vp_nar_int _) (kr_subP hP [5, 6, 7, 8, 9, 10, 0, 1, 2, 3, 4] rfl) (kr_subD hD [5, 6, 7, 8, 9, 10, 0, 1, 2, 3, 4] (by decide) rfl) hS dX8_rate_10

def pX8_month_L25 (N : Nat) (x1 : Int32) (tl_payers : Int32) (tl_shy : Nat → Int32) (nw_rates : Nat → Int32) : Nat → Int32 → Int32 → Int32 → (Nat → Int32) → Int32 → Int32 → (Nat → krS) → Option (Int32 × Int32 × Int32 × (Nat → Int32) × Int32 × Int32 × (Nat → krS))
  | 0, _, _, _, _, _, _, _ => none
  | n25 + 1, v3, w_nw_months, w_nw_chest, w_nw_goods, w_pa_next, w_pa_count, w_ps =>
    (if x1 ≤ v3 then
    some (w_nw_chest, w_nw_months, w_nw_chest, w_nw_goods, w_pa_next, w_pa_count, w_ps)
    else
    kb3 (pX5_passMonth N w_nw_months w_nw_chest w_nw_goods nw_rates tl_payers tl_shy) fun w9 w10 w11 =>
    pX8_month_L25 N x1 tl_payers tl_shy nw_rates n25 (v3 + 1) w9 w10 w11 w_pa_next w_pa_count w_ps)
def pX8_month (N : Nat) (x1 : Int32) (tl_stands : Int32) (tl_payers : Int32) (tl_shy : Nat → Int32) (nw_price : Int32) (nw_months : Int32) (nw_chest : Int32) (nw_given : Int32) (nw_fate : Int32) (nw_goods : Nat → Int32) (nw_rates : Nat → Int32) (pa_next : Int32) (pa_count : Int32) (ps : Nat → krS) : Option (Int32 × Int32 × Int32 × (Nat → Int32) × Int32 × Int32 × (Nat → krS)) :=
    kb1 (pX8_refusalOfMonths x1 tl_stands nw_months nw_fate) fun r1 =>
    (if r1 = 0 then
    kb3 (pX2_push N pa_next pa_count ps nw_price nw_months nw_chest nw_given nw_fate nw_goods nw_rates) fun w4 w5 w6 =>
    pX8_month_L25 N x1 tl_payers tl_shy nw_rates N 0 nw_months nw_chest nw_goods w4 w5 w6
    else
    some (r1, nw_months, nw_chest, nw_goods, pa_next, pa_count, ps))
set_option maxHeartbeats 8000000 in
set_option maxRecDepth 100000 in
theorem tX8_month (l : Launch) (D : va_G) (κ : Nat → ClassId) (kro : Nat) (txo : Nat) (tlo : Nat) (dfo : Nat) (nwo : Nat) (aho : Nat) (pao : Nat) (iaA : Nat) (sco : Nat) (bko : Nat) (spo : Nat) (tl_goodsA : Nat) (tl_shyA : Nat) (tl_bidOfA : Nat) (tl_daysOfA : Nat) (nw_goodsA : Nat) (nw_ratesA : Nat) (saA : Nat) (sg1 : Nat → Nat) (sg2 : Nat → Nat) (sg3 : Nat → Nat) (N : Nat) (kr_drawn : Int32) (tl_stands : Int32) (tl_price : Int32) (tl_death : Int32) (tl_payers : Int32) (tl_bids : Int32) (tl_hostages : Int32) (tl_bags : Int32) (tl_bagMarks : Int32) (tl_goods : Nat → Int32) (tl_shy : Nat → Int32) (tl_bidOf : Nat → Int32) (tl_daysOf : Nat → Int32) (nw_price : Int32) (nw_months : Int32) (nw_chest : Int32) (nw_given : Int32) (nw_fate : Int32) (nw_goods : Nat → Int32) (nw_rates : Nat → Int32) (pa_next : Int32) (pa_count : Int32) (ps : Nat → krS) (x1 : Int32) (r0 : Int32) (z_nw_months : Int32) (z_nw_chest : Int32) (z_nw_goods : Nat → Int32) (z_pa_next : Int32) (z_pa_count : Int32) (z_ps : Nat → krS) (hres : pX8_month N x1 tl_stands tl_payers tl_shy nw_price nw_months nw_chest nw_given nw_fate nw_goods nw_rates pa_next pa_count ps = some (r0, z_nw_months, z_nw_chest, z_nw_goods, z_pa_next, z_pa_count, z_ps)) : krI l yX8_month wsX8_month { frames := 4, cells := 0, slots := 0, locals := 400 } D κ [.ref kro, .int x1] ([(kro, .inr (8, [.ref txo, .ref tlo, .ref dfo, .ref nwo, .ref aho, .ref pao, .ref iaA, .ref sco, .ref bko, .ref spo, .int kr_drawn])), (tlo, .inr (6, [.int tl_stands, .int tl_price, .int tl_death, .int tl_payers, .int tl_bids, .int tl_hostages, .int tl_bags, .int tl_bagMarks, .ref tl_goodsA, .ref tl_shyA, .ref tl_bidOfA, .ref tl_daysOfA])), (tl_goodsA, .inl (κ 0, 6, .inl tl_goods)), (tl_shyA, .inl (κ 0, 6, .inl tl_shy)), (tl_bidOfA, .inl (κ 0, 9, .inl tl_bidOf)), (tl_daysOfA, .inl (κ 0, 6, .inl tl_daysOf)), (nwo, .inr (5, [.int nw_price, .int nw_months, .int nw_chest, .int nw_given, .int nw_fate, .ref nw_goodsA, .ref nw_ratesA])), (nw_goodsA, .inl (κ 0, 6, .inl nw_goods)), (nw_ratesA, .inl (κ 0, 6, .inl nw_rates)), (pao, .inr (2, [.ref saA, .int pa_next, .int pa_count])), (saA, .inl (κ 3, 20, .inr (.inr (.inr (.inr (fun k => some (sg1 k)))))))] ++ krF κ sg1 sg2 sg3 ps) ([(kro, .inr (8, [.ref txo, .ref tlo, .ref dfo, .ref nwo, .ref aho, .ref pao, .ref iaA, .ref sco, .ref bko, .ref spo, .int kr_drawn])), (tlo, .inr (6, [.int tl_stands, .int tl_price, .int tl_death, .int tl_payers, .int tl_bids, .int tl_hostages, .int tl_bags, .int tl_bagMarks, .ref tl_goodsA, .ref tl_shyA, .ref tl_bidOfA, .ref tl_daysOfA])), (tl_goodsA, .inl (κ 0, 6, .inl tl_goods)), (tl_shyA, .inl (κ 0, 6, .inl tl_shy)), (tl_bidOfA, .inl (κ 0, 9, .inl tl_bidOf)), (tl_daysOfA, .inl (κ 0, 6, .inl tl_daysOf)), (nwo, .inr (5, [.int nw_price, .int z_nw_months, .int z_nw_chest, .int nw_given, .int nw_fate, .ref nw_goodsA, .ref nw_ratesA])), (nw_goodsA, .inl (κ 0, 6, .inl z_nw_goods)), (nw_ratesA, .inl (κ 0, 6, .inl nw_rates)), (pao, .inr (2, [.ref saA, .int z_pa_next, .int z_pa_count])), (saA, .inl (κ 3, 20, .inr (.inr (.inr (.inr (fun k => some (sg1 k)))))))] ++ krF κ sg1 sg2 sg3 z_ps) r0 := by
  refine krI_of (cc := cX8_month) (maxL := 4) (rt := .int) (by decide) rfl (Nat.le_of_ble_eq_true rfl) ?_
  intro p e s m args below meth c A Q ls hx hb hml hown hts hK hA hret hP hD hS hl
  have hown : s.vm.findClass RX8 = some m.cls := hown
  have hl : lv_has ls 4 [(0, .ref kro), (1, .int x1)] := hl
  have iw8 : ∀ w ∈ u_ws RX8 TX8 11, w ∈ wsX8_month := (fun _ h => List.mem_cons_of_mem _ (List.mem_append_left _ (List.mem_append_left _ (List.mem_append_left _ (List.mem_append_right _ h)))))
  have iw5 : ∀ w ∈ u_ws RX5 TX5 7, w ∈ wsX8_month := (fun _ h => List.mem_cons_of_mem _ (List.mem_append_left _ (List.mem_append_left _ (List.mem_append_right _ h))))
  have k0 : (Cond.fieldLink RX8 39 "KingRansom" "past" "LKingRansom$Past;").before args s = true := hts _ (List.mem_of_getElem? (i := 1) rfl)
  have k1 : (Cond.fieldLink RX8 29 "KingRansom" "now" "LKingRansom$State;").before args s = true := hts _ (List.mem_of_getElem? (i := 2) rfl)
  have k2 : (Cond.initialized RX2).before args s = true := hts _ (List.mem_of_getElem? (i := 17) rfl)
  have k3 : (Cond.instanceMethod yX2_push).before args s = true := hts _ (List.mem_of_getElem? (i := 16) rfl)
  have k4 : (Cond.selects RX2 yX2_push yX2_push).before args s = true := hts _ (List.mem_of_getElem? (i := 18) rfl)
  have k5 : (Cond.fieldLink RX8 19 "KingRansom" "tale" "LKingRansom$Tale;").before args s = true := hts _ (List.mem_of_getElem? (i := 3) rfl)
  have k6 : (Cond.initialized RX5).before args s = true := hts _ (List.mem_of_getElem? (i := 28) rfl)
  have k7 : (Cond.instanceMethod yX5_passMonth).before args s = true := hts _ (List.mem_of_getElem? (i := 38) rfl)
  have k8 : (Cond.selects RX5 yX5_passMonth yX5_passMonth).before args s = true := hts _ (List.mem_of_getElem? (i := 39) rfl)
  have L25 : ∀ (n25 : Nat) (v3 : Int32) (w_nw_months : Int32) (w_nw_chest : Int32) (w_nw_goods : Nat → Int32) (w_pa_next : Int32) (w_pa_count : Int32) (w_ps : Nat → krS) (H : Heap) (locs : List Loc) (ls : Array Slot), va_P D vwCl ([(kro, .inr (8, [.ref txo, .ref tlo, .ref dfo, .ref nwo, .ref aho, .ref pao, .ref iaA, .ref sco, .ref bko, .ref spo, .int kr_drawn])), (tlo, .inr (6, [.int tl_stands, .int tl_price, .int tl_death, .int tl_payers, .int tl_bids, .int tl_hostages, .int tl_bags, .int tl_bagMarks, .ref tl_goodsA, .ref tl_shyA, .ref tl_bidOfA, .ref tl_daysOfA])), (tl_goodsA, .inl (κ 0, 6, .inl tl_goods)), (tl_shyA, .inl (κ 0, 6, .inl tl_shy)), (tl_bidOfA, .inl (κ 0, 9, .inl tl_bidOf)), (tl_daysOfA, .inl (κ 0, 6, .inl tl_daysOf)), (nwo, .inr (5, [.int nw_price, .int w_nw_months, .int w_nw_chest, .int nw_given, .int nw_fate, .ref nw_goodsA, .ref nw_ratesA])), (nw_goodsA, .inl (κ 0, 6, .inl w_nw_goods)), (nw_ratesA, .inl (κ 0, 6, .inl nw_rates)), (pao, .inr (2, [.ref saA, .int w_pa_next, .int w_pa_count])), (saA, .inl (κ 3, 20, .inr (.inr (.inr (.inr (fun k => some (sg1 k)))))))] ++ krF κ sg1 sg2 sg3 w_ps) H → va_D A ([(kro, .inr (8, [.ref txo, .ref tlo, .ref dfo, .ref nwo, .ref aho, .ref pao, .ref iaA, .ref sco, .ref bko, .ref spo, .int kr_drawn])), (tlo, .inr (6, [.int tl_stands, .int tl_price, .int tl_death, .int tl_payers, .int tl_bids, .int tl_hostages, .int tl_bags, .int tl_bagMarks, .ref tl_goodsA, .ref tl_shyA, .ref tl_bidOfA, .ref tl_daysOfA])), (tl_goodsA, .inl (κ 0, 6, .inl tl_goods)), (tl_shyA, .inl (κ 0, 6, .inl tl_shy)), (tl_bidOfA, .inl (κ 0, 9, .inl tl_bidOf)), (tl_daysOfA, .inl (κ 0, 6, .inl tl_daysOf)), (nwo, .inr (5, [.int nw_price, .int w_nw_months, .int w_nw_chest, .int nw_given, .int nw_fate, .ref nw_goodsA, .ref nw_ratesA])), (nw_goodsA, .inl (κ 0, 6, .inl w_nw_goods)), (nw_ratesA, .inl (κ 0, 6, .inl nw_rates)), (pao, .inr (2, [.ref saA, .int w_pa_next, .int w_pa_count])), (saA, .inl (κ 3, 20, .inr (.inr (.inr (.inr (fun k => some (sg1 k)))))))] ++ krF κ sg1 sg2 sg3 w_ps) → va_S A s.heap H locs → lv_has ls 4 [(0, .ref kro), (1, .int x1), (3, .int v3)] → pX8_month_L25 N x1 tl_payers tl_shy nw_rates n25 v3 w_nw_months w_nw_chest w_nw_goods w_pa_next w_pa_count w_ps = some (r0, z_nw_months, z_nw_chest, z_nw_goods, z_pa_next, z_pa_count, z_ps) → W p l e { frames := 4, cells := 0, slots := 0, locals := 400 } s m args below meth c H locs 0 0 Q (F0 m 25 ls []) := by
    intro n25
    induction n25 with
    | zero =>
      intro v3 w_nw_months w_nw_chest w_nw_goods w_pa_next w_pa_count w_ps H locs ls hP hD hS hl hres
      exact absurd (show none = some _ from hres) (by simp)
    | succ n25 ih25 =>
      intro v3 w_nw_months w_nw_chest w_nw_goods w_pa_next w_pa_count w_ps H locs ls hP hD hS hl hres
      rw [pX8_month_L25] at hres
      refine lv_iload_n hx hb dX8_month_25 rfl (lv_at hl 2 rfl) ?_
      refine lv_iload_n hx hb dX8_month_26 rfl (lv_at hl 1 rfl) ?_
      refine lv_icmp_ge (tgt := 47) hx hb dX8_month_27 (by decide) (fun c8 => ?_) (fun c8 => ?_)
      · replace hres := og_t c8 hres
        refine lv_aload_n hx hb dX8_month_47 rfl (lv_at hl 0 rfl) ?_
        refine va_get (D := D) (ci := 8) (v := .ref nwo) (C := RX8) (T := TX8) (N := 11) hx hb hts iw8 hown hK.1 hP 0 rfl rfl 3 (by decide) k1 (fun _ h9 => h9) rfl dX8_month_48 ?_
        refine va_getN (D := D) (ci := 5) (v := .int w_nw_chest) (C := RX5) (T := TX5) (N := 7) hx hb hts iw5 hown hK.1 hP 6 rfl rfl 2 (by decide) (hK.fl 31 rfl) (fun _ h9 => h9) rfl dX8_month_51 ?_
        have hres := Option.some.inj hres
        have h0 := (Prod.mk.inj hres).1
        replace hres := (Prod.mk.inj hres).2
        have h1 := (Prod.mk.inj hres).1
        replace hres := (Prod.mk.inj hres).2
        have h2 := (Prod.mk.inj hres).1
        replace hres := (Prod.mk.inj hres).2
        have h3 := (Prod.mk.inj hres).1
        replace hres := (Prod.mk.inj hres).2
        have h4 := (Prod.mk.inj hres).1
        replace hres := (Prod.mk.inj hres).2
        have h5 := (Prod.mk.inj hres).1
        replace hres := (Prod.mk.inj hres).2
        have h6 := hres
        subst h0
        subst h1
        subst h2
        subst h3
        subst h4
        subst h5
        subst h6
        exact hret _ _ _ _ (vp_nar_int _) hP hD hS dX8_month_54
      · replace hres := og_f c8 hres
        refine lv_aload_n hx hb dX8_month_30 rfl (lv_at hl 0 rfl) ?_
        refine va_get (D := D) (ci := 8) (v := .ref nwo) (C := RX8) (T := TX8) (N := 11) hx hb hts iw8 hown hK.1 hP 0 rfl rfl 3 (by decide) k1 (fun _ h9 => h9) rfl dX8_month_31 ?_
        refine lv_aload_n hx hb dX8_month_34 rfl (lv_at hl 0 rfl) ?_
        refine va_get (D := D) (ci := 8) (v := .ref tlo) (C := RX8) (T := TX8) (N := 11) hx hb hts iw8 hown hK.1 hP 0 rfl rfl 1 (by decide) k5 (fun _ h9 => h9) rfl dX8_month_35 ?_
        obtain ⟨w9, w10, w11, hc12, hres⟩ := kb3_s hres
        refine krV_VN_R (As := [.ref tlo]) (rest := []) (wr := [(kro, .inr (8, [.ref txo, .ref tlo, .ref dfo, .ref nwo, .ref aho, .ref pao, .ref iaA, .ref sco, .ref bko, .ref spo, .int kr_drawn])), (pao, .inr (2, [.ref saA, .int w_pa_next, .int w_pa_count])), (saA, .inl (κ 3, 20, .inr (.inr (.inr (.inr (fun k => some (sg1 k)))))))]) ⟨hx, hb, hml, hown, hts⟩ hK (tX5_passMonth l D κ nwo nw_goodsA nw_ratesA tlo tl_goodsA tl_shyA tl_bidOfA tl_daysOfA N nw_price w_nw_months w_nw_chest nw_given nw_fate w_nw_goods nw_rates tl_stands tl_price tl_death tl_payers tl_bids tl_hostages tl_bags tl_bagMarks tl_goods tl_shy tl_bidOf tl_daysOf w9 w10 w11 hc12) ⟨va_cnB 1 hts gX8_month_X5_passMonth_n178 rfl rfl rfl (hK.ml 22 rfl) k6 (by decide +kernel) ⟨(Nat.le_of_ble_eq_true rfl), (Nat.le_of_ble_eq_true rfl)⟩, k7, k8⟩ rfl rfl rfl hP hD hS hA [6, 7, 8, 1, 2, 3, 4, 5] [0, 9, 10] rfl rfl rfl rfl (by decide) rfl hl.1 rfl (Nat.le_of_ble_eq_true rfl) dX8_month_38 ⟨Nat.zero_le _, Nat.zero_le _⟩ (fun H locs hP hD hS => ?_)
        have hP : va_P D vwCl ([(kro, .inr (8, [.ref txo, .ref tlo, .ref dfo, .ref nwo, .ref aho, .ref pao, .ref iaA, .ref sco, .ref bko, .ref spo, .int kr_drawn])), (pao, .inr (2, [.ref saA, .int w_pa_next, .int w_pa_count])), (saA, .inl (κ 3, 20, .inr (.inr (.inr (.inr (fun k => some (sg1 k))))))), (nwo, .inr (5, [.int nw_price, .int w9, .int w10, .int nw_given, .int nw_fate, .ref nw_goodsA, .ref nw_ratesA])), (nw_goodsA, .inl (κ 0, 6, .inl w11)), (nw_ratesA, .inl (κ 0, 6, .inl nw_rates)), (tlo, .inr (6, [.int tl_stands, .int tl_price, .int tl_death, .int tl_payers, .int tl_bids, .int tl_hostages, .int tl_bags, .int tl_bagMarks, .ref tl_goodsA, .ref tl_shyA, .ref tl_bidOfA, .ref tl_daysOfA])), (tl_goodsA, .inl (κ 0, 6, .inl tl_goods)), (tl_shyA, .inl (κ 0, 6, .inl tl_shy)), (tl_bidOfA, .inl (κ 0, 9, .inl tl_bidOf)), (tl_daysOfA, .inl (κ 0, 6, .inl tl_daysOf))] ++ krF κ sg1 sg2 sg3 w_ps) H := hP
        have hD : va_D A ([(kro, .inr (8, [.ref txo, .ref tlo, .ref dfo, .ref nwo, .ref aho, .ref pao, .ref iaA, .ref sco, .ref bko, .ref spo, .int kr_drawn])), (pao, .inr (2, [.ref saA, .int w_pa_next, .int w_pa_count])), (saA, .inl (κ 3, 20, .inr (.inr (.inr (.inr (fun k => some (sg1 k))))))), (nwo, .inr (5, [.int nw_price, .int w9, .int w10, .int nw_given, .int nw_fate, .ref nw_goodsA, .ref nw_ratesA])), (nw_goodsA, .inl (κ 0, 6, .inl w11)), (nw_ratesA, .inl (κ 0, 6, .inl nw_rates)), (tlo, .inr (6, [.int tl_stands, .int tl_price, .int tl_death, .int tl_payers, .int tl_bids, .int tl_hostages, .int tl_bags, .int tl_bagMarks, .ref tl_goodsA, .ref tl_shyA, .ref tl_bidOfA, .ref tl_daysOfA])), (tl_goodsA, .inl (κ 0, 6, .inl tl_goods)), (tl_shyA, .inl (κ 0, 6, .inl tl_shy)), (tl_bidOfA, .inl (κ 0, 9, .inl tl_bidOf)), (tl_daysOfA, .inl (κ 0, 6, .inl tl_daysOf))] ++ krF κ sg1 sg2 sg3 w_ps) := hD
        refine lv_iinc (v := (v3 + 1)) (lv' := [(3, .int (v3 + 1)), (0, .ref kro), (1, .int x1)]) hx hb dX8_month_41 hl (k := 2) rfl rfl (by decide) rfl (fun ls hl => ?_)
        refine lv_goto (tgt := 25) hx hb dX8_month_44 (by decide) ?_
        exact ih25 (v3 + 1) w9 w10 w11 w_pa_next w_pa_count w_ps _ _ _ (kr_subP hP [0, 6, 7, 8, 9, 10, 3, 4, 5, 1, 2] rfl) (kr_subD hD [0, 6, 7, 8, 9, 10, 3, 4, 5, 1, 2] (by decide) rfl) hS (lv_sub hl [1, 2, 0] rfl) hres
  unfold pX8_month at hres
  refine lv_aload_n hx hb dX8_month_0 rfl (lv_at hl 0 rfl) ?_
  refine lv_iload_n hx hb dX8_month_1 rfl (lv_at hl 1 rfl) ?_
  obtain ⟨r1, hc2, hres⟩ := kb1_s hres
  refine krI_V_R (As := [.int x1]) (rest := []) (wr := [(pao, .inr (2, [.ref saA, .int pa_next, .int pa_count])), (saA, .inl (κ 3, 20, .inr (.inr (.inr (.inr (fun k => some (sg1 k)))))))]) ⟨hx, hb, hml, hown, hts⟩ hK (tX8_refusalOfMonths l D κ kro txo tlo dfo nwo aho pao iaA sco bko spo tl_goodsA tl_shyA tl_bidOfA tl_daysOfA nw_goodsA nw_ratesA kr_drawn tl_stands tl_price tl_death tl_payers tl_bids tl_hostages tl_bags tl_bagMarks tl_goods tl_shy tl_bidOf tl_daysOf nw_price nw_months nw_chest nw_given nw_fate nw_goods nw_rates x1 r1 hc2) (cwV 1 hts gX8_month_X8_refusalOfMonths rfl rfl rfl (by decide +kernel) ⟨(Nat.le_of_ble_eq_true rfl), (Nat.le_of_ble_eq_true rfl)⟩) rfl rfl rfl hP hD hS hA [0, 1, 2, 3, 4, 5, 6, 7, 8] [9, 10] rfl rfl rfl rfl (by decide) rfl hl.1 rfl (Nat.le_of_ble_eq_true rfl) dX8_month_2 ⟨Nat.zero_le _, Nat.zero_le _⟩ (fun H locs hP hD hS => ?_)
  have hP : va_P D vwCl ([(pao, .inr (2, [.ref saA, .int pa_next, .int pa_count])), (saA, .inl (κ 3, 20, .inr (.inr (.inr (.inr (fun k => some (sg1 k))))))), (kro, .inr (8, [.ref txo, .ref tlo, .ref dfo, .ref nwo, .ref aho, .ref pao, .ref iaA, .ref sco, .ref bko, .ref spo, .int kr_drawn])), (tlo, .inr (6, [.int tl_stands, .int tl_price, .int tl_death, .int tl_payers, .int tl_bids, .int tl_hostages, .int tl_bags, .int tl_bagMarks, .ref tl_goodsA, .ref tl_shyA, .ref tl_bidOfA, .ref tl_daysOfA])), (tl_goodsA, .inl (κ 0, 6, .inl tl_goods)), (tl_shyA, .inl (κ 0, 6, .inl tl_shy)), (tl_bidOfA, .inl (κ 0, 9, .inl tl_bidOf)), (tl_daysOfA, .inl (κ 0, 6, .inl tl_daysOf)), (nwo, .inr (5, [.int nw_price, .int nw_months, .int nw_chest, .int nw_given, .int nw_fate, .ref nw_goodsA, .ref nw_ratesA])), (nw_goodsA, .inl (κ 0, 6, .inl nw_goods)), (nw_ratesA, .inl (κ 0, 6, .inl nw_rates))] ++ krF κ sg1 sg2 sg3 ps) H := hP
  have hD : va_D A ([(pao, .inr (2, [.ref saA, .int pa_next, .int pa_count])), (saA, .inl (κ 3, 20, .inr (.inr (.inr (.inr (fun k => some (sg1 k))))))), (kro, .inr (8, [.ref txo, .ref tlo, .ref dfo, .ref nwo, .ref aho, .ref pao, .ref iaA, .ref sco, .ref bko, .ref spo, .int kr_drawn])), (tlo, .inr (6, [.int tl_stands, .int tl_price, .int tl_death, .int tl_payers, .int tl_bids, .int tl_hostages, .int tl_bags, .int tl_bagMarks, .ref tl_goodsA, .ref tl_shyA, .ref tl_bidOfA, .ref tl_daysOfA])), (tl_goodsA, .inl (κ 0, 6, .inl tl_goods)), (tl_shyA, .inl (κ 0, 6, .inl tl_shy)), (tl_bidOfA, .inl (κ 0, 9, .inl tl_bidOf)), (tl_daysOfA, .inl (κ 0, 6, .inl tl_daysOf)), (nwo, .inr (5, [.int nw_price, .int nw_months, .int nw_chest, .int nw_given, .int nw_fate, .ref nw_goodsA, .ref nw_ratesA])), (nw_goodsA, .inl (κ 0, 6, .inl nw_goods)), (nw_ratesA, .inl (κ 0, 6, .inl nw_rates))] ++ krF κ sg1 sg2 sg3 ps) := hD
  refine lv_istore_n (lv' := [(2, .int r1), (0, .ref kro), (1, .int x1)]) hx hb dX8_month_5 rfl hl (by decide) rfl (fun ls hl => ?_)
  refine lv_iload_n hx hb dX8_month_6 rfl (lv_at hl 0 rfl) ?_
  refine lv_if_eq (tgt := 12) hx hb dX8_month_7 (by decide) (fun c3 => ?_) (fun c3 => ?_)
  · replace hres := og_t c3 hres
    refine lv_aload_n hx hb dX8_month_12 rfl (lv_at hl 1 rfl) ?_
    refine va_get (D := D) (ci := 8) (v := .ref pao) (C := RX8) (T := TX8) (N := 11) hx hb hts iw8 hown hK.1 hP 2 rfl rfl 5 (by decide) k0 (fun _ h9 => h9) rfl dX8_month_13 ?_
    refine lv_aload_n hx hb dX8_month_16 rfl (lv_at hl 1 rfl) ?_
    refine va_get (D := D) (ci := 8) (v := .ref nwo) (C := RX8) (T := TX8) (N := 11) hx hb hts iw8 hown hK.1 hP 2 rfl rfl 3 (by decide) k1 (fun _ h9 => h9) rfl dX8_month_17 ?_
    obtain ⟨w4, w5, w6, hc7, hres⟩ := kb3_s hres
    refine krV_VN_F (As := [.ref nwo]) (rest := []) (wr := [(kro, .inr (8, [.ref txo, .ref tlo, .ref dfo, .ref nwo, .ref aho, .ref pao, .ref iaA, .ref sco, .ref bko, .ref spo, .int kr_drawn])), (tlo, .inr (6, [.int tl_stands, .int tl_price, .int tl_death, .int tl_payers, .int tl_bids, .int tl_hostages, .int tl_bags, .int tl_bagMarks, .ref tl_goodsA, .ref tl_shyA, .ref tl_bidOfA, .ref tl_daysOfA])), (tl_goodsA, .inl (κ 0, 6, .inl tl_goods)), (tl_shyA, .inl (κ 0, 6, .inl tl_shy)), (tl_bidOfA, .inl (κ 0, 9, .inl tl_bidOf)), (tl_daysOfA, .inl (κ 0, 6, .inl tl_daysOf))]) ⟨hx, hb, hml, hown, hts⟩ hK (tX2_push l D κ pao saA sg1 sg2 sg3 nwo nw_goodsA nw_ratesA N pa_next pa_count ps nw_price nw_months nw_chest nw_given nw_fate nw_goods nw_rates w4 w5 w6 hc7) ⟨va_cnB 1 hts gX8_month_X2_push_n170 rfl rfl rfl (hK.ml 20 rfl) k2 (by decide +kernel) ⟨(Nat.le_of_ble_eq_true rfl), (Nat.le_of_ble_eq_true rfl)⟩, k3, k4⟩ rfl rfl rfl hP hD hS hA [0, 1, 8, 9, 10] [2, 3, 4, 5, 6, 7] rfl rfl rfl rfl (by decide) rfl hl.1 rfl (Nat.le_of_ble_eq_true rfl) dX8_month_20 ⟨Nat.zero_le _, Nat.zero_le _⟩ (fun H locs hP hD hS => ?_)
    have hP : va_P D vwCl ([(kro, .inr (8, [.ref txo, .ref tlo, .ref dfo, .ref nwo, .ref aho, .ref pao, .ref iaA, .ref sco, .ref bko, .ref spo, .int kr_drawn])), (tlo, .inr (6, [.int tl_stands, .int tl_price, .int tl_death, .int tl_payers, .int tl_bids, .int tl_hostages, .int tl_bags, .int tl_bagMarks, .ref tl_goodsA, .ref tl_shyA, .ref tl_bidOfA, .ref tl_daysOfA])), (tl_goodsA, .inl (κ 0, 6, .inl tl_goods)), (tl_shyA, .inl (κ 0, 6, .inl tl_shy)), (tl_bidOfA, .inl (κ 0, 9, .inl tl_bidOf)), (tl_daysOfA, .inl (κ 0, 6, .inl tl_daysOf)), (pao, .inr (2, [.ref saA, .int w4, .int w5])), (saA, .inl (κ 3, 20, .inr (.inr (.inr (.inr (fun k => some (sg1 k))))))), (nwo, .inr (5, [.int nw_price, .int nw_months, .int nw_chest, .int nw_given, .int nw_fate, .ref nw_goodsA, .ref nw_ratesA])), (nw_goodsA, .inl (κ 0, 6, .inl nw_goods)), (nw_ratesA, .inl (κ 0, 6, .inl nw_rates))] ++ krF κ sg1 sg2 sg3 w6) H := hP
    have hD : va_D A ([(kro, .inr (8, [.ref txo, .ref tlo, .ref dfo, .ref nwo, .ref aho, .ref pao, .ref iaA, .ref sco, .ref bko, .ref spo, .int kr_drawn])), (tlo, .inr (6, [.int tl_stands, .int tl_price, .int tl_death, .int tl_payers, .int tl_bids, .int tl_hostages, .int tl_bags, .int tl_bagMarks, .ref tl_goodsA, .ref tl_shyA, .ref tl_bidOfA, .ref tl_daysOfA])), (tl_goodsA, .inl (κ 0, 6, .inl tl_goods)), (tl_shyA, .inl (κ 0, 6, .inl tl_shy)), (tl_bidOfA, .inl (κ 0, 9, .inl tl_bidOf)), (tl_daysOfA, .inl (κ 0, 6, .inl tl_daysOf)), (pao, .inr (2, [.ref saA, .int w4, .int w5])), (saA, .inl (κ 3, 20, .inr (.inr (.inr (.inr (fun k => some (sg1 k))))))), (nwo, .inr (5, [.int nw_price, .int nw_months, .int nw_chest, .int nw_given, .int nw_fate, .ref nw_goodsA, .ref nw_ratesA])), (nw_goodsA, .inl (κ 0, 6, .inl nw_goods)), (nw_ratesA, .inl (κ 0, 6, .inl nw_rates))] ++ krF κ sg1 sg2 sg3 w6) := hD
    refine lv_iconst (v := 0) hx hb dX8_month_23 (by decide) ?_
    refine lv_istore_n (lv' := [(3, .int 0), (2, .int r1), (0, .ref kro), (1, .int x1)]) hx hb dX8_month_24 rfl hl (by decide) rfl (fun ls hl => ?_)
    exact L25 N 0 nw_months nw_chest nw_goods w4 w5 w6 _ _ _ (kr_subP hP [0, 1, 2, 3, 4, 5, 8, 9, 10, 6, 7] rfl) (kr_subD hD [0, 1, 2, 3, 4, 5, 8, 9, 10, 6, 7] (by decide) rfl) hS (lv_sub hl [2, 3, 0] rfl) hres
  · replace hres := og_f c3 hres
    refine lv_iload_n hx hb dX8_month_10 rfl (lv_at hl 0 rfl) ?_
    have hres := Option.some.inj hres
    have h0 := (Prod.mk.inj hres).1
    replace hres := (Prod.mk.inj hres).2
    have h1 := (Prod.mk.inj hres).1
    replace hres := (Prod.mk.inj hres).2
    have h2 := (Prod.mk.inj hres).1
    replace hres := (Prod.mk.inj hres).2
    have h3 := (Prod.mk.inj hres).1
    replace hres := (Prod.mk.inj hres).2
    have h4 := (Prod.mk.inj hres).1
    replace hres := (Prod.mk.inj hres).2
    have h5 := (Prod.mk.inj hres).1
    replace hres := (Prod.mk.inj hres).2
    have h6 := hres
    subst h0
    subst h1
    subst h2
    subst h3
    subst h4
    subst h5
    subst h6
    exact hret _ _ _ _ (vp_nar_int _) (kr_subP hP [2, 3, 4, 5, 6, 7, 8, 9, 10, 0, 1] rfl) (kr_subD hD [2, 3, 4, 5, 6, 7, 8, 9, 10, 0, 1] (by decide) rfl) hS dX8_month_11

def pX8_raise (N : Nat) (x1 : Int32) (tl_stands : Int32) (nw_price : Int32) (nw_months : Int32) (nw_chest : Int32) (nw_given : Int32) (nw_fate : Int32) (nw_goods : Nat → Int32) (nw_rates : Nat → Int32) (pa_next : Int32) (pa_count : Int32) (ps : Nat → krS) : Option (Int32 × Int32 × Int32 × Int32 × (Nat → krS)) :=
    (if x1 < 1 then
    some ((-1000000002), nw_price, pa_next, pa_count, ps)
    else
    (if x1 ≤ 999 then
    kb1 (pX8_isKept tl_stands nw_fate) fun r3 =>
    (if r3 = 0 then
    some ((-1000000003), nw_price, pa_next, pa_count, ps)
    else
    kb3 (pX2_push N pa_next pa_count ps nw_price nw_months nw_chest nw_given nw_fate nw_goods nw_rates) fun w6 w7 w8 =>
    kl (if (nw_price + x1) < (9999 : Int32) then (nw_price + x1) else 9999) fun y10 =>
    some (y10, y10, w6, w7, w8))
    else
    some ((-1000000002), nw_price, pa_next, pa_count, ps)))
set_option maxHeartbeats 8000000 in
set_option maxRecDepth 100000 in
theorem tX8_raise (l : Launch) (D : va_G) (κ : Nat → ClassId) (kro : Nat) (txo : Nat) (tlo : Nat) (dfo : Nat) (nwo : Nat) (aho : Nat) (pao : Nat) (iaA : Nat) (sco : Nat) (bko : Nat) (spo : Nat) (tl_goodsA : Nat) (tl_shyA : Nat) (tl_bidOfA : Nat) (tl_daysOfA : Nat) (nw_goodsA : Nat) (nw_ratesA : Nat) (saA : Nat) (sg1 : Nat → Nat) (sg2 : Nat → Nat) (sg3 : Nat → Nat) (N : Nat) (kr_drawn : Int32) (tl_stands : Int32) (tl_price : Int32) (tl_death : Int32) (tl_payers : Int32) (tl_bids : Int32) (tl_hostages : Int32) (tl_bags : Int32) (tl_bagMarks : Int32) (tl_goods : Nat → Int32) (tl_shy : Nat → Int32) (tl_bidOf : Nat → Int32) (tl_daysOf : Nat → Int32) (nw_price : Int32) (nw_months : Int32) (nw_chest : Int32) (nw_given : Int32) (nw_fate : Int32) (nw_goods : Nat → Int32) (nw_rates : Nat → Int32) (pa_next : Int32) (pa_count : Int32) (ps : Nat → krS) (x1 : Int32) (r0 : Int32) (z_nw_price : Int32) (z_pa_next : Int32) (z_pa_count : Int32) (z_ps : Nat → krS) (hres : pX8_raise N x1 tl_stands nw_price nw_months nw_chest nw_given nw_fate nw_goods nw_rates pa_next pa_count ps = some (r0, z_nw_price, z_pa_next, z_pa_count, z_ps)) : krI l yX8_raise wsX8_raise { frames := 2, cells := 0, slots := 0, locals := 200 } D κ [.ref kro, .int x1] ([(kro, .inr (8, [.ref txo, .ref tlo, .ref dfo, .ref nwo, .ref aho, .ref pao, .ref iaA, .ref sco, .ref bko, .ref spo, .int kr_drawn])), (tlo, .inr (6, [.int tl_stands, .int tl_price, .int tl_death, .int tl_payers, .int tl_bids, .int tl_hostages, .int tl_bags, .int tl_bagMarks, .ref tl_goodsA, .ref tl_shyA, .ref tl_bidOfA, .ref tl_daysOfA])), (tl_goodsA, .inl (κ 0, 6, .inl tl_goods)), (tl_shyA, .inl (κ 0, 6, .inl tl_shy)), (tl_bidOfA, .inl (κ 0, 9, .inl tl_bidOf)), (tl_daysOfA, .inl (κ 0, 6, .inl tl_daysOf)), (nwo, .inr (5, [.int nw_price, .int nw_months, .int nw_chest, .int nw_given, .int nw_fate, .ref nw_goodsA, .ref nw_ratesA])), (nw_goodsA, .inl (κ 0, 6, .inl nw_goods)), (nw_ratesA, .inl (κ 0, 6, .inl nw_rates)), (pao, .inr (2, [.ref saA, .int pa_next, .int pa_count])), (saA, .inl (κ 3, 20, .inr (.inr (.inr (.inr (fun k => some (sg1 k)))))))] ++ krF κ sg1 sg2 sg3 ps) ([(kro, .inr (8, [.ref txo, .ref tlo, .ref dfo, .ref nwo, .ref aho, .ref pao, .ref iaA, .ref sco, .ref bko, .ref spo, .int kr_drawn])), (tlo, .inr (6, [.int tl_stands, .int tl_price, .int tl_death, .int tl_payers, .int tl_bids, .int tl_hostages, .int tl_bags, .int tl_bagMarks, .ref tl_goodsA, .ref tl_shyA, .ref tl_bidOfA, .ref tl_daysOfA])), (tl_goodsA, .inl (κ 0, 6, .inl tl_goods)), (tl_shyA, .inl (κ 0, 6, .inl tl_shy)), (tl_bidOfA, .inl (κ 0, 9, .inl tl_bidOf)), (tl_daysOfA, .inl (κ 0, 6, .inl tl_daysOf)), (nwo, .inr (5, [.int z_nw_price, .int nw_months, .int nw_chest, .int nw_given, .int nw_fate, .ref nw_goodsA, .ref nw_ratesA])), (nw_goodsA, .inl (κ 0, 6, .inl nw_goods)), (nw_ratesA, .inl (κ 0, 6, .inl nw_rates)), (pao, .inr (2, [.ref saA, .int z_pa_next, .int z_pa_count])), (saA, .inl (κ 3, 20, .inr (.inr (.inr (.inr (fun k => some (sg1 k)))))))] ++ krF κ sg1 sg2 sg3 z_ps) r0 := by
  refine krI_of (cc := cX8_raise) (maxL := 2) (rt := .int) (by decide) rfl (Nat.le_of_ble_eq_true rfl) ?_
  intro p e s m args below meth c A Q ls hx hb hml hown hts hK hA hret hP hD hS hl
  have hown : s.vm.findClass RX8 = some m.cls := hown
  have hl : lv_has ls 2 [(0, .ref kro), (1, .int x1)] := hl
  have iw8 : ∀ w ∈ u_ws RX8 TX8 11, w ∈ wsX8_raise := (fun _ h => List.mem_cons_of_mem _ (List.mem_append_left _ (List.mem_append_left _ (List.mem_append_left _ (List.mem_append_right _ h)))))
  have iw5 : ∀ w ∈ u_ws RX5 TX5 7, w ∈ wsX8_raise := (fun _ h => List.mem_cons_of_mem _ (List.mem_append_left _ (List.mem_append_left _ (List.mem_append_right _ h))))
  have k0 : (Cond.constant RX8 71 (-1000000002)).before args s = true := hts _ (List.mem_of_getElem? (i := 1) rfl)
  have k1 : (Cond.fieldLink RX8 39 "KingRansom" "past" "LKingRansom$Past;").before args s = true := hts _ (List.mem_of_getElem? (i := 3) rfl)
  have k2 : (Cond.fieldLink RX8 29 "KingRansom" "now" "LKingRansom$State;").before args s = true := hts _ (List.mem_of_getElem? (i := 4) rfl)
  have k3 : (Cond.initialized RX2).before args s = true := hts _ (List.mem_of_getElem? (i := 16) rfl)
  have k4 : (Cond.instanceMethod yX2_push).before args s = true := hts _ (List.mem_of_getElem? (i := 15) rfl)
  have k5 : (Cond.selects RX2 yX2_push yX2_push).before args s = true := hts _ (List.mem_of_getElem? (i := 17) rfl)
  have k6 : (Cond.methodLink RX8 186 Lib.Math.min.name).before args s = true := hts _ (List.mem_of_getElem? (i := 5) rfl)
  have k7 : (Cond.static Lib.Math.min.name).before args s = true := hts _ (List.mem_of_getElem? (i := 6) rfl)
  have k8 : (Cond.initialized "java/lang/Math").before args s = true := hts _ (List.mem_of_getElem? (i := 7) rfl)
  have k9 : (Cond.code Lib.Math.min.name Lib.Math.min.code 2 (some .int)).before args s = true := hts _ (List.mem_of_getElem? (i := 8) rfl)
  have k10 : (Cond.constant RX8 185 (-1000000003)).before args s = true := hts _ (List.mem_of_getElem? (i := 2) rfl)
  unfold pX8_raise at hres
  refine lv_iload_n hx hb dX8_raise_0 rfl (lv_at hl 1 rfl) ?_
  refine lv_iconst (v := 1) hx hb dX8_raise_1 (by decide) ?_
  refine lv_icmp_lt (tgt := 12) hx hb dX8_raise_2 (by decide) (fun c1 => ?_) (fun c1 => ?_)
  · replace hres := og_t c1 hres
    refine lv_ldc (v := (-1000000002)) hx hb hown k0 dX8_raise_12 ?_
    have hres := Option.some.inj hres
    have h0 := (Prod.mk.inj hres).1
    replace hres := (Prod.mk.inj hres).2
    have h1 := (Prod.mk.inj hres).1
    replace hres := (Prod.mk.inj hres).2
    have h2 := (Prod.mk.inj hres).1
    replace hres := (Prod.mk.inj hres).2
    have h3 := (Prod.mk.inj hres).1
    replace hres := (Prod.mk.inj hres).2
    have h4 := hres
    subst h0
    subst h1
    subst h2
    subst h3
    subst h4
    exact hret _ _ _ _ (vp_nar_int _) hP hD hS dX8_raise_14
  · replace hres := og_f c1 hres
    refine lv_iload_n hx hb dX8_raise_5 rfl (lv_at hl 1 rfl) ?_
    refine lv_sipush (v := 999) hx hb dX8_raise_6 (by decide) ?_
    refine lv_icmp_le (tgt := 15) hx hb dX8_raise_9 (by decide) (fun c2 => ?_) (fun c2 => ?_)
    · replace hres := og_t c2 hres
      refine lv_aload_n hx hb dX8_raise_15 rfl (lv_at hl 0 rfl) ?_
      obtain ⟨r3, hc4, hres⟩ := kb1_s hres
      refine krI_V_R (As := []) (rest := []) (wr := [(pao, .inr (2, [.ref saA, .int pa_next, .int pa_count])), (saA, .inl (κ 3, 20, .inr (.inr (.inr (.inr (fun k => some (sg1 k)))))))]) ⟨hx, hb, hml, hown, hts⟩ hK (tX8_isKept l D κ kro txo tlo dfo nwo aho pao iaA sco bko spo tl_goodsA tl_shyA tl_bidOfA tl_daysOfA nw_goodsA nw_ratesA kr_drawn tl_stands tl_price tl_death tl_payers tl_bids tl_hostages tl_bags tl_bagMarks tl_goods tl_shy tl_bidOf tl_daysOf nw_price nw_months nw_chest nw_given nw_fate nw_goods nw_rates r3 hc4) (cwV 0 hts gX8_raise_X8_isKept rfl rfl rfl (by decide +kernel) ⟨(Nat.le_of_ble_eq_true rfl), (Nat.le_of_ble_eq_true rfl)⟩) rfl rfl rfl hP hD hS hA [0, 1, 2, 3, 4, 5, 6, 7, 8] [9, 10] rfl rfl rfl rfl (by decide) rfl hl.1 rfl (Nat.le_of_ble_eq_true rfl) dX8_raise_16 ⟨Nat.zero_le _, Nat.zero_le _⟩ (fun H locs hP hD hS => ?_)
      have hP : va_P D vwCl ([(pao, .inr (2, [.ref saA, .int pa_next, .int pa_count])), (saA, .inl (κ 3, 20, .inr (.inr (.inr (.inr (fun k => some (sg1 k))))))), (kro, .inr (8, [.ref txo, .ref tlo, .ref dfo, .ref nwo, .ref aho, .ref pao, .ref iaA, .ref sco, .ref bko, .ref spo, .int kr_drawn])), (tlo, .inr (6, [.int tl_stands, .int tl_price, .int tl_death, .int tl_payers, .int tl_bids, .int tl_hostages, .int tl_bags, .int tl_bagMarks, .ref tl_goodsA, .ref tl_shyA, .ref tl_bidOfA, .ref tl_daysOfA])), (tl_goodsA, .inl (κ 0, 6, .inl tl_goods)), (tl_shyA, .inl (κ 0, 6, .inl tl_shy)), (tl_bidOfA, .inl (κ 0, 9, .inl tl_bidOf)), (tl_daysOfA, .inl (κ 0, 6, .inl tl_daysOf)), (nwo, .inr (5, [.int nw_price, .int nw_months, .int nw_chest, .int nw_given, .int nw_fate, .ref nw_goodsA, .ref nw_ratesA])), (nw_goodsA, .inl (κ 0, 6, .inl nw_goods)), (nw_ratesA, .inl (κ 0, 6, .inl nw_rates))] ++ krF κ sg1 sg2 sg3 ps) H := hP
      have hD : va_D A ([(pao, .inr (2, [.ref saA, .int pa_next, .int pa_count])), (saA, .inl (κ 3, 20, .inr (.inr (.inr (.inr (fun k => some (sg1 k))))))), (kro, .inr (8, [.ref txo, .ref tlo, .ref dfo, .ref nwo, .ref aho, .ref pao, .ref iaA, .ref sco, .ref bko, .ref spo, .int kr_drawn])), (tlo, .inr (6, [.int tl_stands, .int tl_price, .int tl_death, .int tl_payers, .int tl_bids, .int tl_hostages, .int tl_bags, .int tl_bagMarks, .ref tl_goodsA, .ref tl_shyA, .ref tl_bidOfA, .ref tl_daysOfA])), (tl_goodsA, .inl (κ 0, 6, .inl tl_goods)), (tl_shyA, .inl (κ 0, 6, .inl tl_shy)), (tl_bidOfA, .inl (κ 0, 9, .inl tl_bidOf)), (tl_daysOfA, .inl (κ 0, 6, .inl tl_daysOf)), (nwo, .inr (5, [.int nw_price, .int nw_months, .int nw_chest, .int nw_given, .int nw_fate, .ref nw_goodsA, .ref nw_ratesA])), (nw_goodsA, .inl (κ 0, 6, .inl nw_goods)), (nw_ratesA, .inl (κ 0, 6, .inl nw_rates))] ++ krF κ sg1 sg2 sg3 ps) := hD
      refine lv_if_ne (tgt := 25) hx hb dX8_raise_19 (by decide) (fun c5 => ?_) (fun c5 => ?_)
      · replace hres := og_f c5 hres
        refine lv_aload_n hx hb dX8_raise_25 rfl (lv_at hl 0 rfl) ?_
        refine va_get (D := D) (ci := 8) (v := .ref pao) (C := RX8) (T := TX8) (N := 11) hx hb hts iw8 hown hK.1 hP 2 rfl rfl 5 (by decide) k1 (fun _ h9 => h9) rfl dX8_raise_26 ?_
        refine lv_aload_n hx hb dX8_raise_29 rfl (lv_at hl 0 rfl) ?_
        refine va_get (D := D) (ci := 8) (v := .ref nwo) (C := RX8) (T := TX8) (N := 11) hx hb hts iw8 hown hK.1 hP 2 rfl rfl 3 (by decide) k2 (fun _ h9 => h9) rfl dX8_raise_30 ?_
        obtain ⟨w6, w7, w8, hc9, hres⟩ := kb3_s hres
        refine krV_VN_F (As := [.ref nwo]) (rest := []) (wr := [(kro, .inr (8, [.ref txo, .ref tlo, .ref dfo, .ref nwo, .ref aho, .ref pao, .ref iaA, .ref sco, .ref bko, .ref spo, .int kr_drawn])), (tlo, .inr (6, [.int tl_stands, .int tl_price, .int tl_death, .int tl_payers, .int tl_bids, .int tl_hostages, .int tl_bags, .int tl_bagMarks, .ref tl_goodsA, .ref tl_shyA, .ref tl_bidOfA, .ref tl_daysOfA])), (tl_goodsA, .inl (κ 0, 6, .inl tl_goods)), (tl_shyA, .inl (κ 0, 6, .inl tl_shy)), (tl_bidOfA, .inl (κ 0, 9, .inl tl_bidOf)), (tl_daysOfA, .inl (κ 0, 6, .inl tl_daysOf))]) ⟨hx, hb, hml, hown, hts⟩ hK (tX2_push l D κ pao saA sg1 sg2 sg3 nwo nw_goodsA nw_ratesA N pa_next pa_count ps nw_price nw_months nw_chest nw_given nw_fate nw_goods nw_rates w6 w7 w8 hc9) ⟨va_cnB 1 hts gX8_raise_X2_push_n170 rfl rfl rfl (hK.ml 20 rfl) k3 (by decide +kernel) ⟨(Nat.le_of_ble_eq_true rfl), (Nat.le_of_ble_eq_true rfl)⟩, k4, k5⟩ rfl rfl rfl hP hD hS hA [0, 1, 8, 9, 10] [2, 3, 4, 5, 6, 7] rfl rfl rfl rfl (by decide) rfl hl.1 rfl (Nat.le_of_ble_eq_true rfl) dX8_raise_33 ⟨Nat.zero_le _, Nat.zero_le _⟩ (fun H locs hP hD hS => ?_)
        have hP : va_P D vwCl ([(kro, .inr (8, [.ref txo, .ref tlo, .ref dfo, .ref nwo, .ref aho, .ref pao, .ref iaA, .ref sco, .ref bko, .ref spo, .int kr_drawn])), (tlo, .inr (6, [.int tl_stands, .int tl_price, .int tl_death, .int tl_payers, .int tl_bids, .int tl_hostages, .int tl_bags, .int tl_bagMarks, .ref tl_goodsA, .ref tl_shyA, .ref tl_bidOfA, .ref tl_daysOfA])), (tl_goodsA, .inl (κ 0, 6, .inl tl_goods)), (tl_shyA, .inl (κ 0, 6, .inl tl_shy)), (tl_bidOfA, .inl (κ 0, 9, .inl tl_bidOf)), (tl_daysOfA, .inl (κ 0, 6, .inl tl_daysOf)), (pao, .inr (2, [.ref saA, .int w6, .int w7])), (saA, .inl (κ 3, 20, .inr (.inr (.inr (.inr (fun k => some (sg1 k))))))), (nwo, .inr (5, [.int nw_price, .int nw_months, .int nw_chest, .int nw_given, .int nw_fate, .ref nw_goodsA, .ref nw_ratesA])), (nw_goodsA, .inl (κ 0, 6, .inl nw_goods)), (nw_ratesA, .inl (κ 0, 6, .inl nw_rates))] ++ krF κ sg1 sg2 sg3 w8) H := hP
        have hD : va_D A ([(kro, .inr (8, [.ref txo, .ref tlo, .ref dfo, .ref nwo, .ref aho, .ref pao, .ref iaA, .ref sco, .ref bko, .ref spo, .int kr_drawn])), (tlo, .inr (6, [.int tl_stands, .int tl_price, .int tl_death, .int tl_payers, .int tl_bids, .int tl_hostages, .int tl_bags, .int tl_bagMarks, .ref tl_goodsA, .ref tl_shyA, .ref tl_bidOfA, .ref tl_daysOfA])), (tl_goodsA, .inl (κ 0, 6, .inl tl_goods)), (tl_shyA, .inl (κ 0, 6, .inl tl_shy)), (tl_bidOfA, .inl (κ 0, 9, .inl tl_bidOf)), (tl_daysOfA, .inl (κ 0, 6, .inl tl_daysOf)), (pao, .inr (2, [.ref saA, .int w6, .int w7])), (saA, .inl (κ 3, 20, .inr (.inr (.inr (.inr (fun k => some (sg1 k))))))), (nwo, .inr (5, [.int nw_price, .int nw_months, .int nw_chest, .int nw_given, .int nw_fate, .ref nw_goodsA, .ref nw_ratesA])), (nw_goodsA, .inl (κ 0, 6, .inl nw_goods)), (nw_ratesA, .inl (κ 0, 6, .inl nw_rates))] ++ krF κ sg1 sg2 sg3 w8) := hD
        refine lv_aload_n hx hb dX8_raise_36 rfl (lv_at hl 0 rfl) ?_
        refine va_get (D := D) (ci := 8) (v := .ref nwo) (C := RX8) (T := TX8) (N := 11) hx hb hts iw8 hown hK.1 hP 0 rfl rfl 3 (by decide) k2 (fun _ h9 => h9) rfl dX8_raise_37 ?_
        refine lv_sipush (v := 9999) hx hb dX8_raise_40 (by decide) ?_
        refine lv_aload_n hx hb dX8_raise_43 rfl (lv_at hl 0 rfl) ?_
        refine va_get (D := D) (ci := 8) (v := .ref nwo) (C := RX8) (T := TX8) (N := 11) hx hb hts iw8 hown hK.1 hP 0 rfl rfl 3 (by decide) k2 (fun _ h9 => h9) rfl dX8_raise_44 ?_
        refine va_getN (D := D) (ci := 5) (v := .int nw_price) (C := RX5) (T := TX5) (N := 7) hx hb hts iw5 hown hK.1 hP 8 rfl rfl 0 (by decide) (hK.fl 29 rfl) (fun _ h9 => h9) rfl dX8_raise_47 ?_
        refine lv_iload_n hx hb dX8_raise_50 rfl (lv_at hl 1 rfl) ?_
        refine lv_iadd hx hb dX8_raise_51 ?_
        refine va_mmin hx hb (hml.trans hl.1.symm) hown k6 k7 k8 k9 (Nat.le_of_ble_eq_true rfl) (Nat.le_of_ble_eq_true rfl) (Nat.zero_le _) (Nat.zero_le _) dX8_raise_52 ?_
        obtain ⟨y10, ey10, hres⟩ := kl_s hres
        refine kr_tope ey10 ?_
        refine va_putN (D := D) (ci := 5) (v := .int y10) (ty := .int) (C := RX5) (T := TX5) (N := 7) hx hb hts iw5 tyX5 tyX5_ok nmX5 hown hK.1 hP hD hS 8 rfl rfl 0 (by decide) (hK.fl 29 rfl) (fun _ h9 => h9) rfl (tyX5_ok 0 (by decide)) rfl rfl (Nat.le_of_ble_eq_true rfl) dX8_raise_55 (fun H locs hP hD hS => ?_)
        have hP : va_P D vwCl ([(kro, .inr (8, [.ref txo, .ref tlo, .ref dfo, .ref nwo, .ref aho, .ref pao, .ref iaA, .ref sco, .ref bko, .ref spo, .int kr_drawn])), (tlo, .inr (6, [.int tl_stands, .int tl_price, .int tl_death, .int tl_payers, .int tl_bids, .int tl_hostages, .int tl_bags, .int tl_bagMarks, .ref tl_goodsA, .ref tl_shyA, .ref tl_bidOfA, .ref tl_daysOfA])), (tl_goodsA, .inl (κ 0, 6, .inl tl_goods)), (tl_shyA, .inl (κ 0, 6, .inl tl_shy)), (tl_bidOfA, .inl (κ 0, 9, .inl tl_bidOf)), (tl_daysOfA, .inl (κ 0, 6, .inl tl_daysOf)), (pao, .inr (2, [.ref saA, .int w6, .int w7])), (saA, .inl (κ 3, 20, .inr (.inr (.inr (.inr (fun k => some (sg1 k))))))), (nwo, .inr (5, [.int y10, .int nw_months, .int nw_chest, .int nw_given, .int nw_fate, .ref nw_goodsA, .ref nw_ratesA])), (nw_goodsA, .inl (κ 0, 6, .inl nw_goods)), (nw_ratesA, .inl (κ 0, 6, .inl nw_rates))] ++ krF κ sg1 sg2 sg3 w8) H := hP
        have hD : va_D A ([(kro, .inr (8, [.ref txo, .ref tlo, .ref dfo, .ref nwo, .ref aho, .ref pao, .ref iaA, .ref sco, .ref bko, .ref spo, .int kr_drawn])), (tlo, .inr (6, [.int tl_stands, .int tl_price, .int tl_death, .int tl_payers, .int tl_bids, .int tl_hostages, .int tl_bags, .int tl_bagMarks, .ref tl_goodsA, .ref tl_shyA, .ref tl_bidOfA, .ref tl_daysOfA])), (tl_goodsA, .inl (κ 0, 6, .inl tl_goods)), (tl_shyA, .inl (κ 0, 6, .inl tl_shy)), (tl_bidOfA, .inl (κ 0, 9, .inl tl_bidOf)), (tl_daysOfA, .inl (κ 0, 6, .inl tl_daysOf)), (pao, .inr (2, [.ref saA, .int w6, .int w7])), (saA, .inl (κ 3, 20, .inr (.inr (.inr (.inr (fun k => some (sg1 k))))))), (nwo, .inr (5, [.int y10, .int nw_months, .int nw_chest, .int nw_given, .int nw_fate, .ref nw_goodsA, .ref nw_ratesA])), (nw_goodsA, .inl (κ 0, 6, .inl nw_goods)), (nw_ratesA, .inl (κ 0, 6, .inl nw_rates))] ++ krF κ sg1 sg2 sg3 w8) := hD
        refine lv_aload_n hx hb dX8_raise_58 rfl (lv_at hl 0 rfl) ?_
        refine va_get (D := D) (ci := 8) (v := .ref nwo) (C := RX8) (T := TX8) (N := 11) hx hb hts iw8 hown hK.1 hP 0 rfl rfl 3 (by decide) k2 (fun _ h9 => h9) rfl dX8_raise_59 ?_
        refine va_getN (D := D) (ci := 5) (v := .int y10) (C := RX5) (T := TX5) (N := 7) hx hb hts iw5 hown hK.1 hP 8 rfl rfl 0 (by decide) (hK.fl 29 rfl) (fun _ h9 => h9) rfl dX8_raise_62 ?_
        have hres := Option.some.inj hres
        have h0 := (Prod.mk.inj hres).1
        replace hres := (Prod.mk.inj hres).2
        have h1 := (Prod.mk.inj hres).1
        replace hres := (Prod.mk.inj hres).2
        have h2 := (Prod.mk.inj hres).1
        replace hres := (Prod.mk.inj hres).2
        have h3 := (Prod.mk.inj hres).1
        replace hres := (Prod.mk.inj hres).2
        have h4 := hres
        subst h0
        subst h1
        subst h2
        subst h3
        subst h4
        exact hret _ _ _ _ (vp_nar_int _) (kr_subP hP [0, 1, 2, 3, 4, 5, 8, 9, 10, 6, 7] rfl) (kr_subD hD [0, 1, 2, 3, 4, 5, 8, 9, 10, 6, 7] (by decide) rfl) hS dX8_raise_65
      · replace hres := og_t c5 hres
        refine lv_ldc (v := (-1000000003)) hx hb hown k10 dX8_raise_22 ?_
        have hres := Option.some.inj hres
        have h0 := (Prod.mk.inj hres).1
        replace hres := (Prod.mk.inj hres).2
        have h1 := (Prod.mk.inj hres).1
        replace hres := (Prod.mk.inj hres).2
        have h2 := (Prod.mk.inj hres).1
        replace hres := (Prod.mk.inj hres).2
        have h3 := (Prod.mk.inj hres).1
        replace hres := (Prod.mk.inj hres).2
        have h4 := hres
        subst h0
        subst h1
        subst h2
        subst h3
        subst h4
        exact hret _ _ _ _ (vp_nar_int _) (kr_subP hP [2, 3, 4, 5, 6, 7, 8, 9, 10, 0, 1] rfl) (kr_subD hD [2, 3, 4, 5, 6, 7, 8, 9, 10, 0, 1] (by decide) rfl) hS dX8_raise_24
    · replace hres := og_f c2 hres
      refine lv_ldc (v := (-1000000002)) hx hb hown k0 dX8_raise_12 ?_
      have hres := Option.some.inj hres
      have h0 := (Prod.mk.inj hres).1
      replace hres := (Prod.mk.inj hres).2
      have h1 := (Prod.mk.inj hres).1
      replace hres := (Prod.mk.inj hres).2
      have h2 := (Prod.mk.inj hres).1
      replace hres := (Prod.mk.inj hres).2
      have h3 := (Prod.mk.inj hres).1
      replace hres := (Prod.mk.inj hres).2
      have h4 := hres
      subst h0
      subst h1
      subst h2
      subst h3
      subst h4
      exact hret _ _ _ _ (vp_nar_int _) hP hD hS dX8_raise_14

def pX8_hostage_L83 (v4 : Int32) (s0 : Int32) (w_pa_next : Int32) (w_pa_count : Int32) (w_ps : Nat → krS) : Option (Int32 × Int32 × Int32 × Int32 × (Nat → krS)) :=
    some (v4, s0, w_pa_next, w_pa_count, w_ps)
def pX8_hostage_L50 (x2 : Int32) (nw_given : Int32) (v3 : Int32) (s0 : Int32) (w_pa_next : Int32) (w_pa_count : Int32) (w_ps : Nat → krS) : Option (Int32 × Int32 × Int32 × Int32 × (Nat → krS)) :=
    (if x2 = 0 then
    pX8_hostage_L83 s0 (nw_given &&& (v3 ^^^ (-1))) w_pa_next w_pa_count w_ps
    else
    pX8_hostage_L83 s0 (nw_given ||| v3) w_pa_next w_pa_count w_ps)
def pX8_hostage (N : Nat) (x1 : Int32) (x2 : Int32) (tl_hostages : Int32) (nw_price : Int32) (nw_months : Int32) (nw_chest : Int32) (nw_given : Int32) (nw_fate : Int32) (nw_goods : Nat → Int32) (nw_rates : Nat → Int32) (pa_next : Int32) (pa_count : Int32) (ps : Nat → krS) : Option (Int32 × Int32 × Int32 × Int32 × (Nat → krS)) :=
    (if x1 < 0 then
    some ((-1000000001), nw_given, pa_next, pa_count, ps)
    else
    (if x1 < tl_hostages then
    kb3 (pX2_push N pa_next pa_count ps nw_price nw_months nw_chest nw_given nw_fate nw_goods nw_rates) fun w3 w4 w5 =>
    (if (nw_given &&& ((1 : Int32) <<< (x1 &&& 31))) = 0 then
    pX8_hostage_L50 x2 nw_given ((1 : Int32) <<< (x1 &&& 31)) 0 w3 w4 w5
    else
    pX8_hostage_L50 x2 nw_given ((1 : Int32) <<< (x1 &&& 31)) 1 w3 w4 w5)
    else
    some ((-1000000001), nw_given, pa_next, pa_count, ps)))
set_option maxHeartbeats 8000000 in
set_option maxRecDepth 100000 in
theorem tX8_hostage (l : Launch) (D : va_G) (κ : Nat → ClassId) (kro : Nat) (txo : Nat) (tlo : Nat) (dfo : Nat) (nwo : Nat) (aho : Nat) (pao : Nat) (iaA : Nat) (sco : Nat) (bko : Nat) (spo : Nat) (tl_goodsA : Nat) (tl_shyA : Nat) (tl_bidOfA : Nat) (tl_daysOfA : Nat) (nw_goodsA : Nat) (nw_ratesA : Nat) (saA : Nat) (sg1 : Nat → Nat) (sg2 : Nat → Nat) (sg3 : Nat → Nat) (N : Nat) (kr_drawn : Int32) (tl_stands : Int32) (tl_price : Int32) (tl_death : Int32) (tl_payers : Int32) (tl_bids : Int32) (tl_hostages : Int32) (tl_bags : Int32) (tl_bagMarks : Int32) (tl_goods : Nat → Int32) (tl_shy : Nat → Int32) (tl_bidOf : Nat → Int32) (tl_daysOf : Nat → Int32) (nw_price : Int32) (nw_months : Int32) (nw_chest : Int32) (nw_given : Int32) (nw_fate : Int32) (nw_goods : Nat → Int32) (nw_rates : Nat → Int32) (pa_next : Int32) (pa_count : Int32) (ps : Nat → krS) (x1 : Int32) (x2 : Int32) (r0 : Int32) (z_nw_given : Int32) (z_pa_next : Int32) (z_pa_count : Int32) (z_ps : Nat → krS) (hres : pX8_hostage N x1 x2 tl_hostages nw_price nw_months nw_chest nw_given nw_fate nw_goods nw_rates pa_next pa_count ps = some (r0, z_nw_given, z_pa_next, z_pa_count, z_ps)) : krI l yX8_hostage wsX8_hostage { frames := 2, cells := 0, slots := 0, locals := 200 } D κ [.ref kro, .int x1, .int x2] ([(kro, .inr (8, [.ref txo, .ref tlo, .ref dfo, .ref nwo, .ref aho, .ref pao, .ref iaA, .ref sco, .ref bko, .ref spo, .int kr_drawn])), (tlo, .inr (6, [.int tl_stands, .int tl_price, .int tl_death, .int tl_payers, .int tl_bids, .int tl_hostages, .int tl_bags, .int tl_bagMarks, .ref tl_goodsA, .ref tl_shyA, .ref tl_bidOfA, .ref tl_daysOfA])), (tl_goodsA, .inl (κ 0, 6, .inl tl_goods)), (tl_shyA, .inl (κ 0, 6, .inl tl_shy)), (tl_bidOfA, .inl (κ 0, 9, .inl tl_bidOf)), (tl_daysOfA, .inl (κ 0, 6, .inl tl_daysOf)), (nwo, .inr (5, [.int nw_price, .int nw_months, .int nw_chest, .int nw_given, .int nw_fate, .ref nw_goodsA, .ref nw_ratesA])), (nw_goodsA, .inl (κ 0, 6, .inl nw_goods)), (nw_ratesA, .inl (κ 0, 6, .inl nw_rates)), (pao, .inr (2, [.ref saA, .int pa_next, .int pa_count])), (saA, .inl (κ 3, 20, .inr (.inr (.inr (.inr (fun k => some (sg1 k)))))))] ++ krF κ sg1 sg2 sg3 ps) ([(kro, .inr (8, [.ref txo, .ref tlo, .ref dfo, .ref nwo, .ref aho, .ref pao, .ref iaA, .ref sco, .ref bko, .ref spo, .int kr_drawn])), (tlo, .inr (6, [.int tl_stands, .int tl_price, .int tl_death, .int tl_payers, .int tl_bids, .int tl_hostages, .int tl_bags, .int tl_bagMarks, .ref tl_goodsA, .ref tl_shyA, .ref tl_bidOfA, .ref tl_daysOfA])), (tl_goodsA, .inl (κ 0, 6, .inl tl_goods)), (tl_shyA, .inl (κ 0, 6, .inl tl_shy)), (tl_bidOfA, .inl (κ 0, 9, .inl tl_bidOf)), (tl_daysOfA, .inl (κ 0, 6, .inl tl_daysOf)), (nwo, .inr (5, [.int nw_price, .int nw_months, .int nw_chest, .int z_nw_given, .int nw_fate, .ref nw_goodsA, .ref nw_ratesA])), (nw_goodsA, .inl (κ 0, 6, .inl nw_goods)), (nw_ratesA, .inl (κ 0, 6, .inl nw_rates)), (pao, .inr (2, [.ref saA, .int z_pa_next, .int z_pa_count])), (saA, .inl (κ 3, 20, .inr (.inr (.inr (.inr (fun k => some (sg1 k)))))))] ++ krF κ sg1 sg2 sg3 z_ps) r0 := by
  refine krI_of (cc := cX8_hostage) (maxL := 5) (rt := .int) (by decide) rfl (Nat.le_of_ble_eq_true rfl) ?_
  intro p e s m args below meth c A Q ls hx hb hml hown hts hK hA hret hP hD hS hl
  have hown : s.vm.findClass RX8 = some m.cls := hown
  have hl : lv_has ls 5 [(0, .ref kro), (1, .int x1), (2, .int x2)] := hl
  have iw8 : ∀ w ∈ u_ws RX8 TX8 11, w ∈ wsX8_hostage := (fun _ h => List.mem_cons_of_mem _ (List.mem_append_left _ (List.mem_append_left _ (List.mem_append_left _ (List.mem_append_right _ h)))))
  have iw6 : ∀ w ∈ u_ws RX6 TX6 12, w ∈ wsX8_hostage := (fun _ h => List.mem_cons_of_mem _ (List.mem_append_left _ (List.mem_append_left _ (List.mem_append_right _ h))))
  have iw5 : ∀ w ∈ u_ws RX5 TX5 7, w ∈ wsX8_hostage := (fun _ h => List.mem_cons_of_mem _ (List.mem_append_left _ (List.mem_append_right _ h)))
  have k0 : (Cond.constant RX8 146 (-1000000001)).before args s = true := hts _ (List.mem_of_getElem? (i := 2) rfl)
  have k1 : (Cond.fieldLink RX8 19 "KingRansom" "tale" "LKingRansom$Tale;").before args s = true := hts _ (List.mem_of_getElem? (i := 1) rfl)
  have k2 : (Cond.fieldLink RX8 39 "KingRansom" "past" "LKingRansom$Past;").before args s = true := hts _ (List.mem_of_getElem? (i := 3) rfl)
  have k3 : (Cond.fieldLink RX8 29 "KingRansom" "now" "LKingRansom$State;").before args s = true := hts _ (List.mem_of_getElem? (i := 4) rfl)
  have k4 : (Cond.initialized RX2).before args s = true := hts _ (List.mem_of_getElem? (i := 6) rfl)
  have k5 : (Cond.instanceMethod yX2_push).before args s = true := hts _ (List.mem_of_getElem? (i := 5) rfl)
  have k6 : (Cond.selects RX2 yX2_push yX2_push).before args s = true := hts _ (List.mem_of_getElem? (i := 7) rfl)
  have L83 : ∀ (v4 : Int32) (s0 : Int32) (w_pa_next : Int32) (w_pa_count : Int32) (w_ps : Nat → krS) (H : Heap) (locs : List Loc) (ls : Array Slot), va_P D vwCl ([(kro, .inr (8, [.ref txo, .ref tlo, .ref dfo, .ref nwo, .ref aho, .ref pao, .ref iaA, .ref sco, .ref bko, .ref spo, .int kr_drawn])), (tlo, .inr (6, [.int tl_stands, .int tl_price, .int tl_death, .int tl_payers, .int tl_bids, .int tl_hostages, .int tl_bags, .int tl_bagMarks, .ref tl_goodsA, .ref tl_shyA, .ref tl_bidOfA, .ref tl_daysOfA])), (tl_goodsA, .inl (κ 0, 6, .inl tl_goods)), (tl_shyA, .inl (κ 0, 6, .inl tl_shy)), (tl_bidOfA, .inl (κ 0, 9, .inl tl_bidOf)), (tl_daysOfA, .inl (κ 0, 6, .inl tl_daysOf)), (nwo, .inr (5, [.int nw_price, .int nw_months, .int nw_chest, .int nw_given, .int nw_fate, .ref nw_goodsA, .ref nw_ratesA])), (nw_goodsA, .inl (κ 0, 6, .inl nw_goods)), (nw_ratesA, .inl (κ 0, 6, .inl nw_rates)), (pao, .inr (2, [.ref saA, .int w_pa_next, .int w_pa_count])), (saA, .inl (κ 3, 20, .inr (.inr (.inr (.inr (fun k => some (sg1 k)))))))] ++ krF κ sg1 sg2 sg3 w_ps) H → va_D A ([(kro, .inr (8, [.ref txo, .ref tlo, .ref dfo, .ref nwo, .ref aho, .ref pao, .ref iaA, .ref sco, .ref bko, .ref spo, .int kr_drawn])), (tlo, .inr (6, [.int tl_stands, .int tl_price, .int tl_death, .int tl_payers, .int tl_bids, .int tl_hostages, .int tl_bags, .int tl_bagMarks, .ref tl_goodsA, .ref tl_shyA, .ref tl_bidOfA, .ref tl_daysOfA])), (tl_goodsA, .inl (κ 0, 6, .inl tl_goods)), (tl_shyA, .inl (κ 0, 6, .inl tl_shy)), (tl_bidOfA, .inl (κ 0, 9, .inl tl_bidOf)), (tl_daysOfA, .inl (κ 0, 6, .inl tl_daysOf)), (nwo, .inr (5, [.int nw_price, .int nw_months, .int nw_chest, .int nw_given, .int nw_fate, .ref nw_goodsA, .ref nw_ratesA])), (nw_goodsA, .inl (κ 0, 6, .inl nw_goods)), (nw_ratesA, .inl (κ 0, 6, .inl nw_rates)), (pao, .inr (2, [.ref saA, .int w_pa_next, .int w_pa_count])), (saA, .inl (κ 3, 20, .inr (.inr (.inr (.inr (fun k => some (sg1 k)))))))] ++ krF κ sg1 sg2 sg3 w_ps) → va_S A s.heap H locs → lv_has ls 5 [(4, .int v4)] → pX8_hostage_L83 v4 s0 w_pa_next w_pa_count w_ps = some (r0, z_nw_given, z_pa_next, z_pa_count, z_ps) → W p l e { frames := 2, cells := 0, slots := 0, locals := 200 } s m args below meth c H locs 0 0 Q (F0 m 83 ls [.int s0, .ref nwo]) := by
    intro v4 s0 w_pa_next w_pa_count w_ps H locs ls hP hD hS hl hres
    unfold pX8_hostage_L83 at hres
    refine va_putN (D := D) (ci := 5) (v := .int s0) (ty := .int) (C := RX5) (T := TX5) (N := 7) hx hb hts iw5 tyX5 tyX5_ok nmX5 hown hK.1 hP hD hS 6 rfl rfl 3 (by decide) (hK.fl 32 rfl) (fun _ h9 => h9) rfl (tyX5_ok 3 (by decide)) rfl rfl (Nat.le_of_ble_eq_true rfl) dX8_hostage_83 (fun H locs hP hD hS => ?_)
    have hP : va_P D vwCl ([(kro, .inr (8, [.ref txo, .ref tlo, .ref dfo, .ref nwo, .ref aho, .ref pao, .ref iaA, .ref sco, .ref bko, .ref spo, .int kr_drawn])), (tlo, .inr (6, [.int tl_stands, .int tl_price, .int tl_death, .int tl_payers, .int tl_bids, .int tl_hostages, .int tl_bags, .int tl_bagMarks, .ref tl_goodsA, .ref tl_shyA, .ref tl_bidOfA, .ref tl_daysOfA])), (tl_goodsA, .inl (κ 0, 6, .inl tl_goods)), (tl_shyA, .inl (κ 0, 6, .inl tl_shy)), (tl_bidOfA, .inl (κ 0, 9, .inl tl_bidOf)), (tl_daysOfA, .inl (κ 0, 6, .inl tl_daysOf)), (nwo, .inr (5, [.int nw_price, .int nw_months, .int nw_chest, .int s0, .int nw_fate, .ref nw_goodsA, .ref nw_ratesA])), (nw_goodsA, .inl (κ 0, 6, .inl nw_goods)), (nw_ratesA, .inl (κ 0, 6, .inl nw_rates)), (pao, .inr (2, [.ref saA, .int w_pa_next, .int w_pa_count])), (saA, .inl (κ 3, 20, .inr (.inr (.inr (.inr (fun k => some (sg1 k)))))))] ++ krF κ sg1 sg2 sg3 w_ps) H := hP
    have hD : va_D A ([(kro, .inr (8, [.ref txo, .ref tlo, .ref dfo, .ref nwo, .ref aho, .ref pao, .ref iaA, .ref sco, .ref bko, .ref spo, .int kr_drawn])), (tlo, .inr (6, [.int tl_stands, .int tl_price, .int tl_death, .int tl_payers, .int tl_bids, .int tl_hostages, .int tl_bags, .int tl_bagMarks, .ref tl_goodsA, .ref tl_shyA, .ref tl_bidOfA, .ref tl_daysOfA])), (tl_goodsA, .inl (κ 0, 6, .inl tl_goods)), (tl_shyA, .inl (κ 0, 6, .inl tl_shy)), (tl_bidOfA, .inl (κ 0, 9, .inl tl_bidOf)), (tl_daysOfA, .inl (κ 0, 6, .inl tl_daysOf)), (nwo, .inr (5, [.int nw_price, .int nw_months, .int nw_chest, .int s0, .int nw_fate, .ref nw_goodsA, .ref nw_ratesA])), (nw_goodsA, .inl (κ 0, 6, .inl nw_goods)), (nw_ratesA, .inl (κ 0, 6, .inl nw_rates)), (pao, .inr (2, [.ref saA, .int w_pa_next, .int w_pa_count])), (saA, .inl (κ 3, 20, .inr (.inr (.inr (.inr (fun k => some (sg1 k)))))))] ++ krF κ sg1 sg2 sg3 w_ps) := hD
    refine lv_iload hx hb dX8_hostage_86 (lv_at hl 0 rfl) ?_
    have hres := Option.some.inj hres
    have h0 := (Prod.mk.inj hres).1
    replace hres := (Prod.mk.inj hres).2
    have h1 := (Prod.mk.inj hres).1
    replace hres := (Prod.mk.inj hres).2
    have h2 := (Prod.mk.inj hres).1
    replace hres := (Prod.mk.inj hres).2
    have h3 := (Prod.mk.inj hres).1
    replace hres := (Prod.mk.inj hres).2
    have h4 := hres
    subst h0
    subst h1
    subst h2
    subst h3
    subst h4
    exact hret _ _ _ _ (vp_nar_int _) hP hD hS dX8_hostage_88
  have L50 : ∀ (v3 : Int32) (s0 : Int32) (w_pa_next : Int32) (w_pa_count : Int32) (w_ps : Nat → krS) (H : Heap) (locs : List Loc) (ls : Array Slot), va_P D vwCl ([(kro, .inr (8, [.ref txo, .ref tlo, .ref dfo, .ref nwo, .ref aho, .ref pao, .ref iaA, .ref sco, .ref bko, .ref spo, .int kr_drawn])), (tlo, .inr (6, [.int tl_stands, .int tl_price, .int tl_death, .int tl_payers, .int tl_bids, .int tl_hostages, .int tl_bags, .int tl_bagMarks, .ref tl_goodsA, .ref tl_shyA, .ref tl_bidOfA, .ref tl_daysOfA])), (tl_goodsA, .inl (κ 0, 6, .inl tl_goods)), (tl_shyA, .inl (κ 0, 6, .inl tl_shy)), (tl_bidOfA, .inl (κ 0, 9, .inl tl_bidOf)), (tl_daysOfA, .inl (κ 0, 6, .inl tl_daysOf)), (nwo, .inr (5, [.int nw_price, .int nw_months, .int nw_chest, .int nw_given, .int nw_fate, .ref nw_goodsA, .ref nw_ratesA])), (nw_goodsA, .inl (κ 0, 6, .inl nw_goods)), (nw_ratesA, .inl (κ 0, 6, .inl nw_rates)), (pao, .inr (2, [.ref saA, .int w_pa_next, .int w_pa_count])), (saA, .inl (κ 3, 20, .inr (.inr (.inr (.inr (fun k => some (sg1 k)))))))] ++ krF κ sg1 sg2 sg3 w_ps) H → va_D A ([(kro, .inr (8, [.ref txo, .ref tlo, .ref dfo, .ref nwo, .ref aho, .ref pao, .ref iaA, .ref sco, .ref bko, .ref spo, .int kr_drawn])), (tlo, .inr (6, [.int tl_stands, .int tl_price, .int tl_death, .int tl_payers, .int tl_bids, .int tl_hostages, .int tl_bags, .int tl_bagMarks, .ref tl_goodsA, .ref tl_shyA, .ref tl_bidOfA, .ref tl_daysOfA])), (tl_goodsA, .inl (κ 0, 6, .inl tl_goods)), (tl_shyA, .inl (κ 0, 6, .inl tl_shy)), (tl_bidOfA, .inl (κ 0, 9, .inl tl_bidOf)), (tl_daysOfA, .inl (κ 0, 6, .inl tl_daysOf)), (nwo, .inr (5, [.int nw_price, .int nw_months, .int nw_chest, .int nw_given, .int nw_fate, .ref nw_goodsA, .ref nw_ratesA])), (nw_goodsA, .inl (κ 0, 6, .inl nw_goods)), (nw_ratesA, .inl (κ 0, 6, .inl nw_rates)), (pao, .inr (2, [.ref saA, .int w_pa_next, .int w_pa_count])), (saA, .inl (κ 3, 20, .inr (.inr (.inr (.inr (fun k => some (sg1 k)))))))] ++ krF κ sg1 sg2 sg3 w_ps) → va_S A s.heap H locs → lv_has ls 5 [(0, .ref kro), (2, .int x2), (3, .int v3)] → pX8_hostage_L50 x2 nw_given v3 s0 w_pa_next w_pa_count w_ps = some (r0, z_nw_given, z_pa_next, z_pa_count, z_ps) → W p l e { frames := 2, cells := 0, slots := 0, locals := 200 } s m args below meth c H locs 0 0 Q (F0 m 50 ls [.int s0]) := by
    intro v3 s0 w_pa_next w_pa_count w_ps H locs ls hP hD hS hl hres
    unfold pX8_hostage_L50 at hres
    refine lv_istore (lv' := [(4, .int s0), (0, .ref kro), (2, .int x2), (3, .int v3)]) hx hb dX8_hostage_50 hl (by decide) rfl (fun ls hl => ?_)
    refine lv_aload_n hx hb dX8_hostage_52 rfl (lv_at hl 1 rfl) ?_
    refine va_get (D := D) (ci := 8) (v := .ref nwo) (C := RX8) (T := TX8) (N := 11) hx hb hts iw8 hown hK.1 hP 0 rfl rfl 3 (by decide) k3 (fun _ h9 => h9) rfl dX8_hostage_53 ?_
    refine lv_iload_n hx hb dX8_hostage_56 rfl (lv_at hl 2 rfl) ?_
    refine lv_if_eq (tgt := 72) hx hb dX8_hostage_57 (by decide) (fun c8 => ?_) (fun c8 => ?_)
    · replace hres := og_t c8 hres
      refine lv_aload_n hx hb dX8_hostage_72 rfl (lv_at hl 1 rfl) ?_
      refine va_get (D := D) (ci := 8) (v := .ref nwo) (C := RX8) (T := TX8) (N := 11) hx hb hts iw8 hown hK.1 hP 0 rfl rfl 3 (by decide) k3 (fun _ h9 => h9) rfl dX8_hostage_73 ?_
      refine va_getN (D := D) (ci := 5) (v := .int nw_given) (C := RX5) (T := TX5) (N := 7) hx hb hts iw5 hown hK.1 hP 6 rfl rfl 3 (by decide) (hK.fl 32 rfl) (fun _ h9 => h9) rfl dX8_hostage_76 ?_
      refine lv_iload_n hx hb dX8_hostage_79 rfl (lv_at hl 3 rfl) ?_
      refine lv_iconst (v := (-1)) hx hb dX8_hostage_80 (by decide) ?_
      refine lv_ixor hx hb dX8_hostage_81 ?_
      refine lv_iand hx hb dX8_hostage_82 ?_
      exact L83 s0 (nw_given &&& (v3 ^^^ (-1))) w_pa_next w_pa_count w_ps _ _ _ hP hD hS (lv_sub hl [0] rfl) hres
    · replace hres := og_f c8 hres
      refine lv_aload_n hx hb dX8_hostage_60 rfl (lv_at hl 1 rfl) ?_
      refine va_get (D := D) (ci := 8) (v := .ref nwo) (C := RX8) (T := TX8) (N := 11) hx hb hts iw8 hown hK.1 hP 0 rfl rfl 3 (by decide) k3 (fun _ h9 => h9) rfl dX8_hostage_61 ?_
      refine va_getN (D := D) (ci := 5) (v := .int nw_given) (C := RX5) (T := TX5) (N := 7) hx hb hts iw5 hown hK.1 hP 6 rfl rfl 3 (by decide) (hK.fl 32 rfl) (fun _ h9 => h9) rfl dX8_hostage_64 ?_
      refine lv_iload_n hx hb dX8_hostage_67 rfl (lv_at hl 3 rfl) ?_
      refine lv_ior hx hb dX8_hostage_68 ?_
      refine lv_goto (tgt := 83) hx hb dX8_hostage_69 (by decide) ?_
      exact L83 s0 (nw_given ||| v3) w_pa_next w_pa_count w_ps _ _ _ hP hD hS (lv_sub hl [0] rfl) hres
  unfold pX8_hostage at hres
  refine lv_iload_n hx hb dX8_hostage_0 rfl (lv_at hl 1 rfl) ?_
  refine lv_if_lt (tgt := 15) hx hb dX8_hostage_1 (by decide) (fun c1 => ?_) (fun c1 => ?_)
  · replace hres := og_t c1 hres
    refine lv_ldc (v := (-1000000001)) hx hb hown k0 dX8_hostage_15 ?_
    have hres := Option.some.inj hres
    have h0 := (Prod.mk.inj hres).1
    replace hres := (Prod.mk.inj hres).2
    have h1 := (Prod.mk.inj hres).1
    replace hres := (Prod.mk.inj hres).2
    have h2 := (Prod.mk.inj hres).1
    replace hres := (Prod.mk.inj hres).2
    have h3 := (Prod.mk.inj hres).1
    replace hres := (Prod.mk.inj hres).2
    have h4 := hres
    subst h0
    subst h1
    subst h2
    subst h3
    subst h4
    exact hret _ _ _ _ (vp_nar_int _) hP hD hS dX8_hostage_17
  · replace hres := og_f c1 hres
    refine lv_iload_n hx hb dX8_hostage_4 rfl (lv_at hl 1 rfl) ?_
    refine lv_aload_n hx hb dX8_hostage_5 rfl (lv_at hl 0 rfl) ?_
    refine va_get (D := D) (ci := 8) (v := .ref tlo) (C := RX8) (T := TX8) (N := 11) hx hb hts iw8 hown hK.1 hP 0 rfl rfl 1 (by decide) k1 (fun _ h9 => h9) rfl dX8_hostage_6 ?_
    refine va_getN (D := D) (ci := 6) (v := .int tl_hostages) (C := RX6) (T := TX6) (N := 12) hx hb hts iw6 hown hK.1 hP 1 rfl rfl 5 (by decide) (hK.fl 15 rfl) (fun _ h9 => h9) rfl dX8_hostage_9 ?_
    refine lv_icmp_lt (tgt := 18) hx hb dX8_hostage_12 (by decide) (fun c2 => ?_) (fun c2 => ?_)
    · replace hres := og_t c2 hres
      refine lv_aload_n hx hb dX8_hostage_18 rfl (lv_at hl 0 rfl) ?_
      refine va_get (D := D) (ci := 8) (v := .ref pao) (C := RX8) (T := TX8) (N := 11) hx hb hts iw8 hown hK.1 hP 0 rfl rfl 5 (by decide) k2 (fun _ h9 => h9) rfl dX8_hostage_19 ?_
      refine lv_aload_n hx hb dX8_hostage_22 rfl (lv_at hl 0 rfl) ?_
      refine va_get (D := D) (ci := 8) (v := .ref nwo) (C := RX8) (T := TX8) (N := 11) hx hb hts iw8 hown hK.1 hP 0 rfl rfl 3 (by decide) k3 (fun _ h9 => h9) rfl dX8_hostage_23 ?_
      obtain ⟨w3, w4, w5, hc6, hres⟩ := kb3_s hres
      refine krV_VN_F (As := [.ref nwo]) (rest := []) (wr := [(kro, .inr (8, [.ref txo, .ref tlo, .ref dfo, .ref nwo, .ref aho, .ref pao, .ref iaA, .ref sco, .ref bko, .ref spo, .int kr_drawn])), (tlo, .inr (6, [.int tl_stands, .int tl_price, .int tl_death, .int tl_payers, .int tl_bids, .int tl_hostages, .int tl_bags, .int tl_bagMarks, .ref tl_goodsA, .ref tl_shyA, .ref tl_bidOfA, .ref tl_daysOfA])), (tl_goodsA, .inl (κ 0, 6, .inl tl_goods)), (tl_shyA, .inl (κ 0, 6, .inl tl_shy)), (tl_bidOfA, .inl (κ 0, 9, .inl tl_bidOf)), (tl_daysOfA, .inl (κ 0, 6, .inl tl_daysOf))]) ⟨hx, hb, hml, hown, hts⟩ hK (tX2_push l D κ pao saA sg1 sg2 sg3 nwo nw_goodsA nw_ratesA N pa_next pa_count ps nw_price nw_months nw_chest nw_given nw_fate nw_goods nw_rates w3 w4 w5 hc6) ⟨va_cnB 1 hts gX8_hostage_X2_push_n170 rfl rfl rfl (hK.ml 20 rfl) k4 (by decide +kernel) ⟨(Nat.le_of_ble_eq_true rfl), (Nat.le_of_ble_eq_true rfl)⟩, k5, k6⟩ rfl rfl rfl hP hD hS hA [9, 10, 6, 7, 8] [0, 1, 2, 3, 4, 5] rfl rfl rfl rfl (by decide) rfl hl.1 rfl (Nat.le_of_ble_eq_true rfl) dX8_hostage_26 ⟨Nat.zero_le _, Nat.zero_le _⟩ (fun H locs hP hD hS => ?_)
      have hP : va_P D vwCl ([(kro, .inr (8, [.ref txo, .ref tlo, .ref dfo, .ref nwo, .ref aho, .ref pao, .ref iaA, .ref sco, .ref bko, .ref spo, .int kr_drawn])), (tlo, .inr (6, [.int tl_stands, .int tl_price, .int tl_death, .int tl_payers, .int tl_bids, .int tl_hostages, .int tl_bags, .int tl_bagMarks, .ref tl_goodsA, .ref tl_shyA, .ref tl_bidOfA, .ref tl_daysOfA])), (tl_goodsA, .inl (κ 0, 6, .inl tl_goods)), (tl_shyA, .inl (κ 0, 6, .inl tl_shy)), (tl_bidOfA, .inl (κ 0, 9, .inl tl_bidOf)), (tl_daysOfA, .inl (κ 0, 6, .inl tl_daysOf)), (pao, .inr (2, [.ref saA, .int w3, .int w4])), (saA, .inl (κ 3, 20, .inr (.inr (.inr (.inr (fun k => some (sg1 k))))))), (nwo, .inr (5, [.int nw_price, .int nw_months, .int nw_chest, .int nw_given, .int nw_fate, .ref nw_goodsA, .ref nw_ratesA])), (nw_goodsA, .inl (κ 0, 6, .inl nw_goods)), (nw_ratesA, .inl (κ 0, 6, .inl nw_rates))] ++ krF κ sg1 sg2 sg3 w5) H := hP
      have hD : va_D A ([(kro, .inr (8, [.ref txo, .ref tlo, .ref dfo, .ref nwo, .ref aho, .ref pao, .ref iaA, .ref sco, .ref bko, .ref spo, .int kr_drawn])), (tlo, .inr (6, [.int tl_stands, .int tl_price, .int tl_death, .int tl_payers, .int tl_bids, .int tl_hostages, .int tl_bags, .int tl_bagMarks, .ref tl_goodsA, .ref tl_shyA, .ref tl_bidOfA, .ref tl_daysOfA])), (tl_goodsA, .inl (κ 0, 6, .inl tl_goods)), (tl_shyA, .inl (κ 0, 6, .inl tl_shy)), (tl_bidOfA, .inl (κ 0, 9, .inl tl_bidOf)), (tl_daysOfA, .inl (κ 0, 6, .inl tl_daysOf)), (pao, .inr (2, [.ref saA, .int w3, .int w4])), (saA, .inl (κ 3, 20, .inr (.inr (.inr (.inr (fun k => some (sg1 k))))))), (nwo, .inr (5, [.int nw_price, .int nw_months, .int nw_chest, .int nw_given, .int nw_fate, .ref nw_goodsA, .ref nw_ratesA])), (nw_goodsA, .inl (κ 0, 6, .inl nw_goods)), (nw_ratesA, .inl (κ 0, 6, .inl nw_rates))] ++ krF κ sg1 sg2 sg3 w5) := hD
      refine lv_iconst (v := 1) hx hb dX8_hostage_29 (by decide) ?_
      refine lv_iload_n hx hb dX8_hostage_30 rfl (lv_at hl 1 rfl) ?_
      refine lv_ishl hx hb dX8_hostage_31 ?_
      refine lv_istore_n (lv' := [(3, .int ((1 : Int32) <<< (x1 &&& 31))), (0, .ref kro), (1, .int x1), (2, .int x2)]) hx hb dX8_hostage_32 rfl hl (by decide) rfl (fun ls hl => ?_)
      refine lv_aload_n hx hb dX8_hostage_33 rfl (lv_at hl 1 rfl) ?_
      refine va_get (D := D) (ci := 8) (v := .ref nwo) (C := RX8) (T := TX8) (N := 11) hx hb hts iw8 hown hK.1 hP 0 rfl rfl 3 (by decide) k3 (fun _ h9 => h9) rfl dX8_hostage_34 ?_
      refine va_getN (D := D) (ci := 5) (v := .int nw_given) (C := RX5) (T := TX5) (N := 7) hx hb hts iw5 hown hK.1 hP 8 rfl rfl 3 (by decide) (hK.fl 32 rfl) (fun _ h9 => h9) rfl dX8_hostage_37 ?_
      refine lv_iload_n hx hb dX8_hostage_40 rfl (lv_at hl 0 rfl) ?_
      refine lv_iand hx hb dX8_hostage_41 ?_
      refine lv_if_eq (tgt := 49) hx hb dX8_hostage_42 (by decide) (fun c7 => ?_) (fun c7 => ?_)
      · replace hres := og_t c7 hres
        refine lv_iconst (v := 0) hx hb dX8_hostage_49 (by decide) ?_
        exact L50 ((1 : Int32) <<< (x1 &&& 31)) 0 w3 w4 w5 _ _ _ (kr_subP hP [0, 1, 2, 3, 4, 5, 8, 9, 10, 6, 7] rfl) (kr_subD hD [0, 1, 2, 3, 4, 5, 8, 9, 10, 6, 7] (by decide) rfl) hS (lv_sub hl [1, 3, 0] rfl) hres
      · replace hres := og_f c7 hres
        refine lv_iconst (v := 1) hx hb dX8_hostage_45 (by decide) ?_
        refine lv_goto (tgt := 50) hx hb dX8_hostage_46 (by decide) ?_
        exact L50 ((1 : Int32) <<< (x1 &&& 31)) 1 w3 w4 w5 _ _ _ (kr_subP hP [0, 1, 2, 3, 4, 5, 8, 9, 10, 6, 7] rfl) (kr_subD hD [0, 1, 2, 3, 4, 5, 8, 9, 10, 6, 7] (by decide) rfl) hS (lv_sub hl [1, 3, 0] rfl) hres
    · replace hres := og_f c2 hres
      refine lv_ldc (v := (-1000000001)) hx hb hown k0 dX8_hostage_15 ?_
      have hres := Option.some.inj hres
      have h0 := (Prod.mk.inj hres).1
      replace hres := (Prod.mk.inj hres).2
      have h1 := (Prod.mk.inj hres).1
      replace hres := (Prod.mk.inj hres).2
      have h2 := (Prod.mk.inj hres).1
      replace hres := (Prod.mk.inj hres).2
      have h3 := (Prod.mk.inj hres).1
      replace hres := (Prod.mk.inj hres).2
      have h4 := hres
      subst h0
      subst h1
      subst h2
      subst h3
      subst h4
      exact hret _ _ _ _ (vp_nar_int _) hP hD hS dX8_hostage_17

def pX8_free (N : Nat) (tl_stands : Int32) (nw_price : Int32) (nw_months : Int32) (nw_chest : Int32) (nw_given : Int32) (nw_fate : Int32) (nw_goods : Nat → Int32) (nw_rates : Nat → Int32) (pa_next : Int32) (pa_count : Int32) (ps : Nat → krS) : Option (Int32 × Int32 × Int32 × Int32 × Int32 × (Nat → krS)) :=
    kb1 (pX8_isKept tl_stands nw_fate) fun r1 =>
    (if r1 = 0 then
    some ((-1000000003), nw_chest, nw_fate, pa_next, pa_count, ps)
    else
    kb1 (pX5_cost nw_price nw_given) fun r4 =>
    (if r4 ≤ nw_chest then
    kb3 (pX2_push N pa_next pa_count ps nw_price nw_months nw_chest nw_given nw_fate nw_goods nw_rates) fun w7 w8 w9 =>
    kb1 (pX5_cost nw_price nw_given) fun r11 =>
    some ((nw_chest - r11), (nw_chest - r11), 1, w7, w8, w9)
    else
    some ((-1000000003), nw_chest, nw_fate, pa_next, pa_count, ps)))
set_option maxHeartbeats 8000000 in
set_option maxRecDepth 100000 in
theorem tX8_free (l : Launch) (D : va_G) (κ : Nat → ClassId) (kro : Nat) (txo : Nat) (tlo : Nat) (dfo : Nat) (nwo : Nat) (aho : Nat) (pao : Nat) (iaA : Nat) (sco : Nat) (bko : Nat) (spo : Nat) (tl_goodsA : Nat) (tl_shyA : Nat) (tl_bidOfA : Nat) (tl_daysOfA : Nat) (nw_goodsA : Nat) (nw_ratesA : Nat) (saA : Nat) (sg1 : Nat → Nat) (sg2 : Nat → Nat) (sg3 : Nat → Nat) (N : Nat) (kr_drawn : Int32) (tl_stands : Int32) (tl_price : Int32) (tl_death : Int32) (tl_payers : Int32) (tl_bids : Int32) (tl_hostages : Int32) (tl_bags : Int32) (tl_bagMarks : Int32) (tl_goods : Nat → Int32) (tl_shy : Nat → Int32) (tl_bidOf : Nat → Int32) (tl_daysOf : Nat → Int32) (nw_price : Int32) (nw_months : Int32) (nw_chest : Int32) (nw_given : Int32) (nw_fate : Int32) (nw_goods : Nat → Int32) (nw_rates : Nat → Int32) (pa_next : Int32) (pa_count : Int32) (ps : Nat → krS) (r0 : Int32) (z_nw_chest : Int32) (z_nw_fate : Int32) (z_pa_next : Int32) (z_pa_count : Int32) (z_ps : Nat → krS) (hres : pX8_free N tl_stands nw_price nw_months nw_chest nw_given nw_fate nw_goods nw_rates pa_next pa_count ps = some (r0, z_nw_chest, z_nw_fate, z_pa_next, z_pa_count, z_ps)) : krI l yX8_free wsX8_free { frames := 2, cells := 0, slots := 0, locals := 200 } D κ [.ref kro] ([(kro, .inr (8, [.ref txo, .ref tlo, .ref dfo, .ref nwo, .ref aho, .ref pao, .ref iaA, .ref sco, .ref bko, .ref spo, .int kr_drawn])), (tlo, .inr (6, [.int tl_stands, .int tl_price, .int tl_death, .int tl_payers, .int tl_bids, .int tl_hostages, .int tl_bags, .int tl_bagMarks, .ref tl_goodsA, .ref tl_shyA, .ref tl_bidOfA, .ref tl_daysOfA])), (tl_goodsA, .inl (κ 0, 6, .inl tl_goods)), (tl_shyA, .inl (κ 0, 6, .inl tl_shy)), (tl_bidOfA, .inl (κ 0, 9, .inl tl_bidOf)), (tl_daysOfA, .inl (κ 0, 6, .inl tl_daysOf)), (nwo, .inr (5, [.int nw_price, .int nw_months, .int nw_chest, .int nw_given, .int nw_fate, .ref nw_goodsA, .ref nw_ratesA])), (nw_goodsA, .inl (κ 0, 6, .inl nw_goods)), (nw_ratesA, .inl (κ 0, 6, .inl nw_rates)), (pao, .inr (2, [.ref saA, .int pa_next, .int pa_count])), (saA, .inl (κ 3, 20, .inr (.inr (.inr (.inr (fun k => some (sg1 k)))))))] ++ krF κ sg1 sg2 sg3 ps) ([(kro, .inr (8, [.ref txo, .ref tlo, .ref dfo, .ref nwo, .ref aho, .ref pao, .ref iaA, .ref sco, .ref bko, .ref spo, .int kr_drawn])), (tlo, .inr (6, [.int tl_stands, .int tl_price, .int tl_death, .int tl_payers, .int tl_bids, .int tl_hostages, .int tl_bags, .int tl_bagMarks, .ref tl_goodsA, .ref tl_shyA, .ref tl_bidOfA, .ref tl_daysOfA])), (tl_goodsA, .inl (κ 0, 6, .inl tl_goods)), (tl_shyA, .inl (κ 0, 6, .inl tl_shy)), (tl_bidOfA, .inl (κ 0, 9, .inl tl_bidOf)), (tl_daysOfA, .inl (κ 0, 6, .inl tl_daysOf)), (nwo, .inr (5, [.int nw_price, .int nw_months, .int z_nw_chest, .int nw_given, .int z_nw_fate, .ref nw_goodsA, .ref nw_ratesA])), (nw_goodsA, .inl (κ 0, 6, .inl nw_goods)), (nw_ratesA, .inl (κ 0, 6, .inl nw_rates)), (pao, .inr (2, [.ref saA, .int z_pa_next, .int z_pa_count])), (saA, .inl (κ 3, 20, .inr (.inr (.inr (.inr (fun k => some (sg1 k)))))))] ++ krF κ sg1 sg2 sg3 z_ps) r0 := by
  refine krI_of (cc := cX8_free) (maxL := 1) (rt := .int) (by decide) rfl (Nat.le_of_ble_eq_true rfl) ?_
  intro p e s m args below meth c A Q ls hx hb hml hown hts hK hA hret hP hD hS hl
  have hown : s.vm.findClass RX8 = some m.cls := hown
  have hl : lv_has ls 1 [(0, .ref kro)] := hl
  have iw8 : ∀ w ∈ u_ws RX8 TX8 11, w ∈ wsX8_free := (fun _ h => List.mem_cons_of_mem _ (List.mem_append_left _ (List.mem_append_left _ (List.mem_append_left _ (List.mem_append_right _ h)))))
  have iw5 : ∀ w ∈ u_ws RX5 TX5 7, w ∈ wsX8_free := (fun _ h => List.mem_cons_of_mem _ (List.mem_append_left _ (List.mem_append_left _ (List.mem_append_right _ h))))
  have k0 : (Cond.constant RX8 185 (-1000000003)).before args s = true := hts _ (List.mem_of_getElem? (i := 2) rfl)
  have k1 : (Cond.fieldLink RX8 29 "KingRansom" "now" "LKingRansom$State;").before args s = true := hts _ (List.mem_of_getElem? (i := 1) rfl)
  have k2 : (Cond.initialized RX5).before args s = true := hts _ (List.mem_of_getElem? (i := 11) rfl)
  have k3 : (Cond.instanceMethod yX5_cost).before args s = true := hts _ (List.mem_of_getElem? (i := 10) rfl)
  have k4 : (Cond.selects RX5 yX5_cost yX5_cost).before args s = true := hts _ (List.mem_of_getElem? (i := 12) rfl)
  have k5 : (Cond.fieldLink RX8 39 "KingRansom" "past" "LKingRansom$Past;").before args s = true := hts _ (List.mem_of_getElem? (i := 3) rfl)
  have k6 : (Cond.initialized RX2).before args s = true := hts _ (List.mem_of_getElem? (i := 28) rfl)
  have k7 : (Cond.instanceMethod yX2_push).before args s = true := hts _ (List.mem_of_getElem? (i := 27) rfl)
  have k8 : (Cond.selects RX2 yX2_push yX2_push).before args s = true := hts _ (List.mem_of_getElem? (i := 29) rfl)
  unfold pX8_free at hres
  refine lv_aload_n hx hb dX8_free_0 rfl (lv_at hl 0 rfl) ?_
  obtain ⟨r1, hc2, hres⟩ := kb1_s hres
  refine krI_V_R (As := []) (rest := []) (wr := [(pao, .inr (2, [.ref saA, .int pa_next, .int pa_count])), (saA, .inl (κ 3, 20, .inr (.inr (.inr (.inr (fun k => some (sg1 k)))))))]) ⟨hx, hb, hml, hown, hts⟩ hK (tX8_isKept l D κ kro txo tlo dfo nwo aho pao iaA sco bko spo tl_goodsA tl_shyA tl_bidOfA tl_daysOfA nw_goodsA nw_ratesA kr_drawn tl_stands tl_price tl_death tl_payers tl_bids tl_hostages tl_bags tl_bagMarks tl_goods tl_shy tl_bidOf tl_daysOf nw_price nw_months nw_chest nw_given nw_fate nw_goods nw_rates r1 hc2) (cwV 0 hts gX8_free_X8_isKept rfl rfl rfl (by decide +kernel) ⟨(Nat.le_of_ble_eq_true rfl), (Nat.le_of_ble_eq_true rfl)⟩) rfl rfl rfl hP hD hS hA [0, 1, 2, 3, 4, 5, 6, 7, 8] [9, 10] rfl rfl rfl rfl (by decide) rfl hl.1 rfl (Nat.le_of_ble_eq_true rfl) dX8_free_1 ⟨Nat.zero_le _, Nat.zero_le _⟩ (fun H locs hP hD hS => ?_)
  have hP : va_P D vwCl ([(pao, .inr (2, [.ref saA, .int pa_next, .int pa_count])), (saA, .inl (κ 3, 20, .inr (.inr (.inr (.inr (fun k => some (sg1 k))))))), (kro, .inr (8, [.ref txo, .ref tlo, .ref dfo, .ref nwo, .ref aho, .ref pao, .ref iaA, .ref sco, .ref bko, .ref spo, .int kr_drawn])), (tlo, .inr (6, [.int tl_stands, .int tl_price, .int tl_death, .int tl_payers, .int tl_bids, .int tl_hostages, .int tl_bags, .int tl_bagMarks, .ref tl_goodsA, .ref tl_shyA, .ref tl_bidOfA, .ref tl_daysOfA])), (tl_goodsA, .inl (κ 0, 6, .inl tl_goods)), (tl_shyA, .inl (κ 0, 6, .inl tl_shy)), (tl_bidOfA, .inl (κ 0, 9, .inl tl_bidOf)), (tl_daysOfA, .inl (κ 0, 6, .inl tl_daysOf)), (nwo, .inr (5, [.int nw_price, .int nw_months, .int nw_chest, .int nw_given, .int nw_fate, .ref nw_goodsA, .ref nw_ratesA])), (nw_goodsA, .inl (κ 0, 6, .inl nw_goods)), (nw_ratesA, .inl (κ 0, 6, .inl nw_rates))] ++ krF κ sg1 sg2 sg3 ps) H := hP
  have hD : va_D A ([(pao, .inr (2, [.ref saA, .int pa_next, .int pa_count])), (saA, .inl (κ 3, 20, .inr (.inr (.inr (.inr (fun k => some (sg1 k))))))), (kro, .inr (8, [.ref txo, .ref tlo, .ref dfo, .ref nwo, .ref aho, .ref pao, .ref iaA, .ref sco, .ref bko, .ref spo, .int kr_drawn])), (tlo, .inr (6, [.int tl_stands, .int tl_price, .int tl_death, .int tl_payers, .int tl_bids, .int tl_hostages, .int tl_bags, .int tl_bagMarks, .ref tl_goodsA, .ref tl_shyA, .ref tl_bidOfA, .ref tl_daysOfA])), (tl_goodsA, .inl (κ 0, 6, .inl tl_goods)), (tl_shyA, .inl (κ 0, 6, .inl tl_shy)), (tl_bidOfA, .inl (κ 0, 9, .inl tl_bidOf)), (tl_daysOfA, .inl (κ 0, 6, .inl tl_daysOf)), (nwo, .inr (5, [.int nw_price, .int nw_months, .int nw_chest, .int nw_given, .int nw_fate, .ref nw_goodsA, .ref nw_ratesA])), (nw_goodsA, .inl (κ 0, 6, .inl nw_goods)), (nw_ratesA, .inl (κ 0, 6, .inl nw_rates))] ++ krF κ sg1 sg2 sg3 ps) := hD
  refine lv_if_eq (tgt := 24) hx hb dX8_free_4 (by decide) (fun c3 => ?_) (fun c3 => ?_)
  · replace hres := og_t c3 hres
    refine lv_ldc (v := (-1000000003)) hx hb hown k0 dX8_free_24 ?_
    have hres := Option.some.inj hres
    have h0 := (Prod.mk.inj hres).1
    replace hres := (Prod.mk.inj hres).2
    have h1 := (Prod.mk.inj hres).1
    replace hres := (Prod.mk.inj hres).2
    have h2 := (Prod.mk.inj hres).1
    replace hres := (Prod.mk.inj hres).2
    have h3 := (Prod.mk.inj hres).1
    replace hres := (Prod.mk.inj hres).2
    have h4 := (Prod.mk.inj hres).1
    replace hres := (Prod.mk.inj hres).2
    have h5 := hres
    subst h0
    subst h1
    subst h2
    subst h3
    subst h4
    subst h5
    exact hret _ _ _ _ (vp_nar_int _) (kr_subP hP [2, 3, 4, 5, 6, 7, 8, 9, 10, 0, 1] rfl) (kr_subD hD [2, 3, 4, 5, 6, 7, 8, 9, 10, 0, 1] (by decide) rfl) hS dX8_free_26
  · replace hres := og_f c3 hres
    refine lv_aload_n hx hb dX8_free_7 rfl (lv_at hl 0 rfl) ?_
    refine va_get (D := D) (ci := 8) (v := .ref nwo) (C := RX8) (T := TX8) (N := 11) hx hb hts iw8 hown hK.1 hP 2 rfl rfl 3 (by decide) k1 (fun _ h9 => h9) rfl dX8_free_8 ?_
    refine va_getN (D := D) (ci := 5) (v := .int nw_chest) (C := RX5) (T := TX5) (N := 7) hx hb hts iw5 hown hK.1 hP 8 rfl rfl 2 (by decide) (hK.fl 31 rfl) (fun _ h9 => h9) rfl dX8_free_11 ?_
    refine lv_aload_n hx hb dX8_free_14 rfl (lv_at hl 0 rfl) ?_
    refine va_get (D := D) (ci := 8) (v := .ref nwo) (C := RX8) (T := TX8) (N := 11) hx hb hts iw8 hown hK.1 hP 2 rfl rfl 3 (by decide) k1 (fun _ h9 => h9) rfl dX8_free_15 ?_
    obtain ⟨r4, hc5, hres⟩ := kb1_s hres
    refine krI_VN_R (As := []) (rest := [.int nw_chest]) (wr := [(pao, .inr (2, [.ref saA, .int pa_next, .int pa_count])), (saA, .inl (κ 3, 20, .inr (.inr (.inr (.inr (fun k => some (sg1 k))))))), (kro, .inr (8, [.ref txo, .ref tlo, .ref dfo, .ref nwo, .ref aho, .ref pao, .ref iaA, .ref sco, .ref bko, .ref spo, .int kr_drawn])), (tlo, .inr (6, [.int tl_stands, .int tl_price, .int tl_death, .int tl_payers, .int tl_bids, .int tl_hostages, .int tl_bags, .int tl_bagMarks, .ref tl_goodsA, .ref tl_shyA, .ref tl_bidOfA, .ref tl_daysOfA])), (tl_goodsA, .inl (κ 0, 6, .inl tl_goods)), (tl_shyA, .inl (κ 0, 6, .inl tl_shy)), (tl_bidOfA, .inl (κ 0, 9, .inl tl_bidOf)), (tl_daysOfA, .inl (κ 0, 6, .inl tl_daysOf))]) ⟨hx, hb, hml, hown, hts⟩ hK (tX5_cost l D κ nwo nw_goodsA nw_ratesA nw_price nw_months nw_chest nw_given nw_fate nw_goods nw_rates r4 hc5) ⟨va_cnB 0 hts gX8_free_X5_cost_n192 rfl rfl rfl (hK.ml 24 rfl) k2 (by decide +kernel) ⟨(Nat.le_of_ble_eq_true rfl), (Nat.le_of_ble_eq_true rfl)⟩, k3, k4⟩ rfl rfl rfl hP hD hS hA [8, 9, 10] [0, 1, 2, 3, 4, 5, 6, 7] rfl rfl rfl rfl (by decide) rfl hl.1 rfl (Nat.le_of_ble_eq_true rfl) dX8_free_18 ⟨Nat.zero_le _, Nat.zero_le _⟩ (fun H locs hP hD hS => ?_)
    have hP : va_P D vwCl ([(pao, .inr (2, [.ref saA, .int pa_next, .int pa_count])), (saA, .inl (κ 3, 20, .inr (.inr (.inr (.inr (fun k => some (sg1 k))))))), (kro, .inr (8, [.ref txo, .ref tlo, .ref dfo, .ref nwo, .ref aho, .ref pao, .ref iaA, .ref sco, .ref bko, .ref spo, .int kr_drawn])), (tlo, .inr (6, [.int tl_stands, .int tl_price, .int tl_death, .int tl_payers, .int tl_bids, .int tl_hostages, .int tl_bags, .int tl_bagMarks, .ref tl_goodsA, .ref tl_shyA, .ref tl_bidOfA, .ref tl_daysOfA])), (tl_goodsA, .inl (κ 0, 6, .inl tl_goods)), (tl_shyA, .inl (κ 0, 6, .inl tl_shy)), (tl_bidOfA, .inl (κ 0, 9, .inl tl_bidOf)), (tl_daysOfA, .inl (κ 0, 6, .inl tl_daysOf)), (nwo, .inr (5, [.int nw_price, .int nw_months, .int nw_chest, .int nw_given, .int nw_fate, .ref nw_goodsA, .ref nw_ratesA])), (nw_goodsA, .inl (κ 0, 6, .inl nw_goods)), (nw_ratesA, .inl (κ 0, 6, .inl nw_rates))] ++ krF κ sg1 sg2 sg3 ps) H := hP
    have hD : va_D A ([(pao, .inr (2, [.ref saA, .int pa_next, .int pa_count])), (saA, .inl (κ 3, 20, .inr (.inr (.inr (.inr (fun k => some (sg1 k))))))), (kro, .inr (8, [.ref txo, .ref tlo, .ref dfo, .ref nwo, .ref aho, .ref pao, .ref iaA, .ref sco, .ref bko, .ref spo, .int kr_drawn])), (tlo, .inr (6, [.int tl_stands, .int tl_price, .int tl_death, .int tl_payers, .int tl_bids, .int tl_hostages, .int tl_bags, .int tl_bagMarks, .ref tl_goodsA, .ref tl_shyA, .ref tl_bidOfA, .ref tl_daysOfA])), (tl_goodsA, .inl (κ 0, 6, .inl tl_goods)), (tl_shyA, .inl (κ 0, 6, .inl tl_shy)), (tl_bidOfA, .inl (κ 0, 9, .inl tl_bidOf)), (tl_daysOfA, .inl (κ 0, 6, .inl tl_daysOf)), (nwo, .inr (5, [.int nw_price, .int nw_months, .int nw_chest, .int nw_given, .int nw_fate, .ref nw_goodsA, .ref nw_ratesA])), (nw_goodsA, .inl (κ 0, 6, .inl nw_goods)), (nw_ratesA, .inl (κ 0, 6, .inl nw_rates))] ++ krF κ sg1 sg2 sg3 ps) := hD
    refine lv_icmp_ge (tgt := 27) hx hb dX8_free_21 (by decide) (fun c6 => ?_) (fun c6 => ?_)
    · replace hres := og_t c6 hres
      refine lv_aload_n hx hb dX8_free_27 rfl (lv_at hl 0 rfl) ?_
      refine va_get (D := D) (ci := 8) (v := .ref pao) (C := RX8) (T := TX8) (N := 11) hx hb hts iw8 hown hK.1 hP 2 rfl rfl 5 (by decide) k5 (fun _ h9 => h9) rfl dX8_free_28 ?_
      refine lv_aload_n hx hb dX8_free_31 rfl (lv_at hl 0 rfl) ?_
      refine va_get (D := D) (ci := 8) (v := .ref nwo) (C := RX8) (T := TX8) (N := 11) hx hb hts iw8 hown hK.1 hP 2 rfl rfl 3 (by decide) k1 (fun _ h9 => h9) rfl dX8_free_32 ?_
      obtain ⟨w7, w8, w9, hc10, hres⟩ := kb3_s hres
      refine krV_VN_F (As := [.ref nwo]) (rest := []) (wr := [(kro, .inr (8, [.ref txo, .ref tlo, .ref dfo, .ref nwo, .ref aho, .ref pao, .ref iaA, .ref sco, .ref bko, .ref spo, .int kr_drawn])), (tlo, .inr (6, [.int tl_stands, .int tl_price, .int tl_death, .int tl_payers, .int tl_bids, .int tl_hostages, .int tl_bags, .int tl_bagMarks, .ref tl_goodsA, .ref tl_shyA, .ref tl_bidOfA, .ref tl_daysOfA])), (tl_goodsA, .inl (κ 0, 6, .inl tl_goods)), (tl_shyA, .inl (κ 0, 6, .inl tl_shy)), (tl_bidOfA, .inl (κ 0, 9, .inl tl_bidOf)), (tl_daysOfA, .inl (κ 0, 6, .inl tl_daysOf))]) ⟨hx, hb, hml, hown, hts⟩ hK (tX2_push l D κ pao saA sg1 sg2 sg3 nwo nw_goodsA nw_ratesA N pa_next pa_count ps nw_price nw_months nw_chest nw_given nw_fate nw_goods nw_rates w7 w8 w9 hc10) ⟨va_cnB 1 hts gX8_free_X2_push_n170 rfl rfl rfl (hK.ml 20 rfl) k6 (by decide +kernel) ⟨(Nat.le_of_ble_eq_true rfl), (Nat.le_of_ble_eq_true rfl)⟩, k7, k8⟩ rfl rfl rfl hP hD hS hA [0, 1, 8, 9, 10] [2, 3, 4, 5, 6, 7] rfl rfl rfl rfl (by decide) rfl hl.1 rfl (Nat.le_of_ble_eq_true rfl) dX8_free_35 ⟨Nat.zero_le _, Nat.zero_le _⟩ (fun H locs hP hD hS => ?_)
      have hP : va_P D vwCl ([(kro, .inr (8, [.ref txo, .ref tlo, .ref dfo, .ref nwo, .ref aho, .ref pao, .ref iaA, .ref sco, .ref bko, .ref spo, .int kr_drawn])), (tlo, .inr (6, [.int tl_stands, .int tl_price, .int tl_death, .int tl_payers, .int tl_bids, .int tl_hostages, .int tl_bags, .int tl_bagMarks, .ref tl_goodsA, .ref tl_shyA, .ref tl_bidOfA, .ref tl_daysOfA])), (tl_goodsA, .inl (κ 0, 6, .inl tl_goods)), (tl_shyA, .inl (κ 0, 6, .inl tl_shy)), (tl_bidOfA, .inl (κ 0, 9, .inl tl_bidOf)), (tl_daysOfA, .inl (κ 0, 6, .inl tl_daysOf)), (pao, .inr (2, [.ref saA, .int w7, .int w8])), (saA, .inl (κ 3, 20, .inr (.inr (.inr (.inr (fun k => some (sg1 k))))))), (nwo, .inr (5, [.int nw_price, .int nw_months, .int nw_chest, .int nw_given, .int nw_fate, .ref nw_goodsA, .ref nw_ratesA])), (nw_goodsA, .inl (κ 0, 6, .inl nw_goods)), (nw_ratesA, .inl (κ 0, 6, .inl nw_rates))] ++ krF κ sg1 sg2 sg3 w9) H := hP
      have hD : va_D A ([(kro, .inr (8, [.ref txo, .ref tlo, .ref dfo, .ref nwo, .ref aho, .ref pao, .ref iaA, .ref sco, .ref bko, .ref spo, .int kr_drawn])), (tlo, .inr (6, [.int tl_stands, .int tl_price, .int tl_death, .int tl_payers, .int tl_bids, .int tl_hostages, .int tl_bags, .int tl_bagMarks, .ref tl_goodsA, .ref tl_shyA, .ref tl_bidOfA, .ref tl_daysOfA])), (tl_goodsA, .inl (κ 0, 6, .inl tl_goods)), (tl_shyA, .inl (κ 0, 6, .inl tl_shy)), (tl_bidOfA, .inl (κ 0, 9, .inl tl_bidOf)), (tl_daysOfA, .inl (κ 0, 6, .inl tl_daysOf)), (pao, .inr (2, [.ref saA, .int w7, .int w8])), (saA, .inl (κ 3, 20, .inr (.inr (.inr (.inr (fun k => some (sg1 k))))))), (nwo, .inr (5, [.int nw_price, .int nw_months, .int nw_chest, .int nw_given, .int nw_fate, .ref nw_goodsA, .ref nw_ratesA])), (nw_goodsA, .inl (κ 0, 6, .inl nw_goods)), (nw_ratesA, .inl (κ 0, 6, .inl nw_rates))] ++ krF κ sg1 sg2 sg3 w9) := hD
      refine lv_aload_n hx hb dX8_free_38 rfl (lv_at hl 0 rfl) ?_
      refine va_get (D := D) (ci := 8) (v := .ref nwo) (C := RX8) (T := TX8) (N := 11) hx hb hts iw8 hown hK.1 hP 0 rfl rfl 3 (by decide) k1 (fun _ h9 => h9) rfl dX8_free_39 ?_
      refine lv_dup hx hb dX8_free_42 rfl ?_
      refine va_getN (D := D) (ci := 5) (v := .int nw_chest) (C := RX5) (T := TX5) (N := 7) hx hb hts iw5 hown hK.1 hP 8 rfl rfl 2 (by decide) (hK.fl 31 rfl) (fun _ h9 => h9) rfl dX8_free_43 ?_
      refine lv_aload_n hx hb dX8_free_46 rfl (lv_at hl 0 rfl) ?_
      refine va_get (D := D) (ci := 8) (v := .ref nwo) (C := RX8) (T := TX8) (N := 11) hx hb hts iw8 hown hK.1 hP 0 rfl rfl 3 (by decide) k1 (fun _ h9 => h9) rfl dX8_free_47 ?_
      obtain ⟨r11, hc12, hres⟩ := kb1_s hres
      refine krI_VN_R (As := []) (rest := [.int nw_chest, .ref nwo]) (wr := [(kro, .inr (8, [.ref txo, .ref tlo, .ref dfo, .ref nwo, .ref aho, .ref pao, .ref iaA, .ref sco, .ref bko, .ref spo, .int kr_drawn])), (tlo, .inr (6, [.int tl_stands, .int tl_price, .int tl_death, .int tl_payers, .int tl_bids, .int tl_hostages, .int tl_bags, .int tl_bagMarks, .ref tl_goodsA, .ref tl_shyA, .ref tl_bidOfA, .ref tl_daysOfA])), (tl_goodsA, .inl (κ 0, 6, .inl tl_goods)), (tl_shyA, .inl (κ 0, 6, .inl tl_shy)), (tl_bidOfA, .inl (κ 0, 9, .inl tl_bidOf)), (tl_daysOfA, .inl (κ 0, 6, .inl tl_daysOf)), (pao, .inr (2, [.ref saA, .int w7, .int w8])), (saA, .inl (κ 3, 20, .inr (.inr (.inr (.inr (fun k => some (sg1 k)))))))]) ⟨hx, hb, hml, hown, hts⟩ hK (tX5_cost l D κ nwo nw_goodsA nw_ratesA nw_price nw_months nw_chest nw_given nw_fate nw_goods nw_rates r11 hc12) ⟨va_cnB 0 hts gX8_free_X5_cost_n192 rfl rfl rfl (hK.ml 24 rfl) k2 (by decide +kernel) ⟨(Nat.le_of_ble_eq_true rfl), (Nat.le_of_ble_eq_true rfl)⟩, k3, k4⟩ rfl rfl rfl hP hD hS hA [8, 9, 10] [0, 1, 2, 3, 4, 5, 6, 7] rfl rfl rfl rfl (by decide) rfl hl.1 rfl (Nat.le_of_ble_eq_true rfl) dX8_free_50 ⟨Nat.zero_le _, Nat.zero_le _⟩ (fun H locs hP hD hS => ?_)
      have hP : va_P D vwCl ([(kro, .inr (8, [.ref txo, .ref tlo, .ref dfo, .ref nwo, .ref aho, .ref pao, .ref iaA, .ref sco, .ref bko, .ref spo, .int kr_drawn])), (tlo, .inr (6, [.int tl_stands, .int tl_price, .int tl_death, .int tl_payers, .int tl_bids, .int tl_hostages, .int tl_bags, .int tl_bagMarks, .ref tl_goodsA, .ref tl_shyA, .ref tl_bidOfA, .ref tl_daysOfA])), (tl_goodsA, .inl (κ 0, 6, .inl tl_goods)), (tl_shyA, .inl (κ 0, 6, .inl tl_shy)), (tl_bidOfA, .inl (κ 0, 9, .inl tl_bidOf)), (tl_daysOfA, .inl (κ 0, 6, .inl tl_daysOf)), (pao, .inr (2, [.ref saA, .int w7, .int w8])), (saA, .inl (κ 3, 20, .inr (.inr (.inr (.inr (fun k => some (sg1 k))))))), (nwo, .inr (5, [.int nw_price, .int nw_months, .int nw_chest, .int nw_given, .int nw_fate, .ref nw_goodsA, .ref nw_ratesA])), (nw_goodsA, .inl (κ 0, 6, .inl nw_goods)), (nw_ratesA, .inl (κ 0, 6, .inl nw_rates))] ++ krF κ sg1 sg2 sg3 w9) H := hP
      have hD : va_D A ([(kro, .inr (8, [.ref txo, .ref tlo, .ref dfo, .ref nwo, .ref aho, .ref pao, .ref iaA, .ref sco, .ref bko, .ref spo, .int kr_drawn])), (tlo, .inr (6, [.int tl_stands, .int tl_price, .int tl_death, .int tl_payers, .int tl_bids, .int tl_hostages, .int tl_bags, .int tl_bagMarks, .ref tl_goodsA, .ref tl_shyA, .ref tl_bidOfA, .ref tl_daysOfA])), (tl_goodsA, .inl (κ 0, 6, .inl tl_goods)), (tl_shyA, .inl (κ 0, 6, .inl tl_shy)), (tl_bidOfA, .inl (κ 0, 9, .inl tl_bidOf)), (tl_daysOfA, .inl (κ 0, 6, .inl tl_daysOf)), (pao, .inr (2, [.ref saA, .int w7, .int w8])), (saA, .inl (κ 3, 20, .inr (.inr (.inr (.inr (fun k => some (sg1 k))))))), (nwo, .inr (5, [.int nw_price, .int nw_months, .int nw_chest, .int nw_given, .int nw_fate, .ref nw_goodsA, .ref nw_ratesA])), (nw_goodsA, .inl (κ 0, 6, .inl nw_goods)), (nw_ratesA, .inl (κ 0, 6, .inl nw_rates))] ++ krF κ sg1 sg2 sg3 w9) := hD
      refine lv_isub hx hb dX8_free_53 ?_
      refine va_putN (D := D) (ci := 5) (v := .int (nw_chest - r11)) (ty := .int) (C := RX5) (T := TX5) (N := 7) hx hb hts iw5 tyX5 tyX5_ok nmX5 hown hK.1 hP hD hS 8 rfl rfl 2 (by decide) (hK.fl 31 rfl) (fun _ h9 => h9) rfl (tyX5_ok 2 (by decide)) rfl rfl (Nat.le_of_ble_eq_true rfl) dX8_free_54 (fun H locs hP hD hS => ?_)
      have hP : va_P D vwCl ([(kro, .inr (8, [.ref txo, .ref tlo, .ref dfo, .ref nwo, .ref aho, .ref pao, .ref iaA, .ref sco, .ref bko, .ref spo, .int kr_drawn])), (tlo, .inr (6, [.int tl_stands, .int tl_price, .int tl_death, .int tl_payers, .int tl_bids, .int tl_hostages, .int tl_bags, .int tl_bagMarks, .ref tl_goodsA, .ref tl_shyA, .ref tl_bidOfA, .ref tl_daysOfA])), (tl_goodsA, .inl (κ 0, 6, .inl tl_goods)), (tl_shyA, .inl (κ 0, 6, .inl tl_shy)), (tl_bidOfA, .inl (κ 0, 9, .inl tl_bidOf)), (tl_daysOfA, .inl (κ 0, 6, .inl tl_daysOf)), (pao, .inr (2, [.ref saA, .int w7, .int w8])), (saA, .inl (κ 3, 20, .inr (.inr (.inr (.inr (fun k => some (sg1 k))))))), (nwo, .inr (5, [.int nw_price, .int nw_months, .int (nw_chest - r11), .int nw_given, .int nw_fate, .ref nw_goodsA, .ref nw_ratesA])), (nw_goodsA, .inl (κ 0, 6, .inl nw_goods)), (nw_ratesA, .inl (κ 0, 6, .inl nw_rates))] ++ krF κ sg1 sg2 sg3 w9) H := hP
      have hD : va_D A ([(kro, .inr (8, [.ref txo, .ref tlo, .ref dfo, .ref nwo, .ref aho, .ref pao, .ref iaA, .ref sco, .ref bko, .ref spo, .int kr_drawn])), (tlo, .inr (6, [.int tl_stands, .int tl_price, .int tl_death, .int tl_payers, .int tl_bids, .int tl_hostages, .int tl_bags, .int tl_bagMarks, .ref tl_goodsA, .ref tl_shyA, .ref tl_bidOfA, .ref tl_daysOfA])), (tl_goodsA, .inl (κ 0, 6, .inl tl_goods)), (tl_shyA, .inl (κ 0, 6, .inl tl_shy)), (tl_bidOfA, .inl (κ 0, 9, .inl tl_bidOf)), (tl_daysOfA, .inl (κ 0, 6, .inl tl_daysOf)), (pao, .inr (2, [.ref saA, .int w7, .int w8])), (saA, .inl (κ 3, 20, .inr (.inr (.inr (.inr (fun k => some (sg1 k))))))), (nwo, .inr (5, [.int nw_price, .int nw_months, .int (nw_chest - r11), .int nw_given, .int nw_fate, .ref nw_goodsA, .ref nw_ratesA])), (nw_goodsA, .inl (κ 0, 6, .inl nw_goods)), (nw_ratesA, .inl (κ 0, 6, .inl nw_rates))] ++ krF κ sg1 sg2 sg3 w9) := hD
      refine lv_aload_n hx hb dX8_free_57 rfl (lv_at hl 0 rfl) ?_
      refine va_get (D := D) (ci := 8) (v := .ref nwo) (C := RX8) (T := TX8) (N := 11) hx hb hts iw8 hown hK.1 hP 0 rfl rfl 3 (by decide) k1 (fun _ h9 => h9) rfl dX8_free_58 ?_
      refine lv_iconst (v := 1) hx hb dX8_free_61 (by decide) ?_
      refine va_putN (D := D) (ci := 5) (v := .int 1) (ty := .int) (C := RX5) (T := TX5) (N := 7) hx hb hts iw5 tyX5 tyX5_ok nmX5 hown hK.1 hP hD hS 8 rfl rfl 4 (by decide) (hK.fl 33 rfl) (fun _ h9 => h9) rfl (tyX5_ok 4 (by decide)) rfl rfl (Nat.le_of_ble_eq_true rfl) dX8_free_62 (fun H locs hP hD hS => ?_)
      have hP : va_P D vwCl ([(kro, .inr (8, [.ref txo, .ref tlo, .ref dfo, .ref nwo, .ref aho, .ref pao, .ref iaA, .ref sco, .ref bko, .ref spo, .int kr_drawn])), (tlo, .inr (6, [.int tl_stands, .int tl_price, .int tl_death, .int tl_payers, .int tl_bids, .int tl_hostages, .int tl_bags, .int tl_bagMarks, .ref tl_goodsA, .ref tl_shyA, .ref tl_bidOfA, .ref tl_daysOfA])), (tl_goodsA, .inl (κ 0, 6, .inl tl_goods)), (tl_shyA, .inl (κ 0, 6, .inl tl_shy)), (tl_bidOfA, .inl (κ 0, 9, .inl tl_bidOf)), (tl_daysOfA, .inl (κ 0, 6, .inl tl_daysOf)), (pao, .inr (2, [.ref saA, .int w7, .int w8])), (saA, .inl (κ 3, 20, .inr (.inr (.inr (.inr (fun k => some (sg1 k))))))), (nwo, .inr (5, [.int nw_price, .int nw_months, .int (nw_chest - r11), .int nw_given, .int 1, .ref nw_goodsA, .ref nw_ratesA])), (nw_goodsA, .inl (κ 0, 6, .inl nw_goods)), (nw_ratesA, .inl (κ 0, 6, .inl nw_rates))] ++ krF κ sg1 sg2 sg3 w9) H := hP
      have hD : va_D A ([(kro, .inr (8, [.ref txo, .ref tlo, .ref dfo, .ref nwo, .ref aho, .ref pao, .ref iaA, .ref sco, .ref bko, .ref spo, .int kr_drawn])), (tlo, .inr (6, [.int tl_stands, .int tl_price, .int tl_death, .int tl_payers, .int tl_bids, .int tl_hostages, .int tl_bags, .int tl_bagMarks, .ref tl_goodsA, .ref tl_shyA, .ref tl_bidOfA, .ref tl_daysOfA])), (tl_goodsA, .inl (κ 0, 6, .inl tl_goods)), (tl_shyA, .inl (κ 0, 6, .inl tl_shy)), (tl_bidOfA, .inl (κ 0, 9, .inl tl_bidOf)), (tl_daysOfA, .inl (κ 0, 6, .inl tl_daysOf)), (pao, .inr (2, [.ref saA, .int w7, .int w8])), (saA, .inl (κ 3, 20, .inr (.inr (.inr (.inr (fun k => some (sg1 k))))))), (nwo, .inr (5, [.int nw_price, .int nw_months, .int (nw_chest - r11), .int nw_given, .int 1, .ref nw_goodsA, .ref nw_ratesA])), (nw_goodsA, .inl (κ 0, 6, .inl nw_goods)), (nw_ratesA, .inl (κ 0, 6, .inl nw_rates))] ++ krF κ sg1 sg2 sg3 w9) := hD
      refine lv_aload_n hx hb dX8_free_65 rfl (lv_at hl 0 rfl) ?_
      refine va_get (D := D) (ci := 8) (v := .ref nwo) (C := RX8) (T := TX8) (N := 11) hx hb hts iw8 hown hK.1 hP 0 rfl rfl 3 (by decide) k1 (fun _ h9 => h9) rfl dX8_free_66 ?_
      refine va_getN (D := D) (ci := 5) (v := .int (nw_chest - r11)) (C := RX5) (T := TX5) (N := 7) hx hb hts iw5 hown hK.1 hP 8 rfl rfl 2 (by decide) (hK.fl 31 rfl) (fun _ h9 => h9) rfl dX8_free_69 ?_
      have hres := Option.some.inj hres
      have h0 := (Prod.mk.inj hres).1
      replace hres := (Prod.mk.inj hres).2
      have h1 := (Prod.mk.inj hres).1
      replace hres := (Prod.mk.inj hres).2
      have h2 := (Prod.mk.inj hres).1
      replace hres := (Prod.mk.inj hres).2
      have h3 := (Prod.mk.inj hres).1
      replace hres := (Prod.mk.inj hres).2
      have h4 := (Prod.mk.inj hres).1
      replace hres := (Prod.mk.inj hres).2
      have h5 := hres
      subst h0
      subst h1
      subst h2
      subst h3
      subst h4
      subst h5
      exact hret _ _ _ _ (vp_nar_int _) (kr_subP hP [0, 1, 2, 3, 4, 5, 8, 9, 10, 6, 7] rfl) (kr_subD hD [0, 1, 2, 3, 4, 5, 8, 9, 10, 6, 7] (by decide) rfl) hS dX8_free_72
    · replace hres := og_f c6 hres
      refine lv_ldc (v := (-1000000003)) hx hb hown k0 dX8_free_24 ?_
      have hres := Option.some.inj hres
      have h0 := (Prod.mk.inj hres).1
      replace hres := (Prod.mk.inj hres).2
      have h1 := (Prod.mk.inj hres).1
      replace hres := (Prod.mk.inj hres).2
      have h2 := (Prod.mk.inj hres).1
      replace hres := (Prod.mk.inj hres).2
      have h3 := (Prod.mk.inj hres).1
      replace hres := (Prod.mk.inj hres).2
      have h4 := (Prod.mk.inj hres).1
      replace hres := (Prod.mk.inj hres).2
      have h5 := hres
      subst h0
      subst h1
      subst h2
      subst h3
      subst h4
      subst h5
      exact hret _ _ _ _ (vp_nar_int _) (kr_subP hP [2, 3, 4, 5, 6, 7, 8, 9, 10, 0, 1] rfl) (kr_subD hD [2, 3, 4, 5, 6, 7, 8, 9, 10, 0, 1] (by decide) rfl) hS dX8_free_26

def pX8_dies (N : Nat) (tl_stands : Int32) (nw_price : Int32) (nw_months : Int32) (nw_chest : Int32) (nw_given : Int32) (nw_fate : Int32) (nw_goods : Nat → Int32) (nw_rates : Nat → Int32) (pa_next : Int32) (pa_count : Int32) (ps : Nat → krS) : Option (Int32 × Int32 × Int32 × Int32 × (Nat → krS)) :=
    kb1 (pX8_isKept tl_stands nw_fate) fun r1 =>
    (if r1 = 0 then
    some ((-1000000003), nw_fate, pa_next, pa_count, ps)
    else
    kb3 (pX2_push N pa_next pa_count ps nw_price nw_months nw_chest nw_given nw_fate nw_goods nw_rates) fun w4 w5 w6 =>
    some (nw_months, 2, w4, w5, w6))
set_option maxHeartbeats 8000000 in
set_option maxRecDepth 100000 in
theorem tX8_dies (l : Launch) (D : va_G) (κ : Nat → ClassId) (kro : Nat) (txo : Nat) (tlo : Nat) (dfo : Nat) (nwo : Nat) (aho : Nat) (pao : Nat) (iaA : Nat) (sco : Nat) (bko : Nat) (spo : Nat) (tl_goodsA : Nat) (tl_shyA : Nat) (tl_bidOfA : Nat) (tl_daysOfA : Nat) (nw_goodsA : Nat) (nw_ratesA : Nat) (saA : Nat) (sg1 : Nat → Nat) (sg2 : Nat → Nat) (sg3 : Nat → Nat) (N : Nat) (kr_drawn : Int32) (tl_stands : Int32) (tl_price : Int32) (tl_death : Int32) (tl_payers : Int32) (tl_bids : Int32) (tl_hostages : Int32) (tl_bags : Int32) (tl_bagMarks : Int32) (tl_goods : Nat → Int32) (tl_shy : Nat → Int32) (tl_bidOf : Nat → Int32) (tl_daysOf : Nat → Int32) (nw_price : Int32) (nw_months : Int32) (nw_chest : Int32) (nw_given : Int32) (nw_fate : Int32) (nw_goods : Nat → Int32) (nw_rates : Nat → Int32) (pa_next : Int32) (pa_count : Int32) (ps : Nat → krS) (r0 : Int32) (z_nw_fate : Int32) (z_pa_next : Int32) (z_pa_count : Int32) (z_ps : Nat → krS) (hres : pX8_dies N tl_stands nw_price nw_months nw_chest nw_given nw_fate nw_goods nw_rates pa_next pa_count ps = some (r0, z_nw_fate, z_pa_next, z_pa_count, z_ps)) : krI l yX8_dies wsX8_dies { frames := 2, cells := 0, slots := 0, locals := 200 } D κ [.ref kro] ([(kro, .inr (8, [.ref txo, .ref tlo, .ref dfo, .ref nwo, .ref aho, .ref pao, .ref iaA, .ref sco, .ref bko, .ref spo, .int kr_drawn])), (tlo, .inr (6, [.int tl_stands, .int tl_price, .int tl_death, .int tl_payers, .int tl_bids, .int tl_hostages, .int tl_bags, .int tl_bagMarks, .ref tl_goodsA, .ref tl_shyA, .ref tl_bidOfA, .ref tl_daysOfA])), (tl_goodsA, .inl (κ 0, 6, .inl tl_goods)), (tl_shyA, .inl (κ 0, 6, .inl tl_shy)), (tl_bidOfA, .inl (κ 0, 9, .inl tl_bidOf)), (tl_daysOfA, .inl (κ 0, 6, .inl tl_daysOf)), (nwo, .inr (5, [.int nw_price, .int nw_months, .int nw_chest, .int nw_given, .int nw_fate, .ref nw_goodsA, .ref nw_ratesA])), (nw_goodsA, .inl (κ 0, 6, .inl nw_goods)), (nw_ratesA, .inl (κ 0, 6, .inl nw_rates)), (pao, .inr (2, [.ref saA, .int pa_next, .int pa_count])), (saA, .inl (κ 3, 20, .inr (.inr (.inr (.inr (fun k => some (sg1 k)))))))] ++ krF κ sg1 sg2 sg3 ps) ([(kro, .inr (8, [.ref txo, .ref tlo, .ref dfo, .ref nwo, .ref aho, .ref pao, .ref iaA, .ref sco, .ref bko, .ref spo, .int kr_drawn])), (tlo, .inr (6, [.int tl_stands, .int tl_price, .int tl_death, .int tl_payers, .int tl_bids, .int tl_hostages, .int tl_bags, .int tl_bagMarks, .ref tl_goodsA, .ref tl_shyA, .ref tl_bidOfA, .ref tl_daysOfA])), (tl_goodsA, .inl (κ 0, 6, .inl tl_goods)), (tl_shyA, .inl (κ 0, 6, .inl tl_shy)), (tl_bidOfA, .inl (κ 0, 9, .inl tl_bidOf)), (tl_daysOfA, .inl (κ 0, 6, .inl tl_daysOf)), (nwo, .inr (5, [.int nw_price, .int nw_months, .int nw_chest, .int nw_given, .int z_nw_fate, .ref nw_goodsA, .ref nw_ratesA])), (nw_goodsA, .inl (κ 0, 6, .inl nw_goods)), (nw_ratesA, .inl (κ 0, 6, .inl nw_rates)), (pao, .inr (2, [.ref saA, .int z_pa_next, .int z_pa_count])), (saA, .inl (κ 3, 20, .inr (.inr (.inr (.inr (fun k => some (sg1 k)))))))] ++ krF κ sg1 sg2 sg3 z_ps) r0 := by
  refine krI_of (cc := cX8_dies) (maxL := 1) (rt := .int) (by decide) rfl (Nat.le_of_ble_eq_true rfl) ?_
  intro p e s m args below meth c A Q ls hx hb hml hown hts hK hA hret hP hD hS hl
  have hown : s.vm.findClass RX8 = some m.cls := hown
  have hl : lv_has ls 1 [(0, .ref kro)] := hl
  have iw8 : ∀ w ∈ u_ws RX8 TX8 11, w ∈ wsX8_dies := (fun _ h => List.mem_cons_of_mem _ (List.mem_append_left _ (List.mem_append_left _ (List.mem_append_left _ (List.mem_append_right _ h)))))
  have iw5 : ∀ w ∈ u_ws RX5 TX5 7, w ∈ wsX8_dies := (fun _ h => List.mem_cons_of_mem _ (List.mem_append_left _ (List.mem_append_left _ (List.mem_append_right _ h))))
  have k0 : (Cond.fieldLink RX8 39 "KingRansom" "past" "LKingRansom$Past;").before args s = true := hts _ (List.mem_of_getElem? (i := 2) rfl)
  have k1 : (Cond.fieldLink RX8 29 "KingRansom" "now" "LKingRansom$State;").before args s = true := hts _ (List.mem_of_getElem? (i := 3) rfl)
  have k2 : (Cond.initialized RX2).before args s = true := hts _ (List.mem_of_getElem? (i := 11) rfl)
  have k3 : (Cond.instanceMethod yX2_push).before args s = true := hts _ (List.mem_of_getElem? (i := 10) rfl)
  have k4 : (Cond.selects RX2 yX2_push yX2_push).before args s = true := hts _ (List.mem_of_getElem? (i := 12) rfl)
  have k5 : (Cond.constant RX8 185 (-1000000003)).before args s = true := hts _ (List.mem_of_getElem? (i := 1) rfl)
  unfold pX8_dies at hres
  refine lv_aload_n hx hb dX8_dies_0 rfl (lv_at hl 0 rfl) ?_
  obtain ⟨r1, hc2, hres⟩ := kb1_s hres
  refine krI_V_R (As := []) (rest := []) (wr := [(pao, .inr (2, [.ref saA, .int pa_next, .int pa_count])), (saA, .inl (κ 3, 20, .inr (.inr (.inr (.inr (fun k => some (sg1 k)))))))]) ⟨hx, hb, hml, hown, hts⟩ hK (tX8_isKept l D κ kro txo tlo dfo nwo aho pao iaA sco bko spo tl_goodsA tl_shyA tl_bidOfA tl_daysOfA nw_goodsA nw_ratesA kr_drawn tl_stands tl_price tl_death tl_payers tl_bids tl_hostages tl_bags tl_bagMarks tl_goods tl_shy tl_bidOf tl_daysOf nw_price nw_months nw_chest nw_given nw_fate nw_goods nw_rates r1 hc2) (cwV 0 hts gX8_dies_X8_isKept rfl rfl rfl (by decide +kernel) ⟨(Nat.le_of_ble_eq_true rfl), (Nat.le_of_ble_eq_true rfl)⟩) rfl rfl rfl hP hD hS hA [0, 1, 2, 3, 4, 5, 6, 7, 8] [9, 10] rfl rfl rfl rfl (by decide) rfl hl.1 rfl (Nat.le_of_ble_eq_true rfl) dX8_dies_1 ⟨Nat.zero_le _, Nat.zero_le _⟩ (fun H locs hP hD hS => ?_)
  have hP : va_P D vwCl ([(pao, .inr (2, [.ref saA, .int pa_next, .int pa_count])), (saA, .inl (κ 3, 20, .inr (.inr (.inr (.inr (fun k => some (sg1 k))))))), (kro, .inr (8, [.ref txo, .ref tlo, .ref dfo, .ref nwo, .ref aho, .ref pao, .ref iaA, .ref sco, .ref bko, .ref spo, .int kr_drawn])), (tlo, .inr (6, [.int tl_stands, .int tl_price, .int tl_death, .int tl_payers, .int tl_bids, .int tl_hostages, .int tl_bags, .int tl_bagMarks, .ref tl_goodsA, .ref tl_shyA, .ref tl_bidOfA, .ref tl_daysOfA])), (tl_goodsA, .inl (κ 0, 6, .inl tl_goods)), (tl_shyA, .inl (κ 0, 6, .inl tl_shy)), (tl_bidOfA, .inl (κ 0, 9, .inl tl_bidOf)), (tl_daysOfA, .inl (κ 0, 6, .inl tl_daysOf)), (nwo, .inr (5, [.int nw_price, .int nw_months, .int nw_chest, .int nw_given, .int nw_fate, .ref nw_goodsA, .ref nw_ratesA])), (nw_goodsA, .inl (κ 0, 6, .inl nw_goods)), (nw_ratesA, .inl (κ 0, 6, .inl nw_rates))] ++ krF κ sg1 sg2 sg3 ps) H := hP
  have hD : va_D A ([(pao, .inr (2, [.ref saA, .int pa_next, .int pa_count])), (saA, .inl (κ 3, 20, .inr (.inr (.inr (.inr (fun k => some (sg1 k))))))), (kro, .inr (8, [.ref txo, .ref tlo, .ref dfo, .ref nwo, .ref aho, .ref pao, .ref iaA, .ref sco, .ref bko, .ref spo, .int kr_drawn])), (tlo, .inr (6, [.int tl_stands, .int tl_price, .int tl_death, .int tl_payers, .int tl_bids, .int tl_hostages, .int tl_bags, .int tl_bagMarks, .ref tl_goodsA, .ref tl_shyA, .ref tl_bidOfA, .ref tl_daysOfA])), (tl_goodsA, .inl (κ 0, 6, .inl tl_goods)), (tl_shyA, .inl (κ 0, 6, .inl tl_shy)), (tl_bidOfA, .inl (κ 0, 9, .inl tl_bidOf)), (tl_daysOfA, .inl (κ 0, 6, .inl tl_daysOf)), (nwo, .inr (5, [.int nw_price, .int nw_months, .int nw_chest, .int nw_given, .int nw_fate, .ref nw_goodsA, .ref nw_ratesA])), (nw_goodsA, .inl (κ 0, 6, .inl nw_goods)), (nw_ratesA, .inl (κ 0, 6, .inl nw_rates))] ++ krF κ sg1 sg2 sg3 ps) := hD
  refine lv_if_ne (tgt := 10) hx hb dX8_dies_4 (by decide) (fun c3 => ?_) (fun c3 => ?_)
  · replace hres := og_f c3 hres
    refine lv_aload_n hx hb dX8_dies_10 rfl (lv_at hl 0 rfl) ?_
    refine va_get (D := D) (ci := 8) (v := .ref pao) (C := RX8) (T := TX8) (N := 11) hx hb hts iw8 hown hK.1 hP 2 rfl rfl 5 (by decide) k0 (fun _ h9 => h9) rfl dX8_dies_11 ?_
    refine lv_aload_n hx hb dX8_dies_14 rfl (lv_at hl 0 rfl) ?_
    refine va_get (D := D) (ci := 8) (v := .ref nwo) (C := RX8) (T := TX8) (N := 11) hx hb hts iw8 hown hK.1 hP 2 rfl rfl 3 (by decide) k1 (fun _ h9 => h9) rfl dX8_dies_15 ?_
    obtain ⟨w4, w5, w6, hc7, hres⟩ := kb3_s hres
    refine krV_VN_F (As := [.ref nwo]) (rest := []) (wr := [(kro, .inr (8, [.ref txo, .ref tlo, .ref dfo, .ref nwo, .ref aho, .ref pao, .ref iaA, .ref sco, .ref bko, .ref spo, .int kr_drawn])), (tlo, .inr (6, [.int tl_stands, .int tl_price, .int tl_death, .int tl_payers, .int tl_bids, .int tl_hostages, .int tl_bags, .int tl_bagMarks, .ref tl_goodsA, .ref tl_shyA, .ref tl_bidOfA, .ref tl_daysOfA])), (tl_goodsA, .inl (κ 0, 6, .inl tl_goods)), (tl_shyA, .inl (κ 0, 6, .inl tl_shy)), (tl_bidOfA, .inl (κ 0, 9, .inl tl_bidOf)), (tl_daysOfA, .inl (κ 0, 6, .inl tl_daysOf))]) ⟨hx, hb, hml, hown, hts⟩ hK (tX2_push l D κ pao saA sg1 sg2 sg3 nwo nw_goodsA nw_ratesA N pa_next pa_count ps nw_price nw_months nw_chest nw_given nw_fate nw_goods nw_rates w4 w5 w6 hc7) ⟨va_cnB 1 hts gX8_dies_X2_push_n170 rfl rfl rfl (hK.ml 20 rfl) k2 (by decide +kernel) ⟨(Nat.le_of_ble_eq_true rfl), (Nat.le_of_ble_eq_true rfl)⟩, k3, k4⟩ rfl rfl rfl hP hD hS hA [0, 1, 8, 9, 10] [2, 3, 4, 5, 6, 7] rfl rfl rfl rfl (by decide) rfl hl.1 rfl (Nat.le_of_ble_eq_true rfl) dX8_dies_18 ⟨Nat.zero_le _, Nat.zero_le _⟩ (fun H locs hP hD hS => ?_)
    have hP : va_P D vwCl ([(kro, .inr (8, [.ref txo, .ref tlo, .ref dfo, .ref nwo, .ref aho, .ref pao, .ref iaA, .ref sco, .ref bko, .ref spo, .int kr_drawn])), (tlo, .inr (6, [.int tl_stands, .int tl_price, .int tl_death, .int tl_payers, .int tl_bids, .int tl_hostages, .int tl_bags, .int tl_bagMarks, .ref tl_goodsA, .ref tl_shyA, .ref tl_bidOfA, .ref tl_daysOfA])), (tl_goodsA, .inl (κ 0, 6, .inl tl_goods)), (tl_shyA, .inl (κ 0, 6, .inl tl_shy)), (tl_bidOfA, .inl (κ 0, 9, .inl tl_bidOf)), (tl_daysOfA, .inl (κ 0, 6, .inl tl_daysOf)), (pao, .inr (2, [.ref saA, .int w4, .int w5])), (saA, .inl (κ 3, 20, .inr (.inr (.inr (.inr (fun k => some (sg1 k))))))), (nwo, .inr (5, [.int nw_price, .int nw_months, .int nw_chest, .int nw_given, .int nw_fate, .ref nw_goodsA, .ref nw_ratesA])), (nw_goodsA, .inl (κ 0, 6, .inl nw_goods)), (nw_ratesA, .inl (κ 0, 6, .inl nw_rates))] ++ krF κ sg1 sg2 sg3 w6) H := hP
    have hD : va_D A ([(kro, .inr (8, [.ref txo, .ref tlo, .ref dfo, .ref nwo, .ref aho, .ref pao, .ref iaA, .ref sco, .ref bko, .ref spo, .int kr_drawn])), (tlo, .inr (6, [.int tl_stands, .int tl_price, .int tl_death, .int tl_payers, .int tl_bids, .int tl_hostages, .int tl_bags, .int tl_bagMarks, .ref tl_goodsA, .ref tl_shyA, .ref tl_bidOfA, .ref tl_daysOfA])), (tl_goodsA, .inl (κ 0, 6, .inl tl_goods)), (tl_shyA, .inl (κ 0, 6, .inl tl_shy)), (tl_bidOfA, .inl (κ 0, 9, .inl tl_bidOf)), (tl_daysOfA, .inl (κ 0, 6, .inl tl_daysOf)), (pao, .inr (2, [.ref saA, .int w4, .int w5])), (saA, .inl (κ 3, 20, .inr (.inr (.inr (.inr (fun k => some (sg1 k))))))), (nwo, .inr (5, [.int nw_price, .int nw_months, .int nw_chest, .int nw_given, .int nw_fate, .ref nw_goodsA, .ref nw_ratesA])), (nw_goodsA, .inl (κ 0, 6, .inl nw_goods)), (nw_ratesA, .inl (κ 0, 6, .inl nw_rates))] ++ krF κ sg1 sg2 sg3 w6) := hD
    refine lv_aload_n hx hb dX8_dies_21 rfl (lv_at hl 0 rfl) ?_
    refine va_get (D := D) (ci := 8) (v := .ref nwo) (C := RX8) (T := TX8) (N := 11) hx hb hts iw8 hown hK.1 hP 0 rfl rfl 3 (by decide) k1 (fun _ h9 => h9) rfl dX8_dies_22 ?_
    refine lv_iconst (v := 2) hx hb dX8_dies_25 (by decide) ?_
    refine va_putN (D := D) (ci := 5) (v := .int 2) (ty := .int) (C := RX5) (T := TX5) (N := 7) hx hb hts iw5 tyX5 tyX5_ok nmX5 hown hK.1 hP hD hS 8 rfl rfl 4 (by decide) (hK.fl 33 rfl) (fun _ h9 => h9) rfl (tyX5_ok 4 (by decide)) rfl rfl (Nat.le_of_ble_eq_true rfl) dX8_dies_26 (fun H locs hP hD hS => ?_)
    have hP : va_P D vwCl ([(kro, .inr (8, [.ref txo, .ref tlo, .ref dfo, .ref nwo, .ref aho, .ref pao, .ref iaA, .ref sco, .ref bko, .ref spo, .int kr_drawn])), (tlo, .inr (6, [.int tl_stands, .int tl_price, .int tl_death, .int tl_payers, .int tl_bids, .int tl_hostages, .int tl_bags, .int tl_bagMarks, .ref tl_goodsA, .ref tl_shyA, .ref tl_bidOfA, .ref tl_daysOfA])), (tl_goodsA, .inl (κ 0, 6, .inl tl_goods)), (tl_shyA, .inl (κ 0, 6, .inl tl_shy)), (tl_bidOfA, .inl (κ 0, 9, .inl tl_bidOf)), (tl_daysOfA, .inl (κ 0, 6, .inl tl_daysOf)), (pao, .inr (2, [.ref saA, .int w4, .int w5])), (saA, .inl (κ 3, 20, .inr (.inr (.inr (.inr (fun k => some (sg1 k))))))), (nwo, .inr (5, [.int nw_price, .int nw_months, .int nw_chest, .int nw_given, .int 2, .ref nw_goodsA, .ref nw_ratesA])), (nw_goodsA, .inl (κ 0, 6, .inl nw_goods)), (nw_ratesA, .inl (κ 0, 6, .inl nw_rates))] ++ krF κ sg1 sg2 sg3 w6) H := hP
    have hD : va_D A ([(kro, .inr (8, [.ref txo, .ref tlo, .ref dfo, .ref nwo, .ref aho, .ref pao, .ref iaA, .ref sco, .ref bko, .ref spo, .int kr_drawn])), (tlo, .inr (6, [.int tl_stands, .int tl_price, .int tl_death, .int tl_payers, .int tl_bids, .int tl_hostages, .int tl_bags, .int tl_bagMarks, .ref tl_goodsA, .ref tl_shyA, .ref tl_bidOfA, .ref tl_daysOfA])), (tl_goodsA, .inl (κ 0, 6, .inl tl_goods)), (tl_shyA, .inl (κ 0, 6, .inl tl_shy)), (tl_bidOfA, .inl (κ 0, 9, .inl tl_bidOf)), (tl_daysOfA, .inl (κ 0, 6, .inl tl_daysOf)), (pao, .inr (2, [.ref saA, .int w4, .int w5])), (saA, .inl (κ 3, 20, .inr (.inr (.inr (.inr (fun k => some (sg1 k))))))), (nwo, .inr (5, [.int nw_price, .int nw_months, .int nw_chest, .int nw_given, .int 2, .ref nw_goodsA, .ref nw_ratesA])), (nw_goodsA, .inl (κ 0, 6, .inl nw_goods)), (nw_ratesA, .inl (κ 0, 6, .inl nw_rates))] ++ krF κ sg1 sg2 sg3 w6) := hD
    refine lv_aload_n hx hb dX8_dies_29 rfl (lv_at hl 0 rfl) ?_
    refine va_get (D := D) (ci := 8) (v := .ref nwo) (C := RX8) (T := TX8) (N := 11) hx hb hts iw8 hown hK.1 hP 0 rfl rfl 3 (by decide) k1 (fun _ h9 => h9) rfl dX8_dies_30 ?_
    refine va_getN (D := D) (ci := 5) (v := .int nw_months) (C := RX5) (T := TX5) (N := 7) hx hb hts iw5 hown hK.1 hP 8 rfl rfl 1 (by decide) (hK.fl 30 rfl) (fun _ h9 => h9) rfl dX8_dies_33 ?_
    have hres := Option.some.inj hres
    have h0 := (Prod.mk.inj hres).1
    replace hres := (Prod.mk.inj hres).2
    have h1 := (Prod.mk.inj hres).1
    replace hres := (Prod.mk.inj hres).2
    have h2 := (Prod.mk.inj hres).1
    replace hres := (Prod.mk.inj hres).2
    have h3 := (Prod.mk.inj hres).1
    replace hres := (Prod.mk.inj hres).2
    have h4 := hres
    subst h0
    subst h1
    subst h2
    subst h3
    subst h4
    exact hret _ _ _ _ (vp_nar_int _) (kr_subP hP [0, 1, 2, 3, 4, 5, 8, 9, 10, 6, 7] rfl) (kr_subD hD [0, 1, 2, 3, 4, 5, 8, 9, 10, 6, 7] (by decide) rfl) hS dX8_dies_36
  · replace hres := og_t c3 hres
    refine lv_ldc (v := (-1000000003)) hx hb hown k5 dX8_dies_7 ?_
    have hres := Option.some.inj hres
    have h0 := (Prod.mk.inj hres).1
    replace hres := (Prod.mk.inj hres).2
    have h1 := (Prod.mk.inj hres).1
    replace hres := (Prod.mk.inj hres).2
    have h2 := (Prod.mk.inj hres).1
    replace hres := (Prod.mk.inj hres).2
    have h3 := (Prod.mk.inj hres).1
    replace hres := (Prod.mk.inj hres).2
    have h4 := hres
    subst h0
    subst h1
    subst h2
    subst h3
    subst h4
    exact hret _ _ _ _ (vp_nar_int _) (kr_subP hP [2, 3, 4, 5, 6, 7, 8, 9, 10, 0, 1] rfl) (kr_subD hD [2, 3, 4, 5, 6, 7, 8, 9, 10, 0, 1] (by decide) rfl) hS dX8_dies_9

def pX8_drift_L76 (k25 : Int32 → Int32 → Int32 → Int32 → Int32 → (Nat → Int32) → Int32 → Int32 → (Nat → krS) → Option (Int32 × Int32 × Int32 × Int32 × Int32 × (Nat → Int32) × Int32 × Int32 × (Nat → krS))) (v3 : Int32) (w_kr_drawn : Int32) (w_nw_months : Int32) (w_nw_chest : Int32) (w_nw_fate : Int32) (w_nw_goods : Nat → Int32) (w_pa_next : Int32) (w_pa_count : Int32) (w_ps : Nat → krS) : Option (Int32 × Int32 × Int32 × Int32 × Int32 × (Nat → Int32) × Int32 × Int32 × (Nat → krS)) :=
    k25 (v3 + 1) w_kr_drawn w_nw_months w_nw_chest w_nw_fate w_nw_goods w_pa_next w_pa_count w_ps
def pX8_drift_L25 (N : Nat) (x1 : Int32) (tl_death : Int32) (tl_payers : Int32) (tl_shy : Nat → Int32) (nw_rates : Nat → Int32) : Nat → Int32 → Int32 → Int32 → Int32 → Int32 → (Nat → Int32) → Int32 → Int32 → (Nat → krS) → Option (Int32 × Int32 × Int32 × Int32 × Int32 × (Nat → Int32) × Int32 × Int32 × (Nat → krS))
  | 0, _, _, _, _, _, _, _, _, _ => none
  | n25 + 1, v3, w_kr_drawn, w_nw_months, w_nw_chest, w_nw_fate, w_nw_goods, w_pa_next, w_pa_count, w_ps =>
    (if x1 ≤ v3 then
    some (w_nw_fate, w_kr_drawn, w_nw_months, w_nw_chest, w_nw_fate, w_nw_goods, w_pa_next, w_pa_count, w_ps)
    else
    (if w_nw_fate = 0 then
    kb2 (pX8_drawOfHundred w_kr_drawn) fun r10 w11 =>
    (if tl_death ≤ r10 then
    kb3 (pX5_passMonth N w_nw_months w_nw_chest w_nw_goods nw_rates tl_payers tl_shy) fun w14 w15 w16 =>
    pX8_drift_L76 (pX8_drift_L25 N x1 tl_death tl_payers tl_shy nw_rates n25) v3 w11 w14 w15 w_nw_fate w16 w_pa_next w_pa_count w_ps
    else
    pX8_drift_L76 (pX8_drift_L25 N x1 tl_death tl_payers tl_shy nw_rates n25) v3 w11 w_nw_months w_nw_chest 2 w_nw_goods w_pa_next w_pa_count w_ps)
    else
    some (w_nw_fate, w_kr_drawn, w_nw_months, w_nw_chest, w_nw_fate, w_nw_goods, w_pa_next, w_pa_count, w_ps)))
def pX8_drift (N : Nat) (x1 : Int32) (kr_drawn : Int32) (tl_stands : Int32) (tl_death : Int32) (tl_payers : Int32) (tl_shy : Nat → Int32) (nw_price : Int32) (nw_months : Int32) (nw_chest : Int32) (nw_given : Int32) (nw_fate : Int32) (nw_goods : Nat → Int32) (nw_rates : Nat → Int32) (pa_next : Int32) (pa_count : Int32) (ps : Nat → krS) : Option (Int32 × Int32 × Int32 × Int32 × Int32 × (Nat → Int32) × Int32 × Int32 × (Nat → krS)) :=
    kb1 (pX8_refusalOfMonths x1 tl_stands nw_months nw_fate) fun r1 =>
    (if r1 = 0 then
    kb3 (pX2_push N pa_next pa_count ps nw_price nw_months nw_chest nw_given nw_fate nw_goods nw_rates) fun w4 w5 w6 =>
    pX8_drift_L25 N x1 tl_death tl_payers tl_shy nw_rates N 0 kr_drawn nw_months nw_chest nw_fate nw_goods w4 w5 w6
    else
    some (r1, kr_drawn, nw_months, nw_chest, nw_fate, nw_goods, pa_next, pa_count, ps))
set_option maxHeartbeats 8000000 in
set_option maxRecDepth 100000 in
theorem tX8_drift (l : Launch) (D : va_G) (κ : Nat → ClassId) (kro : Nat) (txo : Nat) (tlo : Nat) (dfo : Nat) (nwo : Nat) (aho : Nat) (pao : Nat) (iaA : Nat) (sco : Nat) (bko : Nat) (spo : Nat) (tl_goodsA : Nat) (tl_shyA : Nat) (tl_bidOfA : Nat) (tl_daysOfA : Nat) (nw_goodsA : Nat) (nw_ratesA : Nat) (saA : Nat) (sg1 : Nat → Nat) (sg2 : Nat → Nat) (sg3 : Nat → Nat) (N : Nat) (kr_drawn : Int32) (tl_stands : Int32) (tl_price : Int32) (tl_death : Int32) (tl_payers : Int32) (tl_bids : Int32) (tl_hostages : Int32) (tl_bags : Int32) (tl_bagMarks : Int32) (tl_goods : Nat → Int32) (tl_shy : Nat → Int32) (tl_bidOf : Nat → Int32) (tl_daysOf : Nat → Int32) (nw_price : Int32) (nw_months : Int32) (nw_chest : Int32) (nw_given : Int32) (nw_fate : Int32) (nw_goods : Nat → Int32) (nw_rates : Nat → Int32) (pa_next : Int32) (pa_count : Int32) (ps : Nat → krS) (x1 : Int32) (r0 : Int32) (z_kr_drawn : Int32) (z_nw_months : Int32) (z_nw_chest : Int32) (z_nw_fate : Int32) (z_nw_goods : Nat → Int32) (z_pa_next : Int32) (z_pa_count : Int32) (z_ps : Nat → krS) (hres : pX8_drift N x1 kr_drawn tl_stands tl_death tl_payers tl_shy nw_price nw_months nw_chest nw_given nw_fate nw_goods nw_rates pa_next pa_count ps = some (r0, z_kr_drawn, z_nw_months, z_nw_chest, z_nw_fate, z_nw_goods, z_pa_next, z_pa_count, z_ps)) : krI l yX8_drift wsX8_drift { frames := 4, cells := 0, slots := 0, locals := 400 } D κ [.ref kro, .int x1] ([(kro, .inr (8, [.ref txo, .ref tlo, .ref dfo, .ref nwo, .ref aho, .ref pao, .ref iaA, .ref sco, .ref bko, .ref spo, .int kr_drawn])), (tlo, .inr (6, [.int tl_stands, .int tl_price, .int tl_death, .int tl_payers, .int tl_bids, .int tl_hostages, .int tl_bags, .int tl_bagMarks, .ref tl_goodsA, .ref tl_shyA, .ref tl_bidOfA, .ref tl_daysOfA])), (tl_goodsA, .inl (κ 0, 6, .inl tl_goods)), (tl_shyA, .inl (κ 0, 6, .inl tl_shy)), (tl_bidOfA, .inl (κ 0, 9, .inl tl_bidOf)), (tl_daysOfA, .inl (κ 0, 6, .inl tl_daysOf)), (nwo, .inr (5, [.int nw_price, .int nw_months, .int nw_chest, .int nw_given, .int nw_fate, .ref nw_goodsA, .ref nw_ratesA])), (nw_goodsA, .inl (κ 0, 6, .inl nw_goods)), (nw_ratesA, .inl (κ 0, 6, .inl nw_rates)), (pao, .inr (2, [.ref saA, .int pa_next, .int pa_count])), (saA, .inl (κ 3, 20, .inr (.inr (.inr (.inr (fun k => some (sg1 k)))))))] ++ krF κ sg1 sg2 sg3 ps) ([(kro, .inr (8, [.ref txo, .ref tlo, .ref dfo, .ref nwo, .ref aho, .ref pao, .ref iaA, .ref sco, .ref bko, .ref spo, .int z_kr_drawn])), (tlo, .inr (6, [.int tl_stands, .int tl_price, .int tl_death, .int tl_payers, .int tl_bids, .int tl_hostages, .int tl_bags, .int tl_bagMarks, .ref tl_goodsA, .ref tl_shyA, .ref tl_bidOfA, .ref tl_daysOfA])), (tl_goodsA, .inl (κ 0, 6, .inl tl_goods)), (tl_shyA, .inl (κ 0, 6, .inl tl_shy)), (tl_bidOfA, .inl (κ 0, 9, .inl tl_bidOf)), (tl_daysOfA, .inl (κ 0, 6, .inl tl_daysOf)), (nwo, .inr (5, [.int nw_price, .int z_nw_months, .int z_nw_chest, .int nw_given, .int z_nw_fate, .ref nw_goodsA, .ref nw_ratesA])), (nw_goodsA, .inl (κ 0, 6, .inl z_nw_goods)), (nw_ratesA, .inl (κ 0, 6, .inl nw_rates)), (pao, .inr (2, [.ref saA, .int z_pa_next, .int z_pa_count])), (saA, .inl (κ 3, 20, .inr (.inr (.inr (.inr (fun k => some (sg1 k)))))))] ++ krF κ sg1 sg2 sg3 z_ps) r0 := by
  refine krI_of (cc := cX8_drift) (maxL := 4) (rt := .int) (by decide) rfl (Nat.le_of_ble_eq_true rfl) ?_
  intro p e s m args below meth c A Q ls hx hb hml hown hts hK hA hret hP hD hS hl
  have hown : s.vm.findClass RX8 = some m.cls := hown
  have hl : lv_has ls 4 [(0, .ref kro), (1, .int x1)] := hl
  have iw8 : ∀ w ∈ u_ws RX8 TX8 11, w ∈ wsX8_drift := (fun _ h => List.mem_cons_of_mem _ (List.mem_append_left _ (List.mem_append_left _ (List.mem_append_left _ (List.mem_append_right _ h)))))
  have iw5 : ∀ w ∈ u_ws RX5 TX5 7, w ∈ wsX8_drift := (fun _ h => List.mem_cons_of_mem _ (List.mem_append_left _ (List.mem_append_left _ (List.mem_append_right _ h))))
  have iw6 : ∀ w ∈ u_ws RX6 TX6 12, w ∈ wsX8_drift := (fun _ h => List.mem_cons_of_mem _ (List.mem_append_left _ (List.mem_append_right _ h)))
  have k0 : (Cond.fieldLink RX8 39 "KingRansom" "past" "LKingRansom$Past;").before args s = true := hts _ (List.mem_of_getElem? (i := 1) rfl)
  have k1 : (Cond.fieldLink RX8 29 "KingRansom" "now" "LKingRansom$State;").before args s = true := hts _ (List.mem_of_getElem? (i := 2) rfl)
  have k2 : (Cond.initialized RX2).before args s = true := hts _ (List.mem_of_getElem? (i := 17) rfl)
  have k3 : (Cond.instanceMethod yX2_push).before args s = true := hts _ (List.mem_of_getElem? (i := 16) rfl)
  have k4 : (Cond.selects RX2 yX2_push yX2_push).before args s = true := hts _ (List.mem_of_getElem? (i := 18) rfl)
  have k5 : (Cond.fieldLink RX8 19 "KingRansom" "tale" "LKingRansom$Tale;").before args s = true := hts _ (List.mem_of_getElem? (i := 3) rfl)
  have k6 : (Cond.initialized RX5).before args s = true := hts _ (List.mem_of_getElem? (i := 28) rfl)
  have k7 : (Cond.instanceMethod yX5_passMonth).before args s = true := hts _ (List.mem_of_getElem? (i := 47) rfl)
  have k8 : (Cond.selects RX5 yX5_passMonth yX5_passMonth).before args s = true := hts _ (List.mem_of_getElem? (i := 48) rfl)
  have L25 : ∀ (n25 : Nat) (v3 : Int32) (w_kr_drawn : Int32) (w_nw_months : Int32) (w_nw_chest : Int32) (w_nw_fate : Int32) (w_nw_goods : Nat → Int32) (w_pa_next : Int32) (w_pa_count : Int32) (w_ps : Nat → krS) (H : Heap) (locs : List Loc) (ls : Array Slot), va_P D vwCl ([(kro, .inr (8, [.ref txo, .ref tlo, .ref dfo, .ref nwo, .ref aho, .ref pao, .ref iaA, .ref sco, .ref bko, .ref spo, .int w_kr_drawn])), (tlo, .inr (6, [.int tl_stands, .int tl_price, .int tl_death, .int tl_payers, .int tl_bids, .int tl_hostages, .int tl_bags, .int tl_bagMarks, .ref tl_goodsA, .ref tl_shyA, .ref tl_bidOfA, .ref tl_daysOfA])), (tl_goodsA, .inl (κ 0, 6, .inl tl_goods)), (tl_shyA, .inl (κ 0, 6, .inl tl_shy)), (tl_bidOfA, .inl (κ 0, 9, .inl tl_bidOf)), (tl_daysOfA, .inl (κ 0, 6, .inl tl_daysOf)), (nwo, .inr (5, [.int nw_price, .int w_nw_months, .int w_nw_chest, .int nw_given, .int w_nw_fate, .ref nw_goodsA, .ref nw_ratesA])), (nw_goodsA, .inl (κ 0, 6, .inl w_nw_goods)), (nw_ratesA, .inl (κ 0, 6, .inl nw_rates)), (pao, .inr (2, [.ref saA, .int w_pa_next, .int w_pa_count])), (saA, .inl (κ 3, 20, .inr (.inr (.inr (.inr (fun k => some (sg1 k)))))))] ++ krF κ sg1 sg2 sg3 w_ps) H → va_D A ([(kro, .inr (8, [.ref txo, .ref tlo, .ref dfo, .ref nwo, .ref aho, .ref pao, .ref iaA, .ref sco, .ref bko, .ref spo, .int w_kr_drawn])), (tlo, .inr (6, [.int tl_stands, .int tl_price, .int tl_death, .int tl_payers, .int tl_bids, .int tl_hostages, .int tl_bags, .int tl_bagMarks, .ref tl_goodsA, .ref tl_shyA, .ref tl_bidOfA, .ref tl_daysOfA])), (tl_goodsA, .inl (κ 0, 6, .inl tl_goods)), (tl_shyA, .inl (κ 0, 6, .inl tl_shy)), (tl_bidOfA, .inl (κ 0, 9, .inl tl_bidOf)), (tl_daysOfA, .inl (κ 0, 6, .inl tl_daysOf)), (nwo, .inr (5, [.int nw_price, .int w_nw_months, .int w_nw_chest, .int nw_given, .int w_nw_fate, .ref nw_goodsA, .ref nw_ratesA])), (nw_goodsA, .inl (κ 0, 6, .inl w_nw_goods)), (nw_ratesA, .inl (κ 0, 6, .inl nw_rates)), (pao, .inr (2, [.ref saA, .int w_pa_next, .int w_pa_count])), (saA, .inl (κ 3, 20, .inr (.inr (.inr (.inr (fun k => some (sg1 k)))))))] ++ krF κ sg1 sg2 sg3 w_ps) → va_S A s.heap H locs → lv_has ls 4 [(0, .ref kro), (1, .int x1), (3, .int v3)] → pX8_drift_L25 N x1 tl_death tl_payers tl_shy nw_rates n25 v3 w_kr_drawn w_nw_months w_nw_chest w_nw_fate w_nw_goods w_pa_next w_pa_count w_ps = some (r0, z_kr_drawn, z_nw_months, z_nw_chest, z_nw_fate, z_nw_goods, z_pa_next, z_pa_count, z_ps) → W p l e { frames := 4, cells := 0, slots := 0, locals := 400 } s m args below meth c H locs 0 0 Q (F0 m 25 ls []) := by
    intro n25
    induction n25 with
    | zero =>
      intro v3 w_kr_drawn w_nw_months w_nw_chest w_nw_fate w_nw_goods w_pa_next w_pa_count w_ps H locs ls hP hD hS hl hres
      exact absurd (show none = some _ from hres) (by simp)
    | succ n25 ih25 =>
      intro v3 w_kr_drawn w_nw_months w_nw_chest w_nw_fate w_nw_goods w_pa_next w_pa_count w_ps H locs ls hP hD hS hl hres
      have L76 : ∀ (v3 : Int32) (w_kr_drawn : Int32) (w_nw_months : Int32) (w_nw_chest : Int32) (w_nw_fate : Int32) (w_nw_goods : Nat → Int32) (w_pa_next : Int32) (w_pa_count : Int32) (w_ps : Nat → krS) (H : Heap) (locs : List Loc) (ls : Array Slot), va_P D vwCl ([(kro, .inr (8, [.ref txo, .ref tlo, .ref dfo, .ref nwo, .ref aho, .ref pao, .ref iaA, .ref sco, .ref bko, .ref spo, .int w_kr_drawn])), (tlo, .inr (6, [.int tl_stands, .int tl_price, .int tl_death, .int tl_payers, .int tl_bids, .int tl_hostages, .int tl_bags, .int tl_bagMarks, .ref tl_goodsA, .ref tl_shyA, .ref tl_bidOfA, .ref tl_daysOfA])), (tl_goodsA, .inl (κ 0, 6, .inl tl_goods)), (tl_shyA, .inl (κ 0, 6, .inl tl_shy)), (tl_bidOfA, .inl (κ 0, 9, .inl tl_bidOf)), (tl_daysOfA, .inl (κ 0, 6, .inl tl_daysOf)), (nwo, .inr (5, [.int nw_price, .int w_nw_months, .int w_nw_chest, .int nw_given, .int w_nw_fate, .ref nw_goodsA, .ref nw_ratesA])), (nw_goodsA, .inl (κ 0, 6, .inl w_nw_goods)), (nw_ratesA, .inl (κ 0, 6, .inl nw_rates)), (pao, .inr (2, [.ref saA, .int w_pa_next, .int w_pa_count])), (saA, .inl (κ 3, 20, .inr (.inr (.inr (.inr (fun k => some (sg1 k)))))))] ++ krF κ sg1 sg2 sg3 w_ps) H → va_D A ([(kro, .inr (8, [.ref txo, .ref tlo, .ref dfo, .ref nwo, .ref aho, .ref pao, .ref iaA, .ref sco, .ref bko, .ref spo, .int w_kr_drawn])), (tlo, .inr (6, [.int tl_stands, .int tl_price, .int tl_death, .int tl_payers, .int tl_bids, .int tl_hostages, .int tl_bags, .int tl_bagMarks, .ref tl_goodsA, .ref tl_shyA, .ref tl_bidOfA, .ref tl_daysOfA])), (tl_goodsA, .inl (κ 0, 6, .inl tl_goods)), (tl_shyA, .inl (κ 0, 6, .inl tl_shy)), (tl_bidOfA, .inl (κ 0, 9, .inl tl_bidOf)), (tl_daysOfA, .inl (κ 0, 6, .inl tl_daysOf)), (nwo, .inr (5, [.int nw_price, .int w_nw_months, .int w_nw_chest, .int nw_given, .int w_nw_fate, .ref nw_goodsA, .ref nw_ratesA])), (nw_goodsA, .inl (κ 0, 6, .inl w_nw_goods)), (nw_ratesA, .inl (κ 0, 6, .inl nw_rates)), (pao, .inr (2, [.ref saA, .int w_pa_next, .int w_pa_count])), (saA, .inl (κ 3, 20, .inr (.inr (.inr (.inr (fun k => some (sg1 k)))))))] ++ krF κ sg1 sg2 sg3 w_ps) → va_S A s.heap H locs → lv_has ls 4 [(0, .ref kro), (1, .int x1), (3, .int v3)] → pX8_drift_L76 (pX8_drift_L25 N x1 tl_death tl_payers tl_shy nw_rates n25) v3 w_kr_drawn w_nw_months w_nw_chest w_nw_fate w_nw_goods w_pa_next w_pa_count w_ps = some (r0, z_kr_drawn, z_nw_months, z_nw_chest, z_nw_fate, z_nw_goods, z_pa_next, z_pa_count, z_ps) → W p l e { frames := 4, cells := 0, slots := 0, locals := 400 } s m args below meth c H locs 0 0 Q (F0 m 76 ls []) := by
        intro v3 w_kr_drawn w_nw_months w_nw_chest w_nw_fate w_nw_goods w_pa_next w_pa_count w_ps H locs ls hP hD hS hl hres
        unfold pX8_drift_L76 at hres
        refine lv_iinc (v := (v3 + 1)) (lv' := [(3, .int (v3 + 1)), (0, .ref kro), (1, .int x1)]) hx hb dX8_drift_76 hl (k := 2) rfl rfl (by decide) rfl (fun ls hl => ?_)
        refine lv_goto (tgt := 25) hx hb dX8_drift_79 (by decide) ?_
        exact ih25 (v3 + 1) w_kr_drawn w_nw_months w_nw_chest w_nw_fate w_nw_goods w_pa_next w_pa_count w_ps _ _ _ hP hD hS (lv_sub hl [1, 2, 0] rfl) hres
      rw [pX8_drift_L25] at hres
      refine lv_iload_n hx hb dX8_drift_25 rfl (lv_at hl 2 rfl) ?_
      refine lv_iload_n hx hb dX8_drift_26 rfl (lv_at hl 1 rfl) ?_
      refine lv_icmp_ge (tgt := 82) hx hb dX8_drift_27 (by decide) (fun c8 => ?_) (fun c8 => ?_)
      · replace hres := og_t c8 hres
        refine lv_aload_n hx hb dX8_drift_82 rfl (lv_at hl 0 rfl) ?_
        refine va_get (D := D) (ci := 8) (v := .ref nwo) (C := RX8) (T := TX8) (N := 11) hx hb hts iw8 hown hK.1 hP 0 rfl rfl 3 (by decide) k1 (fun _ h9 => h9) rfl dX8_drift_83 ?_
        refine va_getN (D := D) (ci := 5) (v := .int w_nw_fate) (C := RX5) (T := TX5) (N := 7) hx hb hts iw5 hown hK.1 hP 6 rfl rfl 4 (by decide) (hK.fl 33 rfl) (fun _ h9 => h9) rfl dX8_drift_86 ?_
        have hres := Option.some.inj hres
        have h0 := (Prod.mk.inj hres).1
        replace hres := (Prod.mk.inj hres).2
        have h1 := (Prod.mk.inj hres).1
        replace hres := (Prod.mk.inj hres).2
        have h2 := (Prod.mk.inj hres).1
        replace hres := (Prod.mk.inj hres).2
        have h3 := (Prod.mk.inj hres).1
        replace hres := (Prod.mk.inj hres).2
        have h4 := (Prod.mk.inj hres).1
        replace hres := (Prod.mk.inj hres).2
        have h5 := (Prod.mk.inj hres).1
        replace hres := (Prod.mk.inj hres).2
        have h6 := (Prod.mk.inj hres).1
        replace hres := (Prod.mk.inj hres).2
        have h7 := (Prod.mk.inj hres).1
        replace hres := (Prod.mk.inj hres).2
        have h8 := hres
        subst h0
        subst h1
        subst h2
        subst h3
        subst h4
        subst h5
        subst h6
        subst h7
        subst h8
        exact hret _ _ _ _ (vp_nar_int _) hP hD hS dX8_drift_89
      · replace hres := og_f c8 hres
        refine lv_aload_n hx hb dX8_drift_30 rfl (lv_at hl 0 rfl) ?_
        refine va_get (D := D) (ci := 8) (v := .ref nwo) (C := RX8) (T := TX8) (N := 11) hx hb hts iw8 hown hK.1 hP 0 rfl rfl 3 (by decide) k1 (fun _ h9 => h9) rfl dX8_drift_31 ?_
        refine va_getN (D := D) (ci := 5) (v := .int w_nw_fate) (C := RX5) (T := TX5) (N := 7) hx hb hts iw5 hown hK.1 hP 6 rfl rfl 4 (by decide) (hK.fl 33 rfl) (fun _ h9 => h9) rfl dX8_drift_34 ?_
        refine lv_if_ne (tgt := 82) hx hb dX8_drift_37 (by decide) (fun c9 => ?_) (fun c9 => ?_)
        · replace hres := og_f c9 hres
          refine lv_aload_n hx hb dX8_drift_82 rfl (lv_at hl 0 rfl) ?_
          refine va_get (D := D) (ci := 8) (v := .ref nwo) (C := RX8) (T := TX8) (N := 11) hx hb hts iw8 hown hK.1 hP 0 rfl rfl 3 (by decide) k1 (fun _ h9 => h9) rfl dX8_drift_83 ?_
          refine va_getN (D := D) (ci := 5) (v := .int w_nw_fate) (C := RX5) (T := TX5) (N := 7) hx hb hts iw5 hown hK.1 hP 6 rfl rfl 4 (by decide) (hK.fl 33 rfl) (fun _ h9 => h9) rfl dX8_drift_86 ?_
          have hres := Option.some.inj hres
          have h0 := (Prod.mk.inj hres).1
          replace hres := (Prod.mk.inj hres).2
          have h1 := (Prod.mk.inj hres).1
          replace hres := (Prod.mk.inj hres).2
          have h2 := (Prod.mk.inj hres).1
          replace hres := (Prod.mk.inj hres).2
          have h3 := (Prod.mk.inj hres).1
          replace hres := (Prod.mk.inj hres).2
          have h4 := (Prod.mk.inj hres).1
          replace hres := (Prod.mk.inj hres).2
          have h5 := (Prod.mk.inj hres).1
          replace hres := (Prod.mk.inj hres).2
          have h6 := (Prod.mk.inj hres).1
          replace hres := (Prod.mk.inj hres).2
          have h7 := (Prod.mk.inj hres).1
          replace hres := (Prod.mk.inj hres).2
          have h8 := hres
          subst h0
          subst h1
          subst h2
          subst h3
          subst h4
          subst h5
          subst h6
          subst h7
          subst h8
          exact hret _ _ _ _ (vp_nar_int _) hP hD hS dX8_drift_89
        · replace hres := og_t c9 hres
          refine lv_aload_n hx hb dX8_drift_40 rfl (lv_at hl 0 rfl) ?_
          obtain ⟨r10, w11, hc12, hres⟩ := kb2_s hres
          refine krI_V_R (As := []) (rest := []) (wr := [(tlo, .inr (6, [.int tl_stands, .int tl_price, .int tl_death, .int tl_payers, .int tl_bids, .int tl_hostages, .int tl_bags, .int tl_bagMarks, .ref tl_goodsA, .ref tl_shyA, .ref tl_bidOfA, .ref tl_daysOfA])), (tl_goodsA, .inl (κ 0, 6, .inl tl_goods)), (tl_shyA, .inl (κ 0, 6, .inl tl_shy)), (tl_bidOfA, .inl (κ 0, 9, .inl tl_bidOf)), (tl_daysOfA, .inl (κ 0, 6, .inl tl_daysOf)), (nwo, .inr (5, [.int nw_price, .int w_nw_months, .int w_nw_chest, .int nw_given, .int w_nw_fate, .ref nw_goodsA, .ref nw_ratesA])), (nw_goodsA, .inl (κ 0, 6, .inl w_nw_goods)), (nw_ratesA, .inl (κ 0, 6, .inl nw_rates)), (pao, .inr (2, [.ref saA, .int w_pa_next, .int w_pa_count])), (saA, .inl (κ 3, 20, .inr (.inr (.inr (.inr (fun k => some (sg1 k)))))))]) ⟨hx, hb, hml, hown, hts⟩ hK (tX8_drawOfHundred l D κ kro txo tlo dfo nwo aho pao iaA sco bko spo w_kr_drawn r10 w11 hc12) (cwV 0 hts gX8_drift_X8_drawOfHundred rfl rfl rfl (by decide +kernel) ⟨(Nat.le_of_ble_eq_true rfl), (Nat.le_of_ble_eq_true rfl)⟩) rfl rfl rfl hP hD hS hA [0] [1, 2, 3, 4, 5, 6, 7, 8, 9, 10] rfl rfl rfl rfl (by decide) rfl hl.1 rfl (Nat.le_of_ble_eq_true rfl) dX8_drift_41 ⟨Nat.zero_le _, Nat.zero_le _⟩ (fun H locs hP hD hS => ?_)
          have hP : va_P D vwCl ([(tlo, .inr (6, [.int tl_stands, .int tl_price, .int tl_death, .int tl_payers, .int tl_bids, .int tl_hostages, .int tl_bags, .int tl_bagMarks, .ref tl_goodsA, .ref tl_shyA, .ref tl_bidOfA, .ref tl_daysOfA])), (tl_goodsA, .inl (κ 0, 6, .inl tl_goods)), (tl_shyA, .inl (κ 0, 6, .inl tl_shy)), (tl_bidOfA, .inl (κ 0, 9, .inl tl_bidOf)), (tl_daysOfA, .inl (κ 0, 6, .inl tl_daysOf)), (nwo, .inr (5, [.int nw_price, .int w_nw_months, .int w_nw_chest, .int nw_given, .int w_nw_fate, .ref nw_goodsA, .ref nw_ratesA])), (nw_goodsA, .inl (κ 0, 6, .inl w_nw_goods)), (nw_ratesA, .inl (κ 0, 6, .inl nw_rates)), (pao, .inr (2, [.ref saA, .int w_pa_next, .int w_pa_count])), (saA, .inl (κ 3, 20, .inr (.inr (.inr (.inr (fun k => some (sg1 k))))))), (kro, .inr (8, [.ref txo, .ref tlo, .ref dfo, .ref nwo, .ref aho, .ref pao, .ref iaA, .ref sco, .ref bko, .ref spo, .int w11]))] ++ krF κ sg1 sg2 sg3 w_ps) H := hP
          have hD : va_D A ([(tlo, .inr (6, [.int tl_stands, .int tl_price, .int tl_death, .int tl_payers, .int tl_bids, .int tl_hostages, .int tl_bags, .int tl_bagMarks, .ref tl_goodsA, .ref tl_shyA, .ref tl_bidOfA, .ref tl_daysOfA])), (tl_goodsA, .inl (κ 0, 6, .inl tl_goods)), (tl_shyA, .inl (κ 0, 6, .inl tl_shy)), (tl_bidOfA, .inl (κ 0, 9, .inl tl_bidOf)), (tl_daysOfA, .inl (κ 0, 6, .inl tl_daysOf)), (nwo, .inr (5, [.int nw_price, .int w_nw_months, .int w_nw_chest, .int nw_given, .int w_nw_fate, .ref nw_goodsA, .ref nw_ratesA])), (nw_goodsA, .inl (κ 0, 6, .inl w_nw_goods)), (nw_ratesA, .inl (κ 0, 6, .inl nw_rates)), (pao, .inr (2, [.ref saA, .int w_pa_next, .int w_pa_count])), (saA, .inl (κ 3, 20, .inr (.inr (.inr (.inr (fun k => some (sg1 k))))))), (kro, .inr (8, [.ref txo, .ref tlo, .ref dfo, .ref nwo, .ref aho, .ref pao, .ref iaA, .ref sco, .ref bko, .ref spo, .int w11]))] ++ krF κ sg1 sg2 sg3 w_ps) := hD
          refine lv_aload_n hx hb dX8_drift_44 rfl (lv_at hl 0 rfl) ?_
          refine va_get (D := D) (ci := 8) (v := .ref tlo) (C := RX8) (T := TX8) (N := 11) hx hb hts iw8 hown hK.1 hP 10 rfl rfl 1 (by decide) k5 (fun _ h9 => h9) rfl dX8_drift_45 ?_
          refine va_getN (D := D) (ci := 6) (v := .int tl_death) (C := RX6) (T := TX6) (N := 12) hx hb hts iw6 hown hK.1 hP 0 rfl rfl 2 (by decide) (hK.fl 8 rfl) (fun _ h9 => h9) rfl dX8_drift_48 ?_
          refine lv_icmp_ge (tgt := 65) hx hb dX8_drift_51 (by decide) (fun c13 => ?_) (fun c13 => ?_)
          · replace hres := og_t c13 hres
            refine lv_aload_n hx hb dX8_drift_65 rfl (lv_at hl 0 rfl) ?_
            refine va_get (D := D) (ci := 8) (v := .ref nwo) (C := RX8) (T := TX8) (N := 11) hx hb hts iw8 hown hK.1 hP 10 rfl rfl 3 (by decide) k1 (fun _ h9 => h9) rfl dX8_drift_66 ?_
            refine lv_aload_n hx hb dX8_drift_69 rfl (lv_at hl 0 rfl) ?_
            refine va_get (D := D) (ci := 8) (v := .ref tlo) (C := RX8) (T := TX8) (N := 11) hx hb hts iw8 hown hK.1 hP 10 rfl rfl 1 (by decide) k5 (fun _ h9 => h9) rfl dX8_drift_70 ?_
            obtain ⟨w14, w15, w16, hc17, hres⟩ := kb3_s hres
            refine krV_VN_R (As := [.ref tlo]) (rest := []) (wr := [(pao, .inr (2, [.ref saA, .int w_pa_next, .int w_pa_count])), (saA, .inl (κ 3, 20, .inr (.inr (.inr (.inr (fun k => some (sg1 k))))))), (kro, .inr (8, [.ref txo, .ref tlo, .ref dfo, .ref nwo, .ref aho, .ref pao, .ref iaA, .ref sco, .ref bko, .ref spo, .int w11]))]) ⟨hx, hb, hml, hown, hts⟩ hK (tX5_passMonth l D κ nwo nw_goodsA nw_ratesA tlo tl_goodsA tl_shyA tl_bidOfA tl_daysOfA N nw_price w_nw_months w_nw_chest nw_given w_nw_fate w_nw_goods nw_rates tl_stands tl_price tl_death tl_payers tl_bids tl_hostages tl_bags tl_bagMarks tl_goods tl_shy tl_bidOf tl_daysOf w14 w15 w16 hc17) ⟨va_cnB 1 hts gX8_drift_X5_passMonth_n178 rfl rfl rfl (hK.ml 22 rfl) k6 (by decide +kernel) ⟨(Nat.le_of_ble_eq_true rfl), (Nat.le_of_ble_eq_true rfl)⟩, k7, k8⟩ rfl rfl rfl hP hD hS hA [5, 6, 7, 0, 1, 2, 3, 4] [8, 9, 10] rfl rfl rfl rfl (by decide) rfl hl.1 rfl (Nat.le_of_ble_eq_true rfl) dX8_drift_73 ⟨Nat.zero_le _, Nat.zero_le _⟩ (fun H locs hP hD hS => ?_)
            have hP : va_P D vwCl ([(pao, .inr (2, [.ref saA, .int w_pa_next, .int w_pa_count])), (saA, .inl (κ 3, 20, .inr (.inr (.inr (.inr (fun k => some (sg1 k))))))), (kro, .inr (8, [.ref txo, .ref tlo, .ref dfo, .ref nwo, .ref aho, .ref pao, .ref iaA, .ref sco, .ref bko, .ref spo, .int w11])), (nwo, .inr (5, [.int nw_price, .int w14, .int w15, .int nw_given, .int w_nw_fate, .ref nw_goodsA, .ref nw_ratesA])), (nw_goodsA, .inl (κ 0, 6, .inl w16)), (nw_ratesA, .inl (κ 0, 6, .inl nw_rates)), (tlo, .inr (6, [.int tl_stands, .int tl_price, .int tl_death, .int tl_payers, .int tl_bids, .int tl_hostages, .int tl_bags, .int tl_bagMarks, .ref tl_goodsA, .ref tl_shyA, .ref tl_bidOfA, .ref tl_daysOfA])), (tl_goodsA, .inl (κ 0, 6, .inl tl_goods)), (tl_shyA, .inl (κ 0, 6, .inl tl_shy)), (tl_bidOfA, .inl (κ 0, 9, .inl tl_bidOf)), (tl_daysOfA, .inl (κ 0, 6, .inl tl_daysOf))] ++ krF κ sg1 sg2 sg3 w_ps) H := hP
            have hD : va_D A ([(pao, .inr (2, [.ref saA, .int w_pa_next, .int w_pa_count])), (saA, .inl (κ 3, 20, .inr (.inr (.inr (.inr (fun k => some (sg1 k))))))), (kro, .inr (8, [.ref txo, .ref tlo, .ref dfo, .ref nwo, .ref aho, .ref pao, .ref iaA, .ref sco, .ref bko, .ref spo, .int w11])), (nwo, .inr (5, [.int nw_price, .int w14, .int w15, .int nw_given, .int w_nw_fate, .ref nw_goodsA, .ref nw_ratesA])), (nw_goodsA, .inl (κ 0, 6, .inl w16)), (nw_ratesA, .inl (κ 0, 6, .inl nw_rates)), (tlo, .inr (6, [.int tl_stands, .int tl_price, .int tl_death, .int tl_payers, .int tl_bids, .int tl_hostages, .int tl_bags, .int tl_bagMarks, .ref tl_goodsA, .ref tl_shyA, .ref tl_bidOfA, .ref tl_daysOfA])), (tl_goodsA, .inl (κ 0, 6, .inl tl_goods)), (tl_shyA, .inl (κ 0, 6, .inl tl_shy)), (tl_bidOfA, .inl (κ 0, 9, .inl tl_bidOf)), (tl_daysOfA, .inl (κ 0, 6, .inl tl_daysOf))] ++ krF κ sg1 sg2 sg3 w_ps) := hD
            exact L76 v3 w11 w14 w15 w_nw_fate w16 w_pa_next w_pa_count w_ps _ _ _ (kr_subP hP [2, 6, 7, 8, 9, 10, 3, 4, 5, 0, 1] rfl) (kr_subD hD [2, 6, 7, 8, 9, 10, 3, 4, 5, 0, 1] (by decide) rfl) hS (lv_sub hl [0, 1, 2] rfl) hres
          · replace hres := og_f c13 hres
            refine lv_aload_n hx hb dX8_drift_54 rfl (lv_at hl 0 rfl) ?_
            refine va_get (D := D) (ci := 8) (v := .ref nwo) (C := RX8) (T := TX8) (N := 11) hx hb hts iw8 hown hK.1 hP 10 rfl rfl 3 (by decide) k1 (fun _ h9 => h9) rfl dX8_drift_55 ?_
            refine lv_iconst (v := 2) hx hb dX8_drift_58 (by decide) ?_
            refine va_putN (D := D) (ci := 5) (v := .int 2) (ty := .int) (C := RX5) (T := TX5) (N := 7) hx hb hts iw5 tyX5 tyX5_ok nmX5 hown hK.1 hP hD hS 5 rfl rfl 4 (by decide) (hK.fl 33 rfl) (fun _ h9 => h9) rfl (tyX5_ok 4 (by decide)) rfl rfl (Nat.le_of_ble_eq_true rfl) dX8_drift_59 (fun H locs hP hD hS => ?_)
            have hP : va_P D vwCl ([(tlo, .inr (6, [.int tl_stands, .int tl_price, .int tl_death, .int tl_payers, .int tl_bids, .int tl_hostages, .int tl_bags, .int tl_bagMarks, .ref tl_goodsA, .ref tl_shyA, .ref tl_bidOfA, .ref tl_daysOfA])), (tl_goodsA, .inl (κ 0, 6, .inl tl_goods)), (tl_shyA, .inl (κ 0, 6, .inl tl_shy)), (tl_bidOfA, .inl (κ 0, 9, .inl tl_bidOf)), (tl_daysOfA, .inl (κ 0, 6, .inl tl_daysOf)), (nwo, .inr (5, [.int nw_price, .int w_nw_months, .int w_nw_chest, .int nw_given, .int 2, .ref nw_goodsA, .ref nw_ratesA])), (nw_goodsA, .inl (κ 0, 6, .inl w_nw_goods)), (nw_ratesA, .inl (κ 0, 6, .inl nw_rates)), (pao, .inr (2, [.ref saA, .int w_pa_next, .int w_pa_count])), (saA, .inl (κ 3, 20, .inr (.inr (.inr (.inr (fun k => some (sg1 k))))))), (kro, .inr (8, [.ref txo, .ref tlo, .ref dfo, .ref nwo, .ref aho, .ref pao, .ref iaA, .ref sco, .ref bko, .ref spo, .int w11]))] ++ krF κ sg1 sg2 sg3 w_ps) H := hP
            have hD : va_D A ([(tlo, .inr (6, [.int tl_stands, .int tl_price, .int tl_death, .int tl_payers, .int tl_bids, .int tl_hostages, .int tl_bags, .int tl_bagMarks, .ref tl_goodsA, .ref tl_shyA, .ref tl_bidOfA, .ref tl_daysOfA])), (tl_goodsA, .inl (κ 0, 6, .inl tl_goods)), (tl_shyA, .inl (κ 0, 6, .inl tl_shy)), (tl_bidOfA, .inl (κ 0, 9, .inl tl_bidOf)), (tl_daysOfA, .inl (κ 0, 6, .inl tl_daysOf)), (nwo, .inr (5, [.int nw_price, .int w_nw_months, .int w_nw_chest, .int nw_given, .int 2, .ref nw_goodsA, .ref nw_ratesA])), (nw_goodsA, .inl (κ 0, 6, .inl w_nw_goods)), (nw_ratesA, .inl (κ 0, 6, .inl nw_rates)), (pao, .inr (2, [.ref saA, .int w_pa_next, .int w_pa_count])), (saA, .inl (κ 3, 20, .inr (.inr (.inr (.inr (fun k => some (sg1 k))))))), (kro, .inr (8, [.ref txo, .ref tlo, .ref dfo, .ref nwo, .ref aho, .ref pao, .ref iaA, .ref sco, .ref bko, .ref spo, .int w11]))] ++ krF κ sg1 sg2 sg3 w_ps) := hD
            refine lv_goto (tgt := 76) hx hb dX8_drift_62 (by decide) ?_
            exact L76 v3 w11 w_nw_months w_nw_chest 2 w_nw_goods w_pa_next w_pa_count w_ps _ _ _ (kr_subP hP [10, 0, 1, 2, 3, 4, 5, 6, 7, 8, 9] rfl) (kr_subD hD [10, 0, 1, 2, 3, 4, 5, 6, 7, 8, 9] (by decide) rfl) hS (lv_sub hl [0, 1, 2] rfl) hres
  unfold pX8_drift at hres
  refine lv_aload_n hx hb dX8_drift_0 rfl (lv_at hl 0 rfl) ?_
  refine lv_iload_n hx hb dX8_drift_1 rfl (lv_at hl 1 rfl) ?_
  obtain ⟨r1, hc2, hres⟩ := kb1_s hres
  refine krI_V_R (As := [.int x1]) (rest := []) (wr := [(pao, .inr (2, [.ref saA, .int pa_next, .int pa_count])), (saA, .inl (κ 3, 20, .inr (.inr (.inr (.inr (fun k => some (sg1 k)))))))]) ⟨hx, hb, hml, hown, hts⟩ hK (tX8_refusalOfMonths l D κ kro txo tlo dfo nwo aho pao iaA sco bko spo tl_goodsA tl_shyA tl_bidOfA tl_daysOfA nw_goodsA nw_ratesA kr_drawn tl_stands tl_price tl_death tl_payers tl_bids tl_hostages tl_bags tl_bagMarks tl_goods tl_shy tl_bidOf tl_daysOf nw_price nw_months nw_chest nw_given nw_fate nw_goods nw_rates x1 r1 hc2) (cwV 1 hts gX8_drift_X8_refusalOfMonths rfl rfl rfl (by decide +kernel) ⟨(Nat.le_of_ble_eq_true rfl), (Nat.le_of_ble_eq_true rfl)⟩) rfl rfl rfl hP hD hS hA [0, 1, 2, 3, 4, 5, 6, 7, 8] [9, 10] rfl rfl rfl rfl (by decide) rfl hl.1 rfl (Nat.le_of_ble_eq_true rfl) dX8_drift_2 ⟨Nat.zero_le _, Nat.zero_le _⟩ (fun H locs hP hD hS => ?_)
  have hP : va_P D vwCl ([(pao, .inr (2, [.ref saA, .int pa_next, .int pa_count])), (saA, .inl (κ 3, 20, .inr (.inr (.inr (.inr (fun k => some (sg1 k))))))), (kro, .inr (8, [.ref txo, .ref tlo, .ref dfo, .ref nwo, .ref aho, .ref pao, .ref iaA, .ref sco, .ref bko, .ref spo, .int kr_drawn])), (tlo, .inr (6, [.int tl_stands, .int tl_price, .int tl_death, .int tl_payers, .int tl_bids, .int tl_hostages, .int tl_bags, .int tl_bagMarks, .ref tl_goodsA, .ref tl_shyA, .ref tl_bidOfA, .ref tl_daysOfA])), (tl_goodsA, .inl (κ 0, 6, .inl tl_goods)), (tl_shyA, .inl (κ 0, 6, .inl tl_shy)), (tl_bidOfA, .inl (κ 0, 9, .inl tl_bidOf)), (tl_daysOfA, .inl (κ 0, 6, .inl tl_daysOf)), (nwo, .inr (5, [.int nw_price, .int nw_months, .int nw_chest, .int nw_given, .int nw_fate, .ref nw_goodsA, .ref nw_ratesA])), (nw_goodsA, .inl (κ 0, 6, .inl nw_goods)), (nw_ratesA, .inl (κ 0, 6, .inl nw_rates))] ++ krF κ sg1 sg2 sg3 ps) H := hP
  have hD : va_D A ([(pao, .inr (2, [.ref saA, .int pa_next, .int pa_count])), (saA, .inl (κ 3, 20, .inr (.inr (.inr (.inr (fun k => some (sg1 k))))))), (kro, .inr (8, [.ref txo, .ref tlo, .ref dfo, .ref nwo, .ref aho, .ref pao, .ref iaA, .ref sco, .ref bko, .ref spo, .int kr_drawn])), (tlo, .inr (6, [.int tl_stands, .int tl_price, .int tl_death, .int tl_payers, .int tl_bids, .int tl_hostages, .int tl_bags, .int tl_bagMarks, .ref tl_goodsA, .ref tl_shyA, .ref tl_bidOfA, .ref tl_daysOfA])), (tl_goodsA, .inl (κ 0, 6, .inl tl_goods)), (tl_shyA, .inl (κ 0, 6, .inl tl_shy)), (tl_bidOfA, .inl (κ 0, 9, .inl tl_bidOf)), (tl_daysOfA, .inl (κ 0, 6, .inl tl_daysOf)), (nwo, .inr (5, [.int nw_price, .int nw_months, .int nw_chest, .int nw_given, .int nw_fate, .ref nw_goodsA, .ref nw_ratesA])), (nw_goodsA, .inl (κ 0, 6, .inl nw_goods)), (nw_ratesA, .inl (κ 0, 6, .inl nw_rates))] ++ krF κ sg1 sg2 sg3 ps) := hD
  refine lv_istore_n (lv' := [(2, .int r1), (0, .ref kro), (1, .int x1)]) hx hb dX8_drift_5 rfl hl (by decide) rfl (fun ls hl => ?_)
  refine lv_iload_n hx hb dX8_drift_6 rfl (lv_at hl 0 rfl) ?_
  refine lv_if_eq (tgt := 12) hx hb dX8_drift_7 (by decide) (fun c3 => ?_) (fun c3 => ?_)
  · replace hres := og_t c3 hres
    refine lv_aload_n hx hb dX8_drift_12 rfl (lv_at hl 1 rfl) ?_
    refine va_get (D := D) (ci := 8) (v := .ref pao) (C := RX8) (T := TX8) (N := 11) hx hb hts iw8 hown hK.1 hP 2 rfl rfl 5 (by decide) k0 (fun _ h9 => h9) rfl dX8_drift_13 ?_
    refine lv_aload_n hx hb dX8_drift_16 rfl (lv_at hl 1 rfl) ?_
    refine va_get (D := D) (ci := 8) (v := .ref nwo) (C := RX8) (T := TX8) (N := 11) hx hb hts iw8 hown hK.1 hP 2 rfl rfl 3 (by decide) k1 (fun _ h9 => h9) rfl dX8_drift_17 ?_
    obtain ⟨w4, w5, w6, hc7, hres⟩ := kb3_s hres
    refine krV_VN_F (As := [.ref nwo]) (rest := []) (wr := [(kro, .inr (8, [.ref txo, .ref tlo, .ref dfo, .ref nwo, .ref aho, .ref pao, .ref iaA, .ref sco, .ref bko, .ref spo, .int kr_drawn])), (tlo, .inr (6, [.int tl_stands, .int tl_price, .int tl_death, .int tl_payers, .int tl_bids, .int tl_hostages, .int tl_bags, .int tl_bagMarks, .ref tl_goodsA, .ref tl_shyA, .ref tl_bidOfA, .ref tl_daysOfA])), (tl_goodsA, .inl (κ 0, 6, .inl tl_goods)), (tl_shyA, .inl (κ 0, 6, .inl tl_shy)), (tl_bidOfA, .inl (κ 0, 9, .inl tl_bidOf)), (tl_daysOfA, .inl (κ 0, 6, .inl tl_daysOf))]) ⟨hx, hb, hml, hown, hts⟩ hK (tX2_push l D κ pao saA sg1 sg2 sg3 nwo nw_goodsA nw_ratesA N pa_next pa_count ps nw_price nw_months nw_chest nw_given nw_fate nw_goods nw_rates w4 w5 w6 hc7) ⟨va_cnB 1 hts gX8_drift_X2_push_n170 rfl rfl rfl (hK.ml 20 rfl) k2 (by decide +kernel) ⟨(Nat.le_of_ble_eq_true rfl), (Nat.le_of_ble_eq_true rfl)⟩, k3, k4⟩ rfl rfl rfl hP hD hS hA [0, 1, 8, 9, 10] [2, 3, 4, 5, 6, 7] rfl rfl rfl rfl (by decide) rfl hl.1 rfl (Nat.le_of_ble_eq_true rfl) dX8_drift_20 ⟨Nat.zero_le _, Nat.zero_le _⟩ (fun H locs hP hD hS => ?_)
    have hP : va_P D vwCl ([(kro, .inr (8, [.ref txo, .ref tlo, .ref dfo, .ref nwo, .ref aho, .ref pao, .ref iaA, .ref sco, .ref bko, .ref spo, .int kr_drawn])), (tlo, .inr (6, [.int tl_stands, .int tl_price, .int tl_death, .int tl_payers, .int tl_bids, .int tl_hostages, .int tl_bags, .int tl_bagMarks, .ref tl_goodsA, .ref tl_shyA, .ref tl_bidOfA, .ref tl_daysOfA])), (tl_goodsA, .inl (κ 0, 6, .inl tl_goods)), (tl_shyA, .inl (κ 0, 6, .inl tl_shy)), (tl_bidOfA, .inl (κ 0, 9, .inl tl_bidOf)), (tl_daysOfA, .inl (κ 0, 6, .inl tl_daysOf)), (pao, .inr (2, [.ref saA, .int w4, .int w5])), (saA, .inl (κ 3, 20, .inr (.inr (.inr (.inr (fun k => some (sg1 k))))))), (nwo, .inr (5, [.int nw_price, .int nw_months, .int nw_chest, .int nw_given, .int nw_fate, .ref nw_goodsA, .ref nw_ratesA])), (nw_goodsA, .inl (κ 0, 6, .inl nw_goods)), (nw_ratesA, .inl (κ 0, 6, .inl nw_rates))] ++ krF κ sg1 sg2 sg3 w6) H := hP
    have hD : va_D A ([(kro, .inr (8, [.ref txo, .ref tlo, .ref dfo, .ref nwo, .ref aho, .ref pao, .ref iaA, .ref sco, .ref bko, .ref spo, .int kr_drawn])), (tlo, .inr (6, [.int tl_stands, .int tl_price, .int tl_death, .int tl_payers, .int tl_bids, .int tl_hostages, .int tl_bags, .int tl_bagMarks, .ref tl_goodsA, .ref tl_shyA, .ref tl_bidOfA, .ref tl_daysOfA])), (tl_goodsA, .inl (κ 0, 6, .inl tl_goods)), (tl_shyA, .inl (κ 0, 6, .inl tl_shy)), (tl_bidOfA, .inl (κ 0, 9, .inl tl_bidOf)), (tl_daysOfA, .inl (κ 0, 6, .inl tl_daysOf)), (pao, .inr (2, [.ref saA, .int w4, .int w5])), (saA, .inl (κ 3, 20, .inr (.inr (.inr (.inr (fun k => some (sg1 k))))))), (nwo, .inr (5, [.int nw_price, .int nw_months, .int nw_chest, .int nw_given, .int nw_fate, .ref nw_goodsA, .ref nw_ratesA])), (nw_goodsA, .inl (κ 0, 6, .inl nw_goods)), (nw_ratesA, .inl (κ 0, 6, .inl nw_rates))] ++ krF κ sg1 sg2 sg3 w6) := hD
    refine lv_iconst (v := 0) hx hb dX8_drift_23 (by decide) ?_
    refine lv_istore_n (lv' := [(3, .int 0), (2, .int r1), (0, .ref kro), (1, .int x1)]) hx hb dX8_drift_24 rfl hl (by decide) rfl (fun ls hl => ?_)
    exact L25 N 0 kr_drawn nw_months nw_chest nw_fate nw_goods w4 w5 w6 _ _ _ (kr_subP hP [0, 1, 2, 3, 4, 5, 8, 9, 10, 6, 7] rfl) (kr_subD hD [0, 1, 2, 3, 4, 5, 8, 9, 10, 6, 7] (by decide) rfl) hS (lv_sub hl [2, 3, 0] rfl) hres
  · replace hres := og_f c3 hres
    refine lv_iload_n hx hb dX8_drift_10 rfl (lv_at hl 0 rfl) ?_
    have hres := Option.some.inj hres
    have h0 := (Prod.mk.inj hres).1
    replace hres := (Prod.mk.inj hres).2
    have h1 := (Prod.mk.inj hres).1
    replace hres := (Prod.mk.inj hres).2
    have h2 := (Prod.mk.inj hres).1
    replace hres := (Prod.mk.inj hres).2
    have h3 := (Prod.mk.inj hres).1
    replace hres := (Prod.mk.inj hres).2
    have h4 := (Prod.mk.inj hres).1
    replace hres := (Prod.mk.inj hres).2
    have h5 := (Prod.mk.inj hres).1
    replace hres := (Prod.mk.inj hres).2
    have h6 := (Prod.mk.inj hres).1
    replace hres := (Prod.mk.inj hres).2
    have h7 := (Prod.mk.inj hres).1
    replace hres := (Prod.mk.inj hres).2
    have h8 := hres
    subst h0
    subst h1
    subst h2
    subst h3
    subst h4
    subst h5
    subst h6
    subst h7
    subst h8
    exact hret _ _ _ _ (vp_nar_int _) (kr_subP hP [2, 3, 4, 5, 6, 7, 8, 9, 10, 0, 1] rfl) (kr_subD hD [2, 3, 4, 5, 6, 7, 8, 9, 10, 0, 1] (by decide) rfl) hS dX8_drift_11

def pX8_undo (N : Nat) (nw_price : Int32) (nw_months : Int32) (nw_chest : Int32) (nw_given : Int32) (nw_fate : Int32) (nw_goods : Nat → Int32) (nw_rates : Nat → Int32) (pa_next : Int32) (pa_count : Int32) (ps : Nat → krS) : Option (Int32 × Int32 × Int32 × Int32 × Int32 × Int32 × (Nat → Int32) × (Nat → Int32) × Int32 × Int32) :=
    kb10 (pX2_pop N pa_next pa_count ps nw_price nw_months nw_chest nw_given nw_fate nw_goods nw_rates) fun r1 w2 w3 w4 w5 w6 w7 w8 w9 w10 =>
    (if r1 = 0 then
    some ((-1000000003), w4, w5, w6, w7, w8, w9, w10, w2, w3)
    else
    some (w3, w4, w5, w6, w7, w8, w9, w10, w2, w3))
set_option maxHeartbeats 8000000 in
set_option maxRecDepth 100000 in
theorem tX8_undo (l : Launch) (D : va_G) (κ : Nat → ClassId) (kro : Nat) (txo : Nat) (tlo : Nat) (dfo : Nat) (nwo : Nat) (aho : Nat) (pao : Nat) (iaA : Nat) (sco : Nat) (bko : Nat) (spo : Nat) (nw_goodsA : Nat) (nw_ratesA : Nat) (saA : Nat) (sg1 : Nat → Nat) (sg2 : Nat → Nat) (sg3 : Nat → Nat) (N : Nat) (kr_drawn : Int32) (nw_price : Int32) (nw_months : Int32) (nw_chest : Int32) (nw_given : Int32) (nw_fate : Int32) (nw_goods : Nat → Int32) (nw_rates : Nat → Int32) (pa_next : Int32) (pa_count : Int32) (ps : Nat → krS) (r0 : Int32) (z_nw_price : Int32) (z_nw_months : Int32) (z_nw_chest : Int32) (z_nw_given : Int32) (z_nw_fate : Int32) (z_nw_goods : Nat → Int32) (z_nw_rates : Nat → Int32) (z_pa_next : Int32) (z_pa_count : Int32) (hres : pX8_undo N nw_price nw_months nw_chest nw_given nw_fate nw_goods nw_rates pa_next pa_count ps = some (r0, z_nw_price, z_nw_months, z_nw_chest, z_nw_given, z_nw_fate, z_nw_goods, z_nw_rates, z_pa_next, z_pa_count)) : krI l yX8_undo wsX8_undo { frames := 2, cells := 0, slots := 0, locals := 200 } D κ [.ref kro] ([(kro, .inr (8, [.ref txo, .ref tlo, .ref dfo, .ref nwo, .ref aho, .ref pao, .ref iaA, .ref sco, .ref bko, .ref spo, .int kr_drawn])), (nwo, .inr (5, [.int nw_price, .int nw_months, .int nw_chest, .int nw_given, .int nw_fate, .ref nw_goodsA, .ref nw_ratesA])), (nw_goodsA, .inl (κ 0, 6, .inl nw_goods)), (nw_ratesA, .inl (κ 0, 6, .inl nw_rates)), (pao, .inr (2, [.ref saA, .int pa_next, .int pa_count])), (saA, .inl (κ 3, 20, .inr (.inr (.inr (.inr (fun k => some (sg1 k)))))))] ++ krF κ sg1 sg2 sg3 ps) ([(kro, .inr (8, [.ref txo, .ref tlo, .ref dfo, .ref nwo, .ref aho, .ref pao, .ref iaA, .ref sco, .ref bko, .ref spo, .int kr_drawn])), (nwo, .inr (5, [.int z_nw_price, .int z_nw_months, .int z_nw_chest, .int z_nw_given, .int z_nw_fate, .ref nw_goodsA, .ref nw_ratesA])), (nw_goodsA, .inl (κ 0, 6, .inl z_nw_goods)), (nw_ratesA, .inl (κ 0, 6, .inl z_nw_rates)), (pao, .inr (2, [.ref saA, .int z_pa_next, .int z_pa_count])), (saA, .inl (κ 3, 20, .inr (.inr (.inr (.inr (fun k => some (sg1 k)))))))] ++ krF κ sg1 sg2 sg3 ps) r0 := by
  refine krI_of (cc := cX8_undo) (maxL := 1) (rt := .int) (by decide) rfl (Nat.le_of_ble_eq_true rfl) ?_
  intro p e s m args below meth c A Q ls hx hb hml hown hts hK hA hret hP hD hS hl
  have hown : s.vm.findClass RX8 = some m.cls := hown
  have hl : lv_has ls 1 [(0, .ref kro)] := hl
  have iw8 : ∀ w ∈ u_ws RX8 TX8 11, w ∈ wsX8_undo := (fun _ h => List.mem_cons_of_mem _ (List.mem_append_left _ (List.mem_append_left _ (List.mem_append_right _ h))))
  have iw2 : ∀ w ∈ u_ws RX2 TX2 3, w ∈ wsX8_undo := (fun _ h => List.mem_cons_of_mem _ (List.mem_append_left _ (List.mem_append_right _ h)))
  have k0 : (Cond.fieldLink RX8 39 "KingRansom" "past" "LKingRansom$Past;").before args s = true := hts _ (List.mem_of_getElem? (i := 1) rfl)
  have k1 : (Cond.fieldLink RX8 29 "KingRansom" "now" "LKingRansom$State;").before args s = true := hts _ (List.mem_of_getElem? (i := 2) rfl)
  have k2 : (Cond.initialized RX2).before args s = true := hts _ (List.mem_of_getElem? (i := 5) rfl)
  have k3 : (Cond.instanceMethod yX2_pop).before args s = true := hts _ (List.mem_of_getElem? (i := 4) rfl)
  have k4 : (Cond.selects RX2 yX2_pop yX2_pop).before args s = true := hts _ (List.mem_of_getElem? (i := 6) rfl)
  have k5 : (Cond.constant RX8 185 (-1000000003)).before args s = true := hts _ (List.mem_of_getElem? (i := 3) rfl)
  unfold pX8_undo at hres
  refine lv_aload_n hx hb dX8_undo_0 rfl (lv_at hl 0 rfl) ?_
  refine va_get (D := D) (ci := 8) (v := .ref pao) (C := RX8) (T := TX8) (N := 11) hx hb hts iw8 hown hK.1 hP 0 rfl rfl 5 (by decide) k0 (fun _ h9 => h9) rfl dX8_undo_1 ?_
  refine lv_aload_n hx hb dX8_undo_4 rfl (lv_at hl 0 rfl) ?_
  refine va_get (D := D) (ci := 8) (v := .ref nwo) (C := RX8) (T := TX8) (N := 11) hx hb hts iw8 hown hK.1 hP 0 rfl rfl 3 (by decide) k1 (fun _ h9 => h9) rfl dX8_undo_5 ?_
  obtain ⟨r1, w2, w3, w4, w5, w6, w7, w8, w9, w10, hc11, hres⟩ := kb10_s hres
  refine krI_VN_F (As := [.ref nwo]) (rest := []) (wr := [(kro, .inr (8, [.ref txo, .ref tlo, .ref dfo, .ref nwo, .ref aho, .ref pao, .ref iaA, .ref sco, .ref bko, .ref spo, .int kr_drawn]))]) ⟨hx, hb, hml, hown, hts⟩ hK (tX2_pop l D κ pao saA sg1 sg2 sg3 nwo nw_goodsA nw_ratesA N pa_next pa_count ps nw_price nw_months nw_chest nw_given nw_fate nw_goods nw_rates r1 w2 w3 w4 w5 w6 w7 w8 w9 w10 hc11) ⟨va_cnB 1 hts gX8_undo_X2_pop_n199 rfl rfl rfl (hK.ml 25 rfl) k2 (by decide +kernel) ⟨(Nat.le_of_ble_eq_true rfl), (Nat.le_of_ble_eq_true rfl)⟩, k3, k4⟩ rfl rfl rfl hP hD hS hA [4, 5, 1, 2, 3] [0] rfl rfl rfl rfl (by decide) rfl hl.1 rfl (Nat.le_of_ble_eq_true rfl) dX8_undo_8 ⟨Nat.zero_le _, Nat.zero_le _⟩ (fun H locs hP hD hS => ?_)
  have hP : va_P D vwCl ([(kro, .inr (8, [.ref txo, .ref tlo, .ref dfo, .ref nwo, .ref aho, .ref pao, .ref iaA, .ref sco, .ref bko, .ref spo, .int kr_drawn])), (pao, .inr (2, [.ref saA, .int w2, .int w3])), (saA, .inl (κ 3, 20, .inr (.inr (.inr (.inr (fun k => some (sg1 k))))))), (nwo, .inr (5, [.int w4, .int w5, .int w6, .int w7, .int w8, .ref nw_goodsA, .ref nw_ratesA])), (nw_goodsA, .inl (κ 0, 6, .inl w9)), (nw_ratesA, .inl (κ 0, 6, .inl w10))] ++ krF κ sg1 sg2 sg3 ps) H := hP
  have hD : va_D A ([(kro, .inr (8, [.ref txo, .ref tlo, .ref dfo, .ref nwo, .ref aho, .ref pao, .ref iaA, .ref sco, .ref bko, .ref spo, .int kr_drawn])), (pao, .inr (2, [.ref saA, .int w2, .int w3])), (saA, .inl (κ 3, 20, .inr (.inr (.inr (.inr (fun k => some (sg1 k))))))), (nwo, .inr (5, [.int w4, .int w5, .int w6, .int w7, .int w8, .ref nw_goodsA, .ref nw_ratesA])), (nw_goodsA, .inl (κ 0, 6, .inl w9)), (nw_ratesA, .inl (κ 0, 6, .inl w10))] ++ krF κ sg1 sg2 sg3 ps) := hD
  refine lv_if_eq (tgt := 24) hx hb dX8_undo_11 (by decide) (fun c12 => ?_) (fun c12 => ?_)
  · replace hres := og_t c12 hres
    refine lv_ldc (v := (-1000000003)) hx hb hown k5 dX8_undo_24 ?_
    have hres := Option.some.inj hres
    have h0 := (Prod.mk.inj hres).1
    replace hres := (Prod.mk.inj hres).2
    have h1 := (Prod.mk.inj hres).1
    replace hres := (Prod.mk.inj hres).2
    have h2 := (Prod.mk.inj hres).1
    replace hres := (Prod.mk.inj hres).2
    have h3 := (Prod.mk.inj hres).1
    replace hres := (Prod.mk.inj hres).2
    have h4 := (Prod.mk.inj hres).1
    replace hres := (Prod.mk.inj hres).2
    have h5 := (Prod.mk.inj hres).1
    replace hres := (Prod.mk.inj hres).2
    have h6 := (Prod.mk.inj hres).1
    replace hres := (Prod.mk.inj hres).2
    have h7 := (Prod.mk.inj hres).1
    replace hres := (Prod.mk.inj hres).2
    have h8 := (Prod.mk.inj hres).1
    replace hres := (Prod.mk.inj hres).2
    have h9 := hres
    subst h0
    subst h1
    subst h2
    subst h3
    subst h4
    subst h5
    subst h6
    subst h7
    subst h8
    subst h9
    exact hret _ _ _ _ (vp_nar_int _) (kr_subP hP [0, 3, 4, 5, 1, 2] rfl) (kr_subD hD [0, 3, 4, 5, 1, 2] (by decide) rfl) hS dX8_undo_26
  · replace hres := og_f c12 hres
    refine lv_aload_n hx hb dX8_undo_14 rfl (lv_at hl 0 rfl) ?_
    refine va_get (D := D) (ci := 8) (v := .ref pao) (C := RX8) (T := TX8) (N := 11) hx hb hts iw8 hown hK.1 hP 0 rfl rfl 5 (by decide) k0 (fun _ h9 => h9) rfl dX8_undo_15 ?_
    refine va_getN (D := D) (ci := 2) (v := .int w3) (C := RX2) (T := TX2) (N := 3) hx hb hts iw2 hown hK.1 hP 1 rfl rfl 2 (by decide) (hK.fl 38 rfl) (fun _ h9 => h9) rfl dX8_undo_18 ?_
    refine lv_goto (tgt := 26) hx hb dX8_undo_21 (by decide) ?_
    have hres := Option.some.inj hres
    have h0 := (Prod.mk.inj hres).1
    replace hres := (Prod.mk.inj hres).2
    have h1 := (Prod.mk.inj hres).1
    replace hres := (Prod.mk.inj hres).2
    have h2 := (Prod.mk.inj hres).1
    replace hres := (Prod.mk.inj hres).2
    have h3 := (Prod.mk.inj hres).1
    replace hres := (Prod.mk.inj hres).2
    have h4 := (Prod.mk.inj hres).1
    replace hres := (Prod.mk.inj hres).2
    have h5 := (Prod.mk.inj hres).1
    replace hres := (Prod.mk.inj hres).2
    have h6 := (Prod.mk.inj hres).1
    replace hres := (Prod.mk.inj hres).2
    have h7 := (Prod.mk.inj hres).1
    replace hres := (Prod.mk.inj hres).2
    have h8 := (Prod.mk.inj hres).1
    replace hres := (Prod.mk.inj hres).2
    have h9 := hres
    subst h0
    subst h1
    subst h2
    subst h3
    subst h4
    subst h5
    subst h6
    subst h7
    subst h8
    subst h9
    exact hret _ _ _ _ (vp_nar_int _) (kr_subP hP [0, 3, 4, 5, 1, 2] rfl) (kr_subD hD [0, 3, 4, 5, 1, 2] (by decide) rfl) hS dX8_undo_26
