def pX6_clear : Option (Int32 × Int32 × Int32 × Int32 × Int32 × Int32 × Int32 × Int32) :=
    some (0, 0, 0, 0, 0, 0, 0, 0)
set_option maxHeartbeats 8000000 in
set_option maxRecDepth 100000 in
theorem tX6_clear (l : Launch) (D : va_G) (κ : Nat → ClassId) (tlo : Nat) (tl_goodsA : Nat) (tl_shyA : Nat) (tl_bidOfA : Nat) (tl_daysOfA : Nat) (tl_stands : Int32) (tl_price : Int32) (tl_death : Int32) (tl_payers : Int32) (tl_bids : Int32) (tl_hostages : Int32) (tl_bags : Int32) (tl_bagMarks : Int32) (tl_goods : Nat → Int32) (tl_shy : Nat → Int32) (tl_bidOf : Nat → Int32) (tl_daysOf : Nat → Int32) (z_tl_stands : Int32) (z_tl_price : Int32) (z_tl_death : Int32) (z_tl_payers : Int32) (z_tl_bids : Int32) (z_tl_hostages : Int32) (z_tl_bags : Int32) (z_tl_bagMarks : Int32) (hres : pX6_clear = some (z_tl_stands, z_tl_price, z_tl_death, z_tl_payers, z_tl_bids, z_tl_hostages, z_tl_bags, z_tl_bagMarks)) : krV l yX6_clear wsX6_clear { frames := 0, cells := 0, slots := 0, locals := 0 } D κ [.ref tlo] ([(tlo, .inr (6, [.int tl_stands, .int tl_price, .int tl_death, .int tl_payers, .int tl_bids, .int tl_hostages, .int tl_bags, .int tl_bagMarks, .ref tl_goodsA, .ref tl_shyA, .ref tl_bidOfA, .ref tl_daysOfA])), (tl_goodsA, .inl (κ 0, 6, .inl tl_goods)), (tl_shyA, .inl (κ 0, 6, .inl tl_shy)), (tl_bidOfA, .inl (κ 0, 9, .inl tl_bidOf)), (tl_daysOfA, .inl (κ 0, 6, .inl tl_daysOf))]) ([(tlo, .inr (6, [.int z_tl_stands, .int z_tl_price, .int z_tl_death, .int z_tl_payers, .int z_tl_bids, .int z_tl_hostages, .int z_tl_bags, .int z_tl_bagMarks, .ref tl_goodsA, .ref tl_shyA, .ref tl_bidOfA, .ref tl_daysOfA])), (tl_goodsA, .inl (κ 0, 6, .inl tl_goods)), (tl_shyA, .inl (κ 0, 6, .inl tl_shy)), (tl_bidOfA, .inl (κ 0, 9, .inl tl_bidOf)), (tl_daysOfA, .inl (κ 0, 6, .inl tl_daysOf))]) := by
  refine krV_of (cc := cX6_clear) (maxL := 1) (by decide) rfl (Nat.le_of_ble_eq_true rfl) ?_
  intro p e s m args below meth c A Q ls hx hb hml hown hts hK hA hret hP hD hS hl
  have hown : s.vm.findClass RX6 = some m.cls := hown
  have hl : lv_has ls 1 [(0, .ref tlo)] := hl
  have iw6 : ∀ w ∈ u_ws RX6 TX6 12, w ∈ wsX6_clear := (fun _ h => List.mem_cons_of_mem _ (List.mem_append_right _ h))
  have k0 : (Cond.fieldLink RX6 24 "KingRansom$Tale" "stands" "Z").before args s = true := hts _ (List.mem_of_getElem? (i := 1) rfl)
  have k1 : (Cond.fieldLink RX6 28 "KingRansom$Tale" "price" "I").before args s = true := hts _ (List.mem_of_getElem? (i := 2) rfl)
  have k2 : (Cond.fieldLink RX6 32 "KingRansom$Tale" "death" "I").before args s = true := hts _ (List.mem_of_getElem? (i := 3) rfl)
  have k3 : (Cond.fieldLink RX6 35 "KingRansom$Tale" "payers" "I").before args s = true := hts _ (List.mem_of_getElem? (i := 4) rfl)
  have k4 : (Cond.fieldLink RX6 38 "KingRansom$Tale" "bids" "I").before args s = true := hts _ (List.mem_of_getElem? (i := 5) rfl)
  have k5 : (Cond.fieldLink RX6 41 "KingRansom$Tale" "hostages" "I").before args s = true := hts _ (List.mem_of_getElem? (i := 6) rfl)
  have k6 : (Cond.fieldLink RX6 44 "KingRansom$Tale" "bags" "I").before args s = true := hts _ (List.mem_of_getElem? (i := 7) rfl)
  have k7 : (Cond.fieldLink RX6 47 "KingRansom$Tale" "bagMarks" "I").before args s = true := hts _ (List.mem_of_getElem? (i := 8) rfl)
  unfold pX6_clear at hres
  refine lv_aload_n hx hb dX6_clear_0 rfl (lv_at hl 0 rfl) ?_
  refine lv_iconst (v := 0) hx hb dX6_clear_1 (by decide) ?_
  refine va_put (D := D) (ci := 6) (v := .int 0) (ty := .boolean) (C := RX6) (T := TX6) (N := 12) hx hb hts iw6 tyX6 tyX6_ok nmX6 hown hK.1 hP hD hS 0 rfl rfl 0 (by decide) k0 (fun _ h9 => h9) rfl (tyX6_ok 0 (by decide)) rfl rfl (Nat.le_of_ble_eq_true rfl) dX6_clear_2 (fun H locs hP hD hS => ?_)
  have hP : va_P D vwCl ([(tlo, .inr (6, [.int 0, .int tl_price, .int tl_death, .int tl_payers, .int tl_bids, .int tl_hostages, .int tl_bags, .int tl_bagMarks, .ref tl_goodsA, .ref tl_shyA, .ref tl_bidOfA, .ref tl_daysOfA])), (tl_goodsA, .inl (κ 0, 6, .inl tl_goods)), (tl_shyA, .inl (κ 0, 6, .inl tl_shy)), (tl_bidOfA, .inl (κ 0, 9, .inl tl_bidOf)), (tl_daysOfA, .inl (κ 0, 6, .inl tl_daysOf))]) H := hP
  have hD : va_D A ([(tlo, .inr (6, [.int 0, .int tl_price, .int tl_death, .int tl_payers, .int tl_bids, .int tl_hostages, .int tl_bags, .int tl_bagMarks, .ref tl_goodsA, .ref tl_shyA, .ref tl_bidOfA, .ref tl_daysOfA])), (tl_goodsA, .inl (κ 0, 6, .inl tl_goods)), (tl_shyA, .inl (κ 0, 6, .inl tl_shy)), (tl_bidOfA, .inl (κ 0, 9, .inl tl_bidOf)), (tl_daysOfA, .inl (κ 0, 6, .inl tl_daysOf))]) := hD
  refine lv_aload_n hx hb dX6_clear_5 rfl (lv_at hl 0 rfl) ?_
  refine lv_iconst (v := 0) hx hb dX6_clear_6 (by decide) ?_
  refine va_put (D := D) (ci := 6) (v := .int 0) (ty := .int) (C := RX6) (T := TX6) (N := 12) hx hb hts iw6 tyX6 tyX6_ok nmX6 hown hK.1 hP hD hS 0 rfl rfl 1 (by decide) k1 (fun _ h9 => h9) rfl (tyX6_ok 1 (by decide)) rfl rfl (Nat.le_of_ble_eq_true rfl) dX6_clear_7 (fun H locs hP hD hS => ?_)
  have hP : va_P D vwCl ([(tlo, .inr (6, [.int 0, .int 0, .int tl_death, .int tl_payers, .int tl_bids, .int tl_hostages, .int tl_bags, .int tl_bagMarks, .ref tl_goodsA, .ref tl_shyA, .ref tl_bidOfA, .ref tl_daysOfA])), (tl_goodsA, .inl (κ 0, 6, .inl tl_goods)), (tl_shyA, .inl (κ 0, 6, .inl tl_shy)), (tl_bidOfA, .inl (κ 0, 9, .inl tl_bidOf)), (tl_daysOfA, .inl (κ 0, 6, .inl tl_daysOf))]) H := hP
  have hD : va_D A ([(tlo, .inr (6, [.int 0, .int 0, .int tl_death, .int tl_payers, .int tl_bids, .int tl_hostages, .int tl_bags, .int tl_bagMarks, .ref tl_goodsA, .ref tl_shyA, .ref tl_bidOfA, .ref tl_daysOfA])), (tl_goodsA, .inl (κ 0, 6, .inl tl_goods)), (tl_shyA, .inl (κ 0, 6, .inl tl_shy)), (tl_bidOfA, .inl (κ 0, 9, .inl tl_bidOf)), (tl_daysOfA, .inl (κ 0, 6, .inl tl_daysOf))]) := hD
  refine lv_aload_n hx hb dX6_clear_10 rfl (lv_at hl 0 rfl) ?_
  refine lv_iconst (v := 0) hx hb dX6_clear_11 (by decide) ?_
  refine va_put (D := D) (ci := 6) (v := .int 0) (ty := .int) (C := RX6) (T := TX6) (N := 12) hx hb hts iw6 tyX6 tyX6_ok nmX6 hown hK.1 hP hD hS 0 rfl rfl 2 (by decide) k2 (fun _ h9 => h9) rfl (tyX6_ok 2 (by decide)) rfl rfl (Nat.le_of_ble_eq_true rfl) dX6_clear_12 (fun H locs hP hD hS => ?_)
  have hP : va_P D vwCl ([(tlo, .inr (6, [.int 0, .int 0, .int 0, .int tl_payers, .int tl_bids, .int tl_hostages, .int tl_bags, .int tl_bagMarks, .ref tl_goodsA, .ref tl_shyA, .ref tl_bidOfA, .ref tl_daysOfA])), (tl_goodsA, .inl (κ 0, 6, .inl tl_goods)), (tl_shyA, .inl (κ 0, 6, .inl tl_shy)), (tl_bidOfA, .inl (κ 0, 9, .inl tl_bidOf)), (tl_daysOfA, .inl (κ 0, 6, .inl tl_daysOf))]) H := hP
  have hD : va_D A ([(tlo, .inr (6, [.int 0, .int 0, .int 0, .int tl_payers, .int tl_bids, .int tl_hostages, .int tl_bags, .int tl_bagMarks, .ref tl_goodsA, .ref tl_shyA, .ref tl_bidOfA, .ref tl_daysOfA])), (tl_goodsA, .inl (κ 0, 6, .inl tl_goods)), (tl_shyA, .inl (κ 0, 6, .inl tl_shy)), (tl_bidOfA, .inl (κ 0, 9, .inl tl_bidOf)), (tl_daysOfA, .inl (κ 0, 6, .inl tl_daysOf))]) := hD
  refine lv_aload_n hx hb dX6_clear_15 rfl (lv_at hl 0 rfl) ?_
  refine lv_iconst (v := 0) hx hb dX6_clear_16 (by decide) ?_
  refine va_put (D := D) (ci := 6) (v := .int 0) (ty := .int) (C := RX6) (T := TX6) (N := 12) hx hb hts iw6 tyX6 tyX6_ok nmX6 hown hK.1 hP hD hS 0 rfl rfl 3 (by decide) k3 (fun _ h9 => h9) rfl (tyX6_ok 3 (by decide)) rfl rfl (Nat.le_of_ble_eq_true rfl) dX6_clear_17 (fun H locs hP hD hS => ?_)
  have hP : va_P D vwCl ([(tlo, .inr (6, [.int 0, .int 0, .int 0, .int 0, .int tl_bids, .int tl_hostages, .int tl_bags, .int tl_bagMarks, .ref tl_goodsA, .ref tl_shyA, .ref tl_bidOfA, .ref tl_daysOfA])), (tl_goodsA, .inl (κ 0, 6, .inl tl_goods)), (tl_shyA, .inl (κ 0, 6, .inl tl_shy)), (tl_bidOfA, .inl (κ 0, 9, .inl tl_bidOf)), (tl_daysOfA, .inl (κ 0, 6, .inl tl_daysOf))]) H := hP
  have hD : va_D A ([(tlo, .inr (6, [.int 0, .int 0, .int 0, .int 0, .int tl_bids, .int tl_hostages, .int tl_bags, .int tl_bagMarks, .ref tl_goodsA, .ref tl_shyA, .ref tl_bidOfA, .ref tl_daysOfA])), (tl_goodsA, .inl (κ 0, 6, .inl tl_goods)), (tl_shyA, .inl (κ 0, 6, .inl tl_shy)), (tl_bidOfA, .inl (κ 0, 9, .inl tl_bidOf)), (tl_daysOfA, .inl (κ 0, 6, .inl tl_daysOf))]) := hD
  refine lv_aload_n hx hb dX6_clear_20 rfl (lv_at hl 0 rfl) ?_
  refine lv_iconst (v := 0) hx hb dX6_clear_21 (by decide) ?_
  refine va_put (D := D) (ci := 6) (v := .int 0) (ty := .int) (C := RX6) (T := TX6) (N := 12) hx hb hts iw6 tyX6 tyX6_ok nmX6 hown hK.1 hP hD hS 0 rfl rfl 4 (by decide) k4 (fun _ h9 => h9) rfl (tyX6_ok 4 (by decide)) rfl rfl (Nat.le_of_ble_eq_true rfl) dX6_clear_22 (fun H locs hP hD hS => ?_)
  have hP : va_P D vwCl ([(tlo, .inr (6, [.int 0, .int 0, .int 0, .int 0, .int 0, .int tl_hostages, .int tl_bags, .int tl_bagMarks, .ref tl_goodsA, .ref tl_shyA, .ref tl_bidOfA, .ref tl_daysOfA])), (tl_goodsA, .inl (κ 0, 6, .inl tl_goods)), (tl_shyA, .inl (κ 0, 6, .inl tl_shy)), (tl_bidOfA, .inl (κ 0, 9, .inl tl_bidOf)), (tl_daysOfA, .inl (κ 0, 6, .inl tl_daysOf))]) H := hP
  have hD : va_D A ([(tlo, .inr (6, [.int 0, .int 0, .int 0, .int 0, .int 0, .int tl_hostages, .int tl_bags, .int tl_bagMarks, .ref tl_goodsA, .ref tl_shyA, .ref tl_bidOfA, .ref tl_daysOfA])), (tl_goodsA, .inl (κ 0, 6, .inl tl_goods)), (tl_shyA, .inl (κ 0, 6, .inl tl_shy)), (tl_bidOfA, .inl (κ 0, 9, .inl tl_bidOf)), (tl_daysOfA, .inl (κ 0, 6, .inl tl_daysOf))]) := hD
  refine lv_aload_n hx hb dX6_clear_25 rfl (lv_at hl 0 rfl) ?_
  refine lv_iconst (v := 0) hx hb dX6_clear_26 (by decide) ?_
  refine va_put (D := D) (ci := 6) (v := .int 0) (ty := .int) (C := RX6) (T := TX6) (N := 12) hx hb hts iw6 tyX6 tyX6_ok nmX6 hown hK.1 hP hD hS 0 rfl rfl 5 (by decide) k5 (fun _ h9 => h9) rfl (tyX6_ok 5 (by decide)) rfl rfl (Nat.le_of_ble_eq_true rfl) dX6_clear_27 (fun H locs hP hD hS => ?_)
  have hP : va_P D vwCl ([(tlo, .inr (6, [.int 0, .int 0, .int 0, .int 0, .int 0, .int 0, .int tl_bags, .int tl_bagMarks, .ref tl_goodsA, .ref tl_shyA, .ref tl_bidOfA, .ref tl_daysOfA])), (tl_goodsA, .inl (κ 0, 6, .inl tl_goods)), (tl_shyA, .inl (κ 0, 6, .inl tl_shy)), (tl_bidOfA, .inl (κ 0, 9, .inl tl_bidOf)), (tl_daysOfA, .inl (κ 0, 6, .inl tl_daysOf))]) H := hP
  have hD : va_D A ([(tlo, .inr (6, [.int 0, .int 0, .int 0, .int 0, .int 0, .int 0, .int tl_bags, .int tl_bagMarks, .ref tl_goodsA, .ref tl_shyA, .ref tl_bidOfA, .ref tl_daysOfA])), (tl_goodsA, .inl (κ 0, 6, .inl tl_goods)), (tl_shyA, .inl (κ 0, 6, .inl tl_shy)), (tl_bidOfA, .inl (κ 0, 9, .inl tl_bidOf)), (tl_daysOfA, .inl (κ 0, 6, .inl tl_daysOf))]) := hD
  refine lv_aload_n hx hb dX6_clear_30 rfl (lv_at hl 0 rfl) ?_
  refine lv_iconst (v := 0) hx hb dX6_clear_31 (by decide) ?_
  refine va_put (D := D) (ci := 6) (v := .int 0) (ty := .int) (C := RX6) (T := TX6) (N := 12) hx hb hts iw6 tyX6 tyX6_ok nmX6 hown hK.1 hP hD hS 0 rfl rfl 6 (by decide) k6 (fun _ h9 => h9) rfl (tyX6_ok 6 (by decide)) rfl rfl (Nat.le_of_ble_eq_true rfl) dX6_clear_32 (fun H locs hP hD hS => ?_)
  have hP : va_P D vwCl ([(tlo, .inr (6, [.int 0, .int 0, .int 0, .int 0, .int 0, .int 0, .int 0, .int tl_bagMarks, .ref tl_goodsA, .ref tl_shyA, .ref tl_bidOfA, .ref tl_daysOfA])), (tl_goodsA, .inl (κ 0, 6, .inl tl_goods)), (tl_shyA, .inl (κ 0, 6, .inl tl_shy)), (tl_bidOfA, .inl (κ 0, 9, .inl tl_bidOf)), (tl_daysOfA, .inl (κ 0, 6, .inl tl_daysOf))]) H := hP
  have hD : va_D A ([(tlo, .inr (6, [.int 0, .int 0, .int 0, .int 0, .int 0, .int 0, .int 0, .int tl_bagMarks, .ref tl_goodsA, .ref tl_shyA, .ref tl_bidOfA, .ref tl_daysOfA])), (tl_goodsA, .inl (κ 0, 6, .inl tl_goods)), (tl_shyA, .inl (κ 0, 6, .inl tl_shy)), (tl_bidOfA, .inl (κ 0, 9, .inl tl_bidOf)), (tl_daysOfA, .inl (κ 0, 6, .inl tl_daysOf))]) := hD
  refine lv_aload_n hx hb dX6_clear_35 rfl (lv_at hl 0 rfl) ?_
  refine lv_iconst (v := 0) hx hb dX6_clear_36 (by decide) ?_
  refine va_put (D := D) (ci := 6) (v := .int 0) (ty := .int) (C := RX6) (T := TX6) (N := 12) hx hb hts iw6 tyX6 tyX6_ok nmX6 hown hK.1 hP hD hS 0 rfl rfl 7 (by decide) k7 (fun _ h9 => h9) rfl (tyX6_ok 7 (by decide)) rfl rfl (Nat.le_of_ble_eq_true rfl) dX6_clear_37 (fun H locs hP hD hS => ?_)
  have hP : va_P D vwCl ([(tlo, .inr (6, [.int 0, .int 0, .int 0, .int 0, .int 0, .int 0, .int 0, .int 0, .ref tl_goodsA, .ref tl_shyA, .ref tl_bidOfA, .ref tl_daysOfA])), (tl_goodsA, .inl (κ 0, 6, .inl tl_goods)), (tl_shyA, .inl (κ 0, 6, .inl tl_shy)), (tl_bidOfA, .inl (κ 0, 9, .inl tl_bidOf)), (tl_daysOfA, .inl (κ 0, 6, .inl tl_daysOf))]) H := hP
  have hD : va_D A ([(tlo, .inr (6, [.int 0, .int 0, .int 0, .int 0, .int 0, .int 0, .int 0, .int 0, .ref tl_goodsA, .ref tl_shyA, .ref tl_bidOfA, .ref tl_daysOfA])), (tl_goodsA, .inl (κ 0, 6, .inl tl_goods)), (tl_shyA, .inl (κ 0, 6, .inl tl_shy)), (tl_bidOfA, .inl (κ 0, 9, .inl tl_bidOf)), (tl_daysOfA, .inl (κ 0, 6, .inl tl_daysOf))]) := hD
  have hres := Option.some.inj hres
  have h0 := (Prod.mk.inj hres).1
  replace hres := (Prod.mk.inj hres).2
  have h1 := (Prod.mk.inj hres).1
  replace hres := (Prod.mk.inj hres).2
  have h2 := (Prod.mk.inj hres).1
  replace hres := (Prod.mk.inj hres).2
  have h3 := (Prod.mk.inj hres).1
  replace hres := (Prod.mk.inj hres).2
  have h4 := (Prod.mk.inj hres).1
  replace hres := (Prod.mk.inj hres).2
  have h5 := (Prod.mk.inj hres).1
  replace hres := (Prod.mk.inj hres).2
  have h6 := (Prod.mk.inj hres).1
  replace hres := (Prod.mk.inj hres).2
  have h7 := hres
  subst h0
  subst h1
  subst h2
  subst h3
  subst h4
  subst h5
  subst h6
  subst h7
  exact hret _ _ _ _ hP hD hS dX6_clear_40

def pX6_addPayer (x1 : Int32) (x2 : Int32) (tl_payers : Int32) (tl_goods : Nat → Int32) (tl_shy : Nat → Int32) : Option (Int32 × (Nat → Int32) × (Nat → Int32)) :=
    (if 6 ≤ tl_payers then
    some (tl_payers, tl_goods, tl_shy)
    else
    if tl_payers < 0 ∨ 6 ≤ tl_payers.toNatClampNeg then none else
    some ((tl_payers + 1), (upd tl_goods tl_payers.toNatClampNeg x1), (upd tl_shy tl_payers.toNatClampNeg x2)))
set_option maxHeartbeats 8000000 in
set_option maxRecDepth 100000 in
theorem tX6_addPayer (l : Launch) (D : va_G) (κ : Nat → ClassId) (tlo : Nat) (tl_goodsA : Nat) (tl_shyA : Nat) (tl_bidOfA : Nat) (tl_daysOfA : Nat) (tl_stands : Int32) (tl_price : Int32) (tl_death : Int32) (tl_payers : Int32) (tl_bids : Int32) (tl_hostages : Int32) (tl_bags : Int32) (tl_bagMarks : Int32) (tl_goods : Nat → Int32) (tl_shy : Nat → Int32) (tl_bidOf : Nat → Int32) (tl_daysOf : Nat → Int32) (x1 : Int32) (x2 : Int32) (z_tl_payers : Int32) (z_tl_goods : Nat → Int32) (z_tl_shy : Nat → Int32) (hres : pX6_addPayer x1 x2 tl_payers tl_goods tl_shy = some (z_tl_payers, z_tl_goods, z_tl_shy)) : krV l yX6_addPayer wsX6_addPayer { frames := 0, cells := 0, slots := 0, locals := 0 } D κ [.ref tlo, .int x1, .int x2] ([(tlo, .inr (6, [.int tl_stands, .int tl_price, .int tl_death, .int tl_payers, .int tl_bids, .int tl_hostages, .int tl_bags, .int tl_bagMarks, .ref tl_goodsA, .ref tl_shyA, .ref tl_bidOfA, .ref tl_daysOfA])), (tl_goodsA, .inl (κ 0, 6, .inl tl_goods)), (tl_shyA, .inl (κ 0, 6, .inl tl_shy)), (tl_bidOfA, .inl (κ 0, 9, .inl tl_bidOf)), (tl_daysOfA, .inl (κ 0, 6, .inl tl_daysOf))]) ([(tlo, .inr (6, [.int tl_stands, .int tl_price, .int tl_death, .int z_tl_payers, .int tl_bids, .int tl_hostages, .int tl_bags, .int tl_bagMarks, .ref tl_goodsA, .ref tl_shyA, .ref tl_bidOfA, .ref tl_daysOfA])), (tl_goodsA, .inl (κ 0, 6, .inl z_tl_goods)), (tl_shyA, .inl (κ 0, 6, .inl z_tl_shy)), (tl_bidOfA, .inl (κ 0, 9, .inl tl_bidOf)), (tl_daysOfA, .inl (κ 0, 6, .inl tl_daysOf))]) := by
  refine krV_of (cc := cX6_addPayer) (maxL := 3) (by decide) rfl (Nat.le_of_ble_eq_true rfl) ?_
  intro p e s m args below meth c A Q ls hx hb hml hown hts hK hA hret hP hD hS hl
  have hown : s.vm.findClass RX6 = some m.cls := hown
  have hl : lv_has ls 3 [(0, .ref tlo), (1, .int x1), (2, .int x2)] := hl
  have iw6 : ∀ w ∈ u_ws RX6 TX6 12, w ∈ wsX6_addPayer := (fun _ h => List.mem_cons_of_mem _ (List.mem_append_right _ h))
  have k0 : (Cond.fieldLink RX6 35 "KingRansom$Tale" "payers" "I").before args s = true := hts _ (List.mem_of_getElem? (i := 1) rfl)
  have k1 : (Cond.fieldLink RX6 9 "KingRansom$Tale" "goods" "[I").before args s = true := hts _ (List.mem_of_getElem? (i := 2) rfl)
  have k2 : (Cond.fieldLink RX6 15 "KingRansom$Tale" "shy" "[I").before args s = true := hts _ (List.mem_of_getElem? (i := 3) rfl)
  unfold pX6_addPayer at hres
  refine lv_aload_n hx hb dX6_addPayer_0 rfl (lv_at hl 0 rfl) ?_
  refine va_get (D := D) (ci := 6) (v := .int tl_payers) (C := RX6) (T := TX6) (N := 12) hx hb hts iw6 hown hK.1 hP 0 rfl rfl 3 (by decide) k0 (fun _ h9 => h9) rfl dX6_addPayer_1 ?_
  refine lv_bipush (v := 6) hx hb dX6_addPayer_4 (by decide) ?_
  refine lv_icmp_ge (tgt := 39) hx hb dX6_addPayer_6 (by decide) (fun c1 => ?_) (fun c1 => ?_)
  · replace hres := og_t c1 hres
    have hres := Option.some.inj hres
    have h0 := (Prod.mk.inj hres).1
    replace hres := (Prod.mk.inj hres).2
    have h1 := (Prod.mk.inj hres).1
    replace hres := (Prod.mk.inj hres).2
    have h2 := hres
    subst h0
    subst h1
    subst h2
    exact hret _ _ _ _ hP hD hS dX6_addPayer_39
  · replace hres := og_f c1 hres
    refine lv_aload_n hx hb dX6_addPayer_9 rfl (lv_at hl 0 rfl) ?_
    refine va_get (D := D) (ci := 6) (v := .ref tl_goodsA) (C := RX6) (T := TX6) (N := 12) hx hb hts iw6 hown hK.1 hP 0 rfl rfl 8 (by decide) k1 (fun _ h9 => h9) rfl dX6_addPayer_10 ?_
    refine lv_aload_n hx hb dX6_addPayer_13 rfl (lv_at hl 0 rfl) ?_
    refine va_get (D := D) (ci := 6) (v := .int tl_payers) (C := RX6) (T := TX6) (N := 12) hx hb hts iw6 hown hK.1 hP 0 rfl rfl 3 (by decide) k0 (fun _ h9 => h9) rfl dX6_addPayer_14 ?_
    refine lv_iload_n hx hb dX6_addPayer_17 rfl (lv_at hl 1 rfl) ?_
    obtain ⟨g2, hres⟩ := og_no hres
    refine kr_iast (f := tl_goods) (j := tl_payers.toNatClampNeg) (x := x1) hx hb hK hP hD hS 1 rfl g2 rfl dX6_addPayer_18 (fun H locs hP hD hS => ?_)
    have hP : va_P D vwCl ([(tlo, .inr (6, [.int tl_stands, .int tl_price, .int tl_death, .int tl_payers, .int tl_bids, .int tl_hostages, .int tl_bags, .int tl_bagMarks, .ref tl_goodsA, .ref tl_shyA, .ref tl_bidOfA, .ref tl_daysOfA])), (tl_goodsA, .inl (κ 0, 6, .inl (upd tl_goods tl_payers.toNatClampNeg x1))), (tl_shyA, .inl (κ 0, 6, .inl tl_shy)), (tl_bidOfA, .inl (κ 0, 9, .inl tl_bidOf)), (tl_daysOfA, .inl (κ 0, 6, .inl tl_daysOf))]) H := hP
    have hD : va_D A ([(tlo, .inr (6, [.int tl_stands, .int tl_price, .int tl_death, .int tl_payers, .int tl_bids, .int tl_hostages, .int tl_bags, .int tl_bagMarks, .ref tl_goodsA, .ref tl_shyA, .ref tl_bidOfA, .ref tl_daysOfA])), (tl_goodsA, .inl (κ 0, 6, .inl (upd tl_goods tl_payers.toNatClampNeg x1))), (tl_shyA, .inl (κ 0, 6, .inl tl_shy)), (tl_bidOfA, .inl (κ 0, 9, .inl tl_bidOf)), (tl_daysOfA, .inl (κ 0, 6, .inl tl_daysOf))]) := hD
    refine lv_aload_n hx hb dX6_addPayer_19 rfl (lv_at hl 0 rfl) ?_
    refine va_get (D := D) (ci := 6) (v := .ref tl_shyA) (C := RX6) (T := TX6) (N := 12) hx hb hts iw6 hown hK.1 hP 0 rfl rfl 9 (by decide) k2 (fun _ h9 => h9) rfl dX6_addPayer_20 ?_
    refine lv_aload_n hx hb dX6_addPayer_23 rfl (lv_at hl 0 rfl) ?_
    refine va_get (D := D) (ci := 6) (v := .int tl_payers) (C := RX6) (T := TX6) (N := 12) hx hb hts iw6 hown hK.1 hP 0 rfl rfl 3 (by decide) k0 (fun _ h9 => h9) rfl dX6_addPayer_24 ?_
    refine lv_iload_n hx hb dX6_addPayer_27 rfl (lv_at hl 2 rfl) ?_
    refine kr_iast (f := tl_shy) (j := tl_payers.toNatClampNeg) (x := x2) hx hb hK hP hD hS 2 rfl g2 rfl dX6_addPayer_28 (fun H locs hP hD hS => ?_)
    have hP : va_P D vwCl ([(tlo, .inr (6, [.int tl_stands, .int tl_price, .int tl_death, .int tl_payers, .int tl_bids, .int tl_hostages, .int tl_bags, .int tl_bagMarks, .ref tl_goodsA, .ref tl_shyA, .ref tl_bidOfA, .ref tl_daysOfA])), (tl_goodsA, .inl (κ 0, 6, .inl (upd tl_goods tl_payers.toNatClampNeg x1))), (tl_shyA, .inl (κ 0, 6, .inl (upd tl_shy tl_payers.toNatClampNeg x2))), (tl_bidOfA, .inl (κ 0, 9, .inl tl_bidOf)), (tl_daysOfA, .inl (κ 0, 6, .inl tl_daysOf))]) H := hP
    have hD : va_D A ([(tlo, .inr (6, [.int tl_stands, .int tl_price, .int tl_death, .int tl_payers, .int tl_bids, .int tl_hostages, .int tl_bags, .int tl_bagMarks, .ref tl_goodsA, .ref tl_shyA, .ref tl_bidOfA, .ref tl_daysOfA])), (tl_goodsA, .inl (κ 0, 6, .inl (upd tl_goods tl_payers.toNatClampNeg x1))), (tl_shyA, .inl (κ 0, 6, .inl (upd tl_shy tl_payers.toNatClampNeg x2))), (tl_bidOfA, .inl (κ 0, 9, .inl tl_bidOf)), (tl_daysOfA, .inl (κ 0, 6, .inl tl_daysOf))]) := hD
    refine lv_aload_n hx hb dX6_addPayer_29 rfl (lv_at hl 0 rfl) ?_
    refine lv_dup hx hb dX6_addPayer_30 rfl ?_
    refine va_get (D := D) (ci := 6) (v := .int tl_payers) (C := RX6) (T := TX6) (N := 12) hx hb hts iw6 hown hK.1 hP 0 rfl rfl 3 (by decide) k0 (fun _ h9 => h9) rfl dX6_addPayer_31 ?_
    refine lv_iconst (v := 1) hx hb dX6_addPayer_34 (by decide) ?_
    refine lv_iadd hx hb dX6_addPayer_35 ?_
    refine va_put (D := D) (ci := 6) (v := .int (tl_payers + 1)) (ty := .int) (C := RX6) (T := TX6) (N := 12) hx hb hts iw6 tyX6 tyX6_ok nmX6 hown hK.1 hP hD hS 0 rfl rfl 3 (by decide) k0 (fun _ h9 => h9) rfl (tyX6_ok 3 (by decide)) rfl rfl (Nat.le_of_ble_eq_true rfl) dX6_addPayer_36 (fun H locs hP hD hS => ?_)
    have hP : va_P D vwCl ([(tlo, .inr (6, [.int tl_stands, .int tl_price, .int tl_death, .int (tl_payers + 1), .int tl_bids, .int tl_hostages, .int tl_bags, .int tl_bagMarks, .ref tl_goodsA, .ref tl_shyA, .ref tl_bidOfA, .ref tl_daysOfA])), (tl_goodsA, .inl (κ 0, 6, .inl (upd tl_goods tl_payers.toNatClampNeg x1))), (tl_shyA, .inl (κ 0, 6, .inl (upd tl_shy tl_payers.toNatClampNeg x2))), (tl_bidOfA, .inl (κ 0, 9, .inl tl_bidOf)), (tl_daysOfA, .inl (κ 0, 6, .inl tl_daysOf))]) H := hP
    have hD : va_D A ([(tlo, .inr (6, [.int tl_stands, .int tl_price, .int tl_death, .int (tl_payers + 1), .int tl_bids, .int tl_hostages, .int tl_bags, .int tl_bagMarks, .ref tl_goodsA, .ref tl_shyA, .ref tl_bidOfA, .ref tl_daysOfA])), (tl_goodsA, .inl (κ 0, 6, .inl (upd tl_goods tl_payers.toNatClampNeg x1))), (tl_shyA, .inl (κ 0, 6, .inl (upd tl_shy tl_payers.toNatClampNeg x2))), (tl_bidOfA, .inl (κ 0, 9, .inl tl_bidOf)), (tl_daysOfA, .inl (κ 0, 6, .inl tl_daysOf))]) := hD
    have hres := Option.some.inj hres
    have h0 := (Prod.mk.inj hres).1
    replace hres := (Prod.mk.inj hres).2
    have h1 := (Prod.mk.inj hres).1
    replace hres := (Prod.mk.inj hres).2
    have h2 := hres
    subst h0
    subst h1
    subst h2
    exact hret _ _ _ _ hP hD hS dX6_addPayer_39

def pX6_addBid (x1 : Int32) (tl_bids : Int32) (tl_bidOf : Nat → Int32) : Option (Int32 × (Nat → Int32)) :=
    (if 9 ≤ tl_bids then
    some (tl_bids, tl_bidOf)
    else
    if tl_bids < 0 ∨ 9 ≤ tl_bids.toNatClampNeg then none else
    some ((tl_bids + 1), (upd tl_bidOf tl_bids.toNatClampNeg x1)))
set_option maxHeartbeats 8000000 in
set_option maxRecDepth 100000 in
theorem tX6_addBid (l : Launch) (D : va_G) (κ : Nat → ClassId) (tlo : Nat) (tl_goodsA : Nat) (tl_shyA : Nat) (tl_bidOfA : Nat) (tl_daysOfA : Nat) (tl_stands : Int32) (tl_price : Int32) (tl_death : Int32) (tl_payers : Int32) (tl_bids : Int32) (tl_hostages : Int32) (tl_bags : Int32) (tl_bagMarks : Int32) (tl_goods : Nat → Int32) (tl_shy : Nat → Int32) (tl_bidOf : Nat → Int32) (tl_daysOf : Nat → Int32) (x1 : Int32) (z_tl_bids : Int32) (z_tl_bidOf : Nat → Int32) (hres : pX6_addBid x1 tl_bids tl_bidOf = some (z_tl_bids, z_tl_bidOf)) : krV l yX6_addBid wsX6_addBid { frames := 0, cells := 0, slots := 0, locals := 0 } D κ [.ref tlo, .int x1] ([(tlo, .inr (6, [.int tl_stands, .int tl_price, .int tl_death, .int tl_payers, .int tl_bids, .int tl_hostages, .int tl_bags, .int tl_bagMarks, .ref tl_goodsA, .ref tl_shyA, .ref tl_bidOfA, .ref tl_daysOfA])), (tl_goodsA, .inl (κ 0, 6, .inl tl_goods)), (tl_shyA, .inl (κ 0, 6, .inl tl_shy)), (tl_bidOfA, .inl (κ 0, 9, .inl tl_bidOf)), (tl_daysOfA, .inl (κ 0, 6, .inl tl_daysOf))]) ([(tlo, .inr (6, [.int tl_stands, .int tl_price, .int tl_death, .int tl_payers, .int z_tl_bids, .int tl_hostages, .int tl_bags, .int tl_bagMarks, .ref tl_goodsA, .ref tl_shyA, .ref tl_bidOfA, .ref tl_daysOfA])), (tl_goodsA, .inl (κ 0, 6, .inl tl_goods)), (tl_shyA, .inl (κ 0, 6, .inl tl_shy)), (tl_bidOfA, .inl (κ 0, 9, .inl z_tl_bidOf)), (tl_daysOfA, .inl (κ 0, 6, .inl tl_daysOf))]) := by
  refine krV_of (cc := cX6_addBid) (maxL := 2) (by decide) rfl (Nat.le_of_ble_eq_true rfl) ?_
  intro p e s m args below meth c A Q ls hx hb hml hown hts hK hA hret hP hD hS hl
  have hown : s.vm.findClass RX6 = some m.cls := hown
  have hl : lv_has ls 2 [(0, .ref tlo), (1, .int x1)] := hl
  have iw6 : ∀ w ∈ u_ws RX6 TX6 12, w ∈ wsX6_addBid := (fun _ h => List.mem_cons_of_mem _ (List.mem_append_right _ h))
  have k0 : (Cond.fieldLink RX6 38 "KingRansom$Tale" "bids" "I").before args s = true := hts _ (List.mem_of_getElem? (i := 1) rfl)
  have k1 : (Cond.fieldLink RX6 18 "KingRansom$Tale" "bidOf" "[I").before args s = true := hts _ (List.mem_of_getElem? (i := 2) rfl)
  unfold pX6_addBid at hres
  refine lv_aload_n hx hb dX6_addBid_0 rfl (lv_at hl 0 rfl) ?_
  refine va_get (D := D) (ci := 6) (v := .int tl_bids) (C := RX6) (T := TX6) (N := 12) hx hb hts iw6 hown hK.1 hP 0 rfl rfl 4 (by decide) k0 (fun _ h9 => h9) rfl dX6_addBid_1 ?_
  refine lv_bipush (v := 9) hx hb dX6_addBid_4 (by decide) ?_
  refine lv_icmp_ge (tgt := 29) hx hb dX6_addBid_6 (by decide) (fun c1 => ?_) (fun c1 => ?_)
  · replace hres := og_t c1 hres
    have hres := Option.some.inj hres
    have h0 := (Prod.mk.inj hres).1
    replace hres := (Prod.mk.inj hres).2
    have h1 := hres
    subst h0
    subst h1
    exact hret _ _ _ _ hP hD hS dX6_addBid_29
  · replace hres := og_f c1 hres
    refine lv_aload_n hx hb dX6_addBid_9 rfl (lv_at hl 0 rfl) ?_
    refine va_get (D := D) (ci := 6) (v := .ref tl_bidOfA) (C := RX6) (T := TX6) (N := 12) hx hb hts iw6 hown hK.1 hP 0 rfl rfl 10 (by decide) k1 (fun _ h9 => h9) rfl dX6_addBid_10 ?_
    refine lv_aload_n hx hb dX6_addBid_13 rfl (lv_at hl 0 rfl) ?_
    refine va_get (D := D) (ci := 6) (v := .int tl_bids) (C := RX6) (T := TX6) (N := 12) hx hb hts iw6 hown hK.1 hP 0 rfl rfl 4 (by decide) k0 (fun _ h9 => h9) rfl dX6_addBid_14 ?_
    refine lv_iload_n hx hb dX6_addBid_17 rfl (lv_at hl 1 rfl) ?_
    obtain ⟨g2, hres⟩ := og_no hres
    refine kr_iast (f := tl_bidOf) (j := tl_bids.toNatClampNeg) (x := x1) hx hb hK hP hD hS 3 rfl g2 rfl dX6_addBid_18 (fun H locs hP hD hS => ?_)
    have hP : va_P D vwCl ([(tlo, .inr (6, [.int tl_stands, .int tl_price, .int tl_death, .int tl_payers, .int tl_bids, .int tl_hostages, .int tl_bags, .int tl_bagMarks, .ref tl_goodsA, .ref tl_shyA, .ref tl_bidOfA, .ref tl_daysOfA])), (tl_goodsA, .inl (κ 0, 6, .inl tl_goods)), (tl_shyA, .inl (κ 0, 6, .inl tl_shy)), (tl_bidOfA, .inl (κ 0, 9, .inl (upd tl_bidOf tl_bids.toNatClampNeg x1))), (tl_daysOfA, .inl (κ 0, 6, .inl tl_daysOf))]) H := hP
    have hD : va_D A ([(tlo, .inr (6, [.int tl_stands, .int tl_price, .int tl_death, .int tl_payers, .int tl_bids, .int tl_hostages, .int tl_bags, .int tl_bagMarks, .ref tl_goodsA, .ref tl_shyA, .ref tl_bidOfA, .ref tl_daysOfA])), (tl_goodsA, .inl (κ 0, 6, .inl tl_goods)), (tl_shyA, .inl (κ 0, 6, .inl tl_shy)), (tl_bidOfA, .inl (κ 0, 9, .inl (upd tl_bidOf tl_bids.toNatClampNeg x1))), (tl_daysOfA, .inl (κ 0, 6, .inl tl_daysOf))]) := hD
    refine lv_aload_n hx hb dX6_addBid_19 rfl (lv_at hl 0 rfl) ?_
    refine lv_dup hx hb dX6_addBid_20 rfl ?_
    refine va_get (D := D) (ci := 6) (v := .int tl_bids) (C := RX6) (T := TX6) (N := 12) hx hb hts iw6 hown hK.1 hP 0 rfl rfl 4 (by decide) k0 (fun _ h9 => h9) rfl dX6_addBid_21 ?_
    refine lv_iconst (v := 1) hx hb dX6_addBid_24 (by decide) ?_
    refine lv_iadd hx hb dX6_addBid_25 ?_
    refine va_put (D := D) (ci := 6) (v := .int (tl_bids + 1)) (ty := .int) (C := RX6) (T := TX6) (N := 12) hx hb hts iw6 tyX6 tyX6_ok nmX6 hown hK.1 hP hD hS 0 rfl rfl 4 (by decide) k0 (fun _ h9 => h9) rfl (tyX6_ok 4 (by decide)) rfl rfl (Nat.le_of_ble_eq_true rfl) dX6_addBid_26 (fun H locs hP hD hS => ?_)
    have hP : va_P D vwCl ([(tlo, .inr (6, [.int tl_stands, .int tl_price, .int tl_death, .int tl_payers, .int (tl_bids + 1), .int tl_hostages, .int tl_bags, .int tl_bagMarks, .ref tl_goodsA, .ref tl_shyA, .ref tl_bidOfA, .ref tl_daysOfA])), (tl_goodsA, .inl (κ 0, 6, .inl tl_goods)), (tl_shyA, .inl (κ 0, 6, .inl tl_shy)), (tl_bidOfA, .inl (κ 0, 9, .inl (upd tl_bidOf tl_bids.toNatClampNeg x1))), (tl_daysOfA, .inl (κ 0, 6, .inl tl_daysOf))]) H := hP
    have hD : va_D A ([(tlo, .inr (6, [.int tl_stands, .int tl_price, .int tl_death, .int tl_payers, .int (tl_bids + 1), .int tl_hostages, .int tl_bags, .int tl_bagMarks, .ref tl_goodsA, .ref tl_shyA, .ref tl_bidOfA, .ref tl_daysOfA])), (tl_goodsA, .inl (κ 0, 6, .inl tl_goods)), (tl_shyA, .inl (κ 0, 6, .inl tl_shy)), (tl_bidOfA, .inl (κ 0, 9, .inl (upd tl_bidOf tl_bids.toNatClampNeg x1))), (tl_daysOfA, .inl (κ 0, 6, .inl tl_daysOf))]) := hD
    have hres := Option.some.inj hres
    have h0 := (Prod.mk.inj hres).1
    replace hres := (Prod.mk.inj hres).2
    have h1 := hres
    subst h0
    subst h1
    exact hret _ _ _ _ hP hD hS dX6_addBid_29

def pX6_addHostage (x1 : Int32) (tl_hostages : Int32) (tl_daysOf : Nat → Int32) : Option (Int32 × (Nat → Int32)) :=
    (if 6 ≤ tl_hostages then
    some (tl_hostages, tl_daysOf)
    else
    if tl_hostages < 0 ∨ 6 ≤ tl_hostages.toNatClampNeg then none else
    some ((tl_hostages + 1), (upd tl_daysOf tl_hostages.toNatClampNeg x1)))
set_option maxHeartbeats 8000000 in
set_option maxRecDepth 100000 in
theorem tX6_addHostage (l : Launch) (D : va_G) (κ : Nat → ClassId) (tlo : Nat) (tl_goodsA : Nat) (tl_shyA : Nat) (tl_bidOfA : Nat) (tl_daysOfA : Nat) (tl_stands : Int32) (tl_price : Int32) (tl_death : Int32) (tl_payers : Int32) (tl_bids : Int32) (tl_hostages : Int32) (tl_bags : Int32) (tl_bagMarks : Int32) (tl_goods : Nat → Int32) (tl_shy : Nat → Int32) (tl_bidOf : Nat → Int32) (tl_daysOf : Nat → Int32) (x1 : Int32) (z_tl_hostages : Int32) (z_tl_daysOf : Nat → Int32) (hres : pX6_addHostage x1 tl_hostages tl_daysOf = some (z_tl_hostages, z_tl_daysOf)) : krV l yX6_addHostage wsX6_addHostage { frames := 0, cells := 0, slots := 0, locals := 0 } D κ [.ref tlo, .int x1] ([(tlo, .inr (6, [.int tl_stands, .int tl_price, .int tl_death, .int tl_payers, .int tl_bids, .int tl_hostages, .int tl_bags, .int tl_bagMarks, .ref tl_goodsA, .ref tl_shyA, .ref tl_bidOfA, .ref tl_daysOfA])), (tl_goodsA, .inl (κ 0, 6, .inl tl_goods)), (tl_shyA, .inl (κ 0, 6, .inl tl_shy)), (tl_bidOfA, .inl (κ 0, 9, .inl tl_bidOf)), (tl_daysOfA, .inl (κ 0, 6, .inl tl_daysOf))]) ([(tlo, .inr (6, [.int tl_stands, .int tl_price, .int tl_death, .int tl_payers, .int tl_bids, .int z_tl_hostages, .int tl_bags, .int tl_bagMarks, .ref tl_goodsA, .ref tl_shyA, .ref tl_bidOfA, .ref tl_daysOfA])), (tl_goodsA, .inl (κ 0, 6, .inl tl_goods)), (tl_shyA, .inl (κ 0, 6, .inl tl_shy)), (tl_bidOfA, .inl (κ 0, 9, .inl tl_bidOf)), (tl_daysOfA, .inl (κ 0, 6, .inl z_tl_daysOf))]) := by
  refine krV_of (cc := cX6_addHostage) (maxL := 2) (by decide) rfl (Nat.le_of_ble_eq_true rfl) ?_
  intro p e s m args below meth c A Q ls hx hb hml hown hts hK hA hret hP hD hS hl
  have hown : s.vm.findClass RX6 = some m.cls := hown
  have hl : lv_has ls 2 [(0, .ref tlo), (1, .int x1)] := hl
  have iw6 : ∀ w ∈ u_ws RX6 TX6 12, w ∈ wsX6_addHostage := (fun _ h => List.mem_cons_of_mem _ (List.mem_append_right _ h))
  have k0 : (Cond.fieldLink RX6 41 "KingRansom$Tale" "hostages" "I").before args s = true := hts _ (List.mem_of_getElem? (i := 1) rfl)
  have k1 : (Cond.fieldLink RX6 21 "KingRansom$Tale" "daysOf" "[I").before args s = true := hts _ (List.mem_of_getElem? (i := 2) rfl)
  unfold pX6_addHostage at hres
  refine lv_aload_n hx hb dX6_addHostage_0 rfl (lv_at hl 0 rfl) ?_
  refine va_get (D := D) (ci := 6) (v := .int tl_hostages) (C := RX6) (T := TX6) (N := 12) hx hb hts iw6 hown hK.1 hP 0 rfl rfl 5 (by decide) k0 (fun _ h9 => h9) rfl dX6_addHostage_1 ?_
  refine lv_bipush (v := 6) hx hb dX6_addHostage_4 (by decide) ?_
  refine lv_icmp_ge (tgt := 29) hx hb dX6_addHostage_6 (by decide) (fun c1 => ?_) (fun c1 => ?_)
  · replace hres := og_t c1 hres
    have hres := Option.some.inj hres
    have h0 := (Prod.mk.inj hres).1
    replace hres := (Prod.mk.inj hres).2
    have h1 := hres
    subst h0
    subst h1
    exact hret _ _ _ _ hP hD hS dX6_addHostage_29
  · replace hres := og_f c1 hres
    refine lv_aload_n hx hb dX6_addHostage_9 rfl (lv_at hl 0 rfl) ?_
    refine va_get (D := D) (ci := 6) (v := .ref tl_daysOfA) (C := RX6) (T := TX6) (N := 12) hx hb hts iw6 hown hK.1 hP 0 rfl rfl 11 (by decide) k1 (fun _ h9 => h9) rfl dX6_addHostage_10 ?_
    refine lv_aload_n hx hb dX6_addHostage_13 rfl (lv_at hl 0 rfl) ?_
    refine va_get (D := D) (ci := 6) (v := .int tl_hostages) (C := RX6) (T := TX6) (N := 12) hx hb hts iw6 hown hK.1 hP 0 rfl rfl 5 (by decide) k0 (fun _ h9 => h9) rfl dX6_addHostage_14 ?_
    refine lv_iload_n hx hb dX6_addHostage_17 rfl (lv_at hl 1 rfl) ?_
    obtain ⟨g2, hres⟩ := og_no hres
    refine kr_iast (f := tl_daysOf) (j := tl_hostages.toNatClampNeg) (x := x1) hx hb hK hP hD hS 4 rfl g2 rfl dX6_addHostage_18 (fun H locs hP hD hS => ?_)
    have hP : va_P D vwCl ([(tlo, .inr (6, [.int tl_stands, .int tl_price, .int tl_death, .int tl_payers, .int tl_bids, .int tl_hostages, .int tl_bags, .int tl_bagMarks, .ref tl_goodsA, .ref tl_shyA, .ref tl_bidOfA, .ref tl_daysOfA])), (tl_goodsA, .inl (κ 0, 6, .inl tl_goods)), (tl_shyA, .inl (κ 0, 6, .inl tl_shy)), (tl_bidOfA, .inl (κ 0, 9, .inl tl_bidOf)), (tl_daysOfA, .inl (κ 0, 6, .inl (upd tl_daysOf tl_hostages.toNatClampNeg x1)))]) H := hP
    have hD : va_D A ([(tlo, .inr (6, [.int tl_stands, .int tl_price, .int tl_death, .int tl_payers, .int tl_bids, .int tl_hostages, .int tl_bags, .int tl_bagMarks, .ref tl_goodsA, .ref tl_shyA, .ref tl_bidOfA, .ref tl_daysOfA])), (tl_goodsA, .inl (κ 0, 6, .inl tl_goods)), (tl_shyA, .inl (κ 0, 6, .inl tl_shy)), (tl_bidOfA, .inl (κ 0, 9, .inl tl_bidOf)), (tl_daysOfA, .inl (κ 0, 6, .inl (upd tl_daysOf tl_hostages.toNatClampNeg x1)))]) := hD
    refine lv_aload_n hx hb dX6_addHostage_19 rfl (lv_at hl 0 rfl) ?_
    refine lv_dup hx hb dX6_addHostage_20 rfl ?_
    refine va_get (D := D) (ci := 6) (v := .int tl_hostages) (C := RX6) (T := TX6) (N := 12) hx hb hts iw6 hown hK.1 hP 0 rfl rfl 5 (by decide) k0 (fun _ h9 => h9) rfl dX6_addHostage_21 ?_
    refine lv_iconst (v := 1) hx hb dX6_addHostage_24 (by decide) ?_
    refine lv_iadd hx hb dX6_addHostage_25 ?_
    refine va_put (D := D) (ci := 6) (v := .int (tl_hostages + 1)) (ty := .int) (C := RX6) (T := TX6) (N := 12) hx hb hts iw6 tyX6 tyX6_ok nmX6 hown hK.1 hP hD hS 0 rfl rfl 5 (by decide) k0 (fun _ h9 => h9) rfl (tyX6_ok 5 (by decide)) rfl rfl (Nat.le_of_ble_eq_true rfl) dX6_addHostage_26 (fun H locs hP hD hS => ?_)
    have hP : va_P D vwCl ([(tlo, .inr (6, [.int tl_stands, .int tl_price, .int tl_death, .int tl_payers, .int tl_bids, .int (tl_hostages + 1), .int tl_bags, .int tl_bagMarks, .ref tl_goodsA, .ref tl_shyA, .ref tl_bidOfA, .ref tl_daysOfA])), (tl_goodsA, .inl (κ 0, 6, .inl tl_goods)), (tl_shyA, .inl (κ 0, 6, .inl tl_shy)), (tl_bidOfA, .inl (κ 0, 9, .inl tl_bidOf)), (tl_daysOfA, .inl (κ 0, 6, .inl (upd tl_daysOf tl_hostages.toNatClampNeg x1)))]) H := hP
    have hD : va_D A ([(tlo, .inr (6, [.int tl_stands, .int tl_price, .int tl_death, .int tl_payers, .int tl_bids, .int (tl_hostages + 1), .int tl_bags, .int tl_bagMarks, .ref tl_goodsA, .ref tl_shyA, .ref tl_bidOfA, .ref tl_daysOfA])), (tl_goodsA, .inl (κ 0, 6, .inl tl_goods)), (tl_shyA, .inl (κ 0, 6, .inl tl_shy)), (tl_bidOfA, .inl (κ 0, 9, .inl tl_bidOf)), (tl_daysOfA, .inl (κ 0, 6, .inl (upd tl_daysOf tl_hostages.toNatClampNeg x1)))]) := hD
    have hres := Option.some.inj hres
    have h0 := (Prod.mk.inj hres).1
    replace hres := (Prod.mk.inj hres).2
    have h1 := hres
    subst h0
    subst h1
    exact hret _ _ _ _ hP hD hS dX6_addHostage_29

def pX7_add (x1 : Int32) (tx_signs : Nat → Int32) (tx_length : Int32) : Option (Int32 × (Nat → Int32) × Int32) :=
    (if tx_length < 240 then
    if tx_length < 0 ∨ 240 ≤ tx_length.toNatClampNeg then none else
    some (1, (upd tx_signs tx_length.toNatClampNeg x1), (tx_length + 1))
    else
    some (0, tx_signs, tx_length))
set_option maxHeartbeats 8000000 in
set_option maxRecDepth 100000 in
theorem tX7_add (l : Launch) (D : va_G) (κ : Nat → ClassId) (txo : Nat) (tx_signsA : Nat) (tx_signs : Nat → Int32) (tx_length : Int32) (tx_at : Int32) (tx_fault : Int32) (tx_place : Int32) (x1 : Int32) (r0 : Int32) (z_tx_signs : Nat → Int32) (z_tx_length : Int32) (hres : pX7_add x1 tx_signs tx_length = some (r0, z_tx_signs, z_tx_length)) : krI l yX7_add wsX7_add { frames := 0, cells := 0, slots := 0, locals := 0 } D κ [.ref txo, .int x1] ([(txo, .inr (7, [.ref tx_signsA, .int tx_length, .int tx_at, .int tx_fault, .int tx_place])), (tx_signsA, .inl (κ 0, 240, .inl tx_signs))]) ([(txo, .inr (7, [.ref tx_signsA, .int z_tx_length, .int tx_at, .int tx_fault, .int tx_place])), (tx_signsA, .inl (κ 0, 240, .inl z_tx_signs))]) r0 := by
  refine krI_of (cc := cX7_add) (maxL := 2) (rt := .boolean) (by decide) rfl (Nat.le_of_ble_eq_true rfl) ?_
  intro p e s m args below meth c A Q ls hx hb hml hown hts hK hA hret hP hD hS hl
  have hown : s.vm.findClass RX7 = some m.cls := hown
  have hl : lv_has ls 2 [(0, .ref txo), (1, .int x1)] := hl
  have iw7 : ∀ w ∈ u_ws RX7 TX7 5, w ∈ wsX7_add := (fun _ h => List.mem_cons_of_mem _ (List.mem_append_right _ h))
  have k0 : (Cond.fieldLink RX7 19 "KingRansom$Text" "length" "I").before args s = true := hts _ (List.mem_of_getElem? (i := 1) rfl)
  have k1 : (Cond.fieldLink RX7 9 "KingRansom$Text" "signs" "[I").before args s = true := hts _ (List.mem_of_getElem? (i := 2) rfl)
  unfold pX7_add at hres
  refine lv_aload_n hx hb dX7_add_0 rfl (lv_at hl 0 rfl) ?_
  refine va_get (D := D) (ci := 7) (v := .int tx_length) (C := RX7) (T := TX7) (N := 5) hx hb hts iw7 hown hK.1 hP 0 rfl rfl 1 (by decide) k0 (fun _ h9 => h9) rfl dX7_add_1 ?_
  refine lv_sipush (v := 240) hx hb dX7_add_4 (by decide) ?_
  refine lv_icmp_lt (tgt := 12) hx hb dX7_add_7 (by decide) (fun c1 => ?_) (fun c1 => ?_)
  · replace hres := og_t c1 hres
    refine lv_aload_n hx hb dX7_add_12 rfl (lv_at hl 0 rfl) ?_
    refine va_get (D := D) (ci := 7) (v := .ref tx_signsA) (C := RX7) (T := TX7) (N := 5) hx hb hts iw7 hown hK.1 hP 0 rfl rfl 0 (by decide) k1 (fun _ h9 => h9) rfl dX7_add_13 ?_
    refine lv_aload_n hx hb dX7_add_16 rfl (lv_at hl 0 rfl) ?_
    refine va_get (D := D) (ci := 7) (v := .int tx_length) (C := RX7) (T := TX7) (N := 5) hx hb hts iw7 hown hK.1 hP 0 rfl rfl 1 (by decide) k0 (fun _ h9 => h9) rfl dX7_add_17 ?_
    refine lv_iload_n hx hb dX7_add_20 rfl (lv_at hl 1 rfl) ?_
    obtain ⟨g2, hres⟩ := og_no hres
    refine kr_iast (f := tx_signs) (j := tx_length.toNatClampNeg) (x := x1) hx hb hK hP hD hS 1 rfl g2 rfl dX7_add_21 (fun H locs hP hD hS => ?_)
    have hP : va_P D vwCl ([(txo, .inr (7, [.ref tx_signsA, .int tx_length, .int tx_at, .int tx_fault, .int tx_place])), (tx_signsA, .inl (κ 0, 240, .inl (upd tx_signs tx_length.toNatClampNeg x1)))]) H := hP
    have hD : va_D A ([(txo, .inr (7, [.ref tx_signsA, .int tx_length, .int tx_at, .int tx_fault, .int tx_place])), (tx_signsA, .inl (κ 0, 240, .inl (upd tx_signs tx_length.toNatClampNeg x1)))]) := hD
    refine lv_aload_n hx hb dX7_add_22 rfl (lv_at hl 0 rfl) ?_
    refine lv_dup hx hb dX7_add_23 rfl ?_
    refine va_get (D := D) (ci := 7) (v := .int tx_length) (C := RX7) (T := TX7) (N := 5) hx hb hts iw7 hown hK.1 hP 0 rfl rfl 1 (by decide) k0 (fun _ h9 => h9) rfl dX7_add_24 ?_
    refine lv_iconst (v := 1) hx hb dX7_add_27 (by decide) ?_
    refine lv_iadd hx hb dX7_add_28 ?_
    refine va_put (D := D) (ci := 7) (v := .int (tx_length + 1)) (ty := .int) (C := RX7) (T := TX7) (N := 5) hx hb hts iw7 tyX7 tyX7_ok nmX7 hown hK.1 hP hD hS 0 rfl rfl 1 (by decide) k0 (fun _ h9 => h9) rfl (tyX7_ok 1 (by decide)) rfl rfl (Nat.le_of_ble_eq_true rfl) dX7_add_29 (fun H locs hP hD hS => ?_)
    have hP : va_P D vwCl ([(txo, .inr (7, [.ref tx_signsA, .int (tx_length + 1), .int tx_at, .int tx_fault, .int tx_place])), (tx_signsA, .inl (κ 0, 240, .inl (upd tx_signs tx_length.toNatClampNeg x1)))]) H := hP
    have hD : va_D A ([(txo, .inr (7, [.ref tx_signsA, .int (tx_length + 1), .int tx_at, .int tx_fault, .int tx_place])), (tx_signsA, .inl (κ 0, 240, .inl (upd tx_signs tx_length.toNatClampNeg x1)))]) := hD
    refine lv_iconst (v := 1) hx hb dX7_add_32 (by decide) ?_
    have hres := Option.some.inj hres
    have h0 := (Prod.mk.inj hres).1
    replace hres := (Prod.mk.inj hres).2
    have h1 := (Prod.mk.inj hres).1
    replace hres := (Prod.mk.inj hres).2
    have h2 := hres
    subst h0
    subst h1
    subst h2
    exact hret _ _ _ _ (by decide) hP hD hS dX7_add_33
  · replace hres := og_f c1 hres
    refine lv_iconst (v := 0) hx hb dX7_add_10 (by decide) ?_
    have hres := Option.some.inj hres
    have h0 := (Prod.mk.inj hres).1
    replace hres := (Prod.mk.inj hres).2
    have h1 := (Prod.mk.inj hres).1
    replace hres := (Prod.mk.inj hres).2
    have h2 := hres
    subst h0
    subst h1
    subst h2
    exact hret _ _ _ _ (by decide) hP hD hS dX7_add_11

def pX7_here (tx_signs : Nat → Int32) (tx_length : Int32) (tx_at : Int32) : Option (Int32) :=
    (if tx_at < 0 then
    some ((-1))
    else
    (if tx_length ≤ tx_at then
    some ((-1))
    else
    if tx_at < 0 ∨ 240 ≤ tx_at.toNatClampNeg then none else
    some ((tx_signs tx_at.toNatClampNeg))))
set_option maxHeartbeats 8000000 in
set_option maxRecDepth 100000 in
theorem tX7_here (l : Launch) (D : va_G) (κ : Nat → ClassId) (txo : Nat) (tx_signsA : Nat) (tx_signs : Nat → Int32) (tx_length : Int32) (tx_at : Int32) (tx_fault : Int32) (tx_place : Int32) (r0 : Int32) (hres : pX7_here tx_signs tx_length tx_at = some (r0)) : krI l yX7_here wsX7_here { frames := 0, cells := 0, slots := 0, locals := 0 } D κ [.ref txo] ([(txo, .inr (7, [.ref tx_signsA, .int tx_length, .int tx_at, .int tx_fault, .int tx_place])), (tx_signsA, .inl (κ 0, 240, .inl tx_signs))]) ([(txo, .inr (7, [.ref tx_signsA, .int tx_length, .int tx_at, .int tx_fault, .int tx_place])), (tx_signsA, .inl (κ 0, 240, .inl tx_signs))]) r0 := by
  refine krI_of (cc := cX7_here) (maxL := 1) (rt := .int) (by decide) rfl (Nat.le_of_ble_eq_true rfl) ?_
  intro p e s m args below meth c A Q ls hx hb hml hown hts hK hA hret hP hD hS hl
  have hown : s.vm.findClass RX7 = some m.cls := hown
  have hl : lv_has ls 1 [(0, .ref txo)] := hl
  have iw7 : ∀ w ∈ u_ws RX7 TX7 5, w ∈ wsX7_here := (fun _ h => List.mem_cons_of_mem _ (List.mem_append_right _ h))
  have k0 : (Cond.fieldLink RX7 27 "KingRansom$Text" "at" "I").before args s = true := hts _ (List.mem_of_getElem? (i := 1) rfl)
  have k1 : (Cond.fieldLink RX7 19 "KingRansom$Text" "length" "I").before args s = true := hts _ (List.mem_of_getElem? (i := 2) rfl)
  have k2 : (Cond.fieldLink RX7 9 "KingRansom$Text" "signs" "[I").before args s = true := hts _ (List.mem_of_getElem? (i := 3) rfl)
  unfold pX7_here at hres
  refine lv_aload_n hx hb dX7_here_0 rfl (lv_at hl 0 rfl) ?_
  refine va_get (D := D) (ci := 7) (v := .int tx_at) (C := RX7) (T := TX7) (N := 5) hx hb hts iw7 hown hK.1 hP 0 rfl rfl 2 (by decide) k0 (fun _ h9 => h9) rfl dX7_here_1 ?_
  refine lv_if_lt (tgt := 30) hx hb dX7_here_4 (by decide) (fun c1 => ?_) (fun c1 => ?_)
  · replace hres := og_t c1 hres
    refine lv_iconst (v := (-1)) hx hb dX7_here_30 (by decide) ?_
    have hres := Option.some.inj hres
    have h0 := hres
    subst h0
    exact hret _ _ _ _ (vp_nar_int _) hP hD hS dX7_here_31
  · replace hres := og_f c1 hres
    refine lv_aload_n hx hb dX7_here_7 rfl (lv_at hl 0 rfl) ?_
    refine va_get (D := D) (ci := 7) (v := .int tx_at) (C := RX7) (T := TX7) (N := 5) hx hb hts iw7 hown hK.1 hP 0 rfl rfl 2 (by decide) k0 (fun _ h9 => h9) rfl dX7_here_8 ?_
    refine lv_aload_n hx hb dX7_here_11 rfl (lv_at hl 0 rfl) ?_
    refine va_get (D := D) (ci := 7) (v := .int tx_length) (C := RX7) (T := TX7) (N := 5) hx hb hts iw7 hown hK.1 hP 0 rfl rfl 1 (by decide) k1 (fun _ h9 => h9) rfl dX7_here_12 ?_
    refine lv_icmp_ge (tgt := 30) hx hb dX7_here_15 (by decide) (fun c2 => ?_) (fun c2 => ?_)
    · replace hres := og_t c2 hres
      refine lv_iconst (v := (-1)) hx hb dX7_here_30 (by decide) ?_
      have hres := Option.some.inj hres
      have h0 := hres
      subst h0
      exact hret _ _ _ _ (vp_nar_int _) hP hD hS dX7_here_31
    · replace hres := og_f c2 hres
      refine lv_aload_n hx hb dX7_here_18 rfl (lv_at hl 0 rfl) ?_
      refine va_get (D := D) (ci := 7) (v := .ref tx_signsA) (C := RX7) (T := TX7) (N := 5) hx hb hts iw7 hown hK.1 hP 0 rfl rfl 0 (by decide) k2 (fun _ h9 => h9) rfl dX7_here_19 ?_
      refine lv_aload_n hx hb dX7_here_22 rfl (lv_at hl 0 rfl) ?_
      refine va_get (D := D) (ci := 7) (v := .int tx_at) (C := RX7) (T := TX7) (N := 5) hx hb hts iw7 hown hK.1 hP 0 rfl rfl 2 (by decide) k0 (fun _ h9 => h9) rfl dX7_here_23 ?_
      obtain ⟨g3, hres⟩ := og_no hres
      refine kr_iald (f := tx_signs) (j := tx_at.toNatClampNeg) hx hb hK hP 1 rfl g3 rfl dX7_here_26 ?_
      refine lv_goto (tgt := 31) hx hb dX7_here_27 (by decide) ?_
      have hres := Option.some.inj hres
      have h0 := hres
      subst h0
      exact hret _ _ _ _ (vp_nar_int _) hP hD hS dX7_here_31

def pX7_isFigure (x1 : Int32) : Option (Int32) :=
    (if x1 < 48 then
    some (0)
    else
    (if 57 < x1 then
    some (0)
    else
    some (1)))
set_option maxHeartbeats 8000000 in
set_option maxRecDepth 100000 in
theorem tX7_isFigure (l : Launch) (D : va_G) (κ : Nat → ClassId) (x1 : Int32) (r0 : Int32) (hres : pX7_isFigure x1 = some (r0)) : krI l yX7_isFigure wsX7_isFigure { frames := 0, cells := 0, slots := 0, locals := 0 } D κ [.int x1] ([]) ([]) r0 := by
  refine krI_of (cc := cX7_isFigure) (maxL := 1) (rt := .boolean) (by decide) rfl (Nat.le_of_ble_eq_true rfl) ?_
  intro p e s m args below meth c A Q ls hx hb hml hown hts hK hA hret hP hD hS hl
  have hown : s.vm.findClass RX7 = some m.cls := hown
  have hl : lv_has ls 1 [(0, .int x1)] := hl
  unfold pX7_isFigure at hres
  refine lv_iload_n hx hb dX7_isFigure_0 rfl (lv_at hl 0 rfl) ?_
  refine lv_bipush (v := 48) hx hb dX7_isFigure_1 (by decide) ?_
  refine lv_icmp_lt (tgt := 16) hx hb dX7_isFigure_3 (by decide) (fun c1 => ?_) (fun c1 => ?_)
  · replace hres := og_t c1 hres
    refine lv_iconst (v := 0) hx hb dX7_isFigure_16 (by decide) ?_
    have hres := Option.some.inj hres
    have h0 := hres
    subst h0
    exact hret _ _ _ _ (by decide) hP hD hS dX7_isFigure_17
  · replace hres := og_f c1 hres
    refine lv_iload_n hx hb dX7_isFigure_6 rfl (lv_at hl 0 rfl) ?_
    refine lv_bipush (v := 57) hx hb dX7_isFigure_7 (by decide) ?_
    refine lv_icmp_gt (tgt := 16) hx hb dX7_isFigure_9 (by decide) (fun c2 => ?_) (fun c2 => ?_)
    · replace hres := og_t c2 hres
      refine lv_iconst (v := 0) hx hb dX7_isFigure_16 (by decide) ?_
      have hres := Option.some.inj hres
      have h0 := hres
      subst h0
      exact hret _ _ _ _ (by decide) hP hD hS dX7_isFigure_17
    · replace hres := og_f c2 hres
      refine lv_iconst (v := 1) hx hb dX7_isFigure_12 (by decide) ?_
      refine lv_goto (tgt := 17) hx hb dX7_isFigure_13 (by decide) ?_
      have hres := Option.some.inj hres
      have h0 := hres
      subst h0
      exact hret _ _ _ _ (by decide) hP hD hS dX7_isFigure_17

def pX7_fail (x1 : Int32) (x2 : Int32) (tx_fault : Int32) (tx_place : Int32) : Option (Int32 × Int32) :=
    (if tx_fault = 0 then
    some (x1, x2)
    else
    some (tx_fault, tx_place))
set_option maxHeartbeats 8000000 in
set_option maxRecDepth 100000 in
theorem tX7_fail (l : Launch) (D : va_G) (κ : Nat → ClassId) (txo : Nat) (tx_signsA : Nat) (tx_signs : Nat → Int32) (tx_length : Int32) (tx_at : Int32) (tx_fault : Int32) (tx_place : Int32) (x1 : Int32) (x2 : Int32) (z_tx_fault : Int32) (z_tx_place : Int32) (hres : pX7_fail x1 x2 tx_fault tx_place = some (z_tx_fault, z_tx_place)) : krV l yX7_fail wsX7_fail { frames := 0, cells := 0, slots := 0, locals := 0 } D κ [.ref txo, .int x1, .int x2] ([(txo, .inr (7, [.ref tx_signsA, .int tx_length, .int tx_at, .int tx_fault, .int tx_place])), (tx_signsA, .inl (κ 0, 240, .inl tx_signs))]) ([(txo, .inr (7, [.ref tx_signsA, .int tx_length, .int tx_at, .int z_tx_fault, .int z_tx_place])), (tx_signsA, .inl (κ 0, 240, .inl tx_signs))]) := by
  refine krV_of (cc := cX7_fail) (maxL := 3) (by decide) rfl (Nat.le_of_ble_eq_true rfl) ?_
  intro p e s m args below meth c A Q ls hx hb hml hown hts hK hA hret hP hD hS hl
  have hown : s.vm.findClass RX7 = some m.cls := hown
  have hl : lv_has ls 3 [(0, .ref txo), (1, .int x1), (2, .int x2)] := hl
  have iw7 : ∀ w ∈ u_ws RX7 TX7 5, w ∈ wsX7_fail := (fun _ h => List.mem_cons_of_mem _ (List.mem_append_right _ h))
  have k0 : (Cond.fieldLink RX7 30 "KingRansom$Text" "fault" "I").before args s = true := hts _ (List.mem_of_getElem? (i := 1) rfl)
  have k1 : (Cond.fieldLink RX7 15 "KingRansom$Text" "place" "I").before args s = true := hts _ (List.mem_of_getElem? (i := 2) rfl)
  unfold pX7_fail at hres
  refine lv_aload_n hx hb dX7_fail_0 rfl (lv_at hl 0 rfl) ?_
  refine va_get (D := D) (ci := 7) (v := .int tx_fault) (C := RX7) (T := TX7) (N := 5) hx hb hts iw7 hown hK.1 hP 0 rfl rfl 3 (by decide) k0 (fun _ h9 => h9) rfl dX7_fail_1 ?_
  refine lv_if_ne (tgt := 17) hx hb dX7_fail_4 (by decide) (fun c1 => ?_) (fun c1 => ?_)
  · replace hres := og_f c1 hres
    have hres := Option.some.inj hres
    have h0 := (Prod.mk.inj hres).1
    replace hres := (Prod.mk.inj hres).2
    have h1 := hres
    subst h0
    subst h1
    exact hret _ _ _ _ hP hD hS dX7_fail_17
  · replace hres := og_t c1 hres
    refine lv_aload_n hx hb dX7_fail_7 rfl (lv_at hl 0 rfl) ?_
    refine lv_iload_n hx hb dX7_fail_8 rfl (lv_at hl 1 rfl) ?_
    refine va_put (D := D) (ci := 7) (v := .int x1) (ty := .int) (C := RX7) (T := TX7) (N := 5) hx hb hts iw7 tyX7 tyX7_ok nmX7 hown hK.1 hP hD hS 0 rfl rfl 3 (by decide) k0 (fun _ h9 => h9) rfl (tyX7_ok 3 (by decide)) rfl rfl (Nat.le_of_ble_eq_true rfl) dX7_fail_9 (fun H locs hP hD hS => ?_)
    have hP : va_P D vwCl ([(txo, .inr (7, [.ref tx_signsA, .int tx_length, .int tx_at, .int x1, .int tx_place])), (tx_signsA, .inl (κ 0, 240, .inl tx_signs))]) H := hP
    have hD : va_D A ([(txo, .inr (7, [.ref tx_signsA, .int tx_length, .int tx_at, .int x1, .int tx_place])), (tx_signsA, .inl (κ 0, 240, .inl tx_signs))]) := hD
    refine lv_aload_n hx hb dX7_fail_12 rfl (lv_at hl 0 rfl) ?_
    refine lv_iload_n hx hb dX7_fail_13 rfl (lv_at hl 2 rfl) ?_
    refine va_put (D := D) (ci := 7) (v := .int x2) (ty := .int) (C := RX7) (T := TX7) (N := 5) hx hb hts iw7 tyX7 tyX7_ok nmX7 hown hK.1 hP hD hS 0 rfl rfl 4 (by decide) k1 (fun _ h9 => h9) rfl (tyX7_ok 4 (by decide)) rfl rfl (Nat.le_of_ble_eq_true rfl) dX7_fail_14 (fun H locs hP hD hS => ?_)
    have hP : va_P D vwCl ([(txo, .inr (7, [.ref tx_signsA, .int tx_length, .int tx_at, .int x1, .int x2])), (tx_signsA, .inl (κ 0, 240, .inl tx_signs))]) H := hP
    have hD : va_D A ([(txo, .inr (7, [.ref tx_signsA, .int tx_length, .int tx_at, .int x1, .int x2])), (tx_signsA, .inl (κ 0, 240, .inl tx_signs))]) := hD
    have hres := Option.some.inj hres
    have h0 := (Prod.mk.inj hres).1
    replace hres := (Prod.mk.inj hres).2
    have h1 := hres
    subst h0
    subst h1
    exact hret _ _ _ _ hP hD hS dX7_fail_17

def pX7_skipBlanks_L2 (tx_signs : Nat → Int32) (tx_length : Int32) : Nat → Int32 → Int32 → Option (Int32)
  | 0, _, _ => none
  | n2 + 1, v1, w_tx_at =>
    (if 240 ≤ v1 then
    some (w_tx_at)
    else
    kb1 (pX7_here tx_signs tx_length w_tx_at) fun r2 =>
    (if r2 = 32 then
    pX7_skipBlanks_L2 tx_signs tx_length n2 (v1 + 1) (w_tx_at + 1)
    else
    some (w_tx_at)))
def pX7_skipBlanks (N : Nat) (tx_signs : Nat → Int32) (tx_length : Int32) (tx_at : Int32) : Option (Int32) :=
    pX7_skipBlanks_L2 tx_signs tx_length N 0 tx_at
set_option maxHeartbeats 8000000 in
set_option maxRecDepth 100000 in
theorem tX7_skipBlanks (l : Launch) (D : va_G) (κ : Nat → ClassId) (txo : Nat) (tx_signsA : Nat) (N : Nat) (tx_signs : Nat → Int32) (tx_length : Int32) (tx_at : Int32) (tx_fault : Int32) (tx_place : Int32) (z_tx_at : Int32) (hres : pX7_skipBlanks N tx_signs tx_length tx_at = some (z_tx_at)) : krV l yX7_skipBlanks wsX7_skipBlanks { frames := 1, cells := 0, slots := 0, locals := 100 } D κ [.ref txo] ([(txo, .inr (7, [.ref tx_signsA, .int tx_length, .int tx_at, .int tx_fault, .int tx_place])), (tx_signsA, .inl (κ 0, 240, .inl tx_signs))]) ([(txo, .inr (7, [.ref tx_signsA, .int tx_length, .int z_tx_at, .int tx_fault, .int tx_place])), (tx_signsA, .inl (κ 0, 240, .inl tx_signs))]) := by
  refine krV_of (cc := cX7_skipBlanks) (maxL := 2) (by decide) rfl (Nat.le_of_ble_eq_true rfl) ?_
  intro p e s m args below meth c A Q ls hx hb hml hown hts hK hA hret hP hD hS hl
  have hown : s.vm.findClass RX7 = some m.cls := hown
  have hl : lv_has ls 2 [(0, .ref txo)] := hl
  have iw7 : ∀ w ∈ u_ws RX7 TX7 5, w ∈ wsX7_skipBlanks := (fun _ h => List.mem_cons_of_mem _ (List.mem_append_right _ h))
  have k0 : (Cond.fieldLink RX7 27 "KingRansom$Text" "at" "I").before args s = true := hts _ (List.mem_of_getElem? (i := 1) rfl)
  have L2 : ∀ (n2 : Nat) (v1 : Int32) (w_tx_at : Int32) (H : Heap) (locs : List Loc) (ls : Array Slot), va_P D vwCl ([(txo, .inr (7, [.ref tx_signsA, .int tx_length, .int w_tx_at, .int tx_fault, .int tx_place])), (tx_signsA, .inl (κ 0, 240, .inl tx_signs))]) H → va_D A ([(txo, .inr (7, [.ref tx_signsA, .int tx_length, .int w_tx_at, .int tx_fault, .int tx_place])), (tx_signsA, .inl (κ 0, 240, .inl tx_signs))]) → va_S A s.heap H locs → lv_has ls 2 [(0, .ref txo), (1, .int v1)] → pX7_skipBlanks_L2 tx_signs tx_length n2 v1 w_tx_at = some (z_tx_at) → W p l e { frames := 1, cells := 0, slots := 0, locals := 100 } s m args below meth c H locs 0 0 Q (F0 m 2 ls []) := by
    intro n2
    induction n2 with
    | zero =>
      intro v1 w_tx_at H locs ls hP hD hS hl hres
      exact absurd (show none = some _ from hres) (by simp)
    | succ n2 ih2 =>
      intro v1 w_tx_at H locs ls hP hD hS hl hres
      rw [pX7_skipBlanks_L2] at hres
      refine lv_iload_n hx hb dX7_skipBlanks_2 rfl (lv_at hl 1 rfl) ?_
      refine lv_sipush (v := 240) hx hb dX7_skipBlanks_3 (by decide) ?_
      refine lv_icmp_ge (tgt := 34) hx hb dX7_skipBlanks_6 (by decide) (fun c1 => ?_) (fun c1 => ?_)
      · replace hres := og_t c1 hres
        have hres := Option.some.inj hres
        have h0 := hres
        subst h0
        exact hret _ _ _ _ hP hD hS dX7_skipBlanks_34
      · replace hres := og_f c1 hres
        refine lv_aload_n hx hb dX7_skipBlanks_9 rfl (lv_at hl 0 rfl) ?_
        obtain ⟨r2, hc3, hres⟩ := kb1_s hres
        refine krI_V (As := []) (rest := []) (wr := []) ⟨hx, hb, hml, hown, hts⟩ hK (tX7_here l D κ txo tx_signsA tx_signs tx_length w_tx_at tx_fault tx_place r2 hc3) (cwV 0 hts gX7_skipBlanks_X7_here rfl rfl rfl (by decide +kernel) ⟨(Nat.le_of_ble_eq_true rfl), (Nat.le_of_ble_eq_true rfl)⟩) rfl rfl rfl hP hD hS hA [0, 1] [] rfl rfl rfl rfl (by decide) rfl hl.1 rfl (Nat.le_of_ble_eq_true rfl) dX7_skipBlanks_10 ⟨Nat.zero_le _, Nat.zero_le _⟩ (fun H locs hP hD hS => ?_)
        have hP : va_P D vwCl ([(txo, .inr (7, [.ref tx_signsA, .int tx_length, .int w_tx_at, .int tx_fault, .int tx_place])), (tx_signsA, .inl (κ 0, 240, .inl tx_signs))]) H := hP
        have hD : va_D A ([(txo, .inr (7, [.ref tx_signsA, .int tx_length, .int w_tx_at, .int tx_fault, .int tx_place])), (tx_signsA, .inl (κ 0, 240, .inl tx_signs))]) := hD
        refine lv_bipush (v := 32) hx hb dX7_skipBlanks_13 (by decide) ?_
        refine lv_icmp_ne (tgt := 34) hx hb dX7_skipBlanks_15 (by decide) (fun c4 => ?_) (fun c4 => ?_)
        · replace hres := og_f c4 hres
          have hres := Option.some.inj hres
          have h0 := hres
          subst h0
          exact hret _ _ _ _ hP hD hS dX7_skipBlanks_34
        · replace hres := og_t c4 hres
          refine lv_aload_n hx hb dX7_skipBlanks_18 rfl (lv_at hl 0 rfl) ?_
          refine lv_dup hx hb dX7_skipBlanks_19 rfl ?_
          refine va_get (D := D) (ci := 7) (v := .int w_tx_at) (C := RX7) (T := TX7) (N := 5) hx hb hts iw7 hown hK.1 hP 0 rfl rfl 2 (by decide) k0 (fun _ h9 => h9) rfl dX7_skipBlanks_20 ?_
          refine lv_iconst (v := 1) hx hb dX7_skipBlanks_23 (by decide) ?_
          refine lv_iadd hx hb dX7_skipBlanks_24 ?_
          refine va_put (D := D) (ci := 7) (v := .int (w_tx_at + 1)) (ty := .int) (C := RX7) (T := TX7) (N := 5) hx hb hts iw7 tyX7 tyX7_ok nmX7 hown hK.1 hP hD hS 0 rfl rfl 2 (by decide) k0 (fun _ h9 => h9) rfl (tyX7_ok 2 (by decide)) rfl rfl (Nat.le_of_ble_eq_true rfl) dX7_skipBlanks_25 (fun H locs hP hD hS => ?_)
          have hP : va_P D vwCl ([(txo, .inr (7, [.ref tx_signsA, .int tx_length, .int (w_tx_at + 1), .int tx_fault, .int tx_place])), (tx_signsA, .inl (κ 0, 240, .inl tx_signs))]) H := hP
          have hD : va_D A ([(txo, .inr (7, [.ref tx_signsA, .int tx_length, .int (w_tx_at + 1), .int tx_fault, .int tx_place])), (tx_signsA, .inl (κ 0, 240, .inl tx_signs))]) := hD
          refine lv_iinc (v := (v1 + 1)) (lv' := [(1, .int (v1 + 1)), (0, .ref txo)]) hx hb dX7_skipBlanks_28 hl (k := 1) rfl rfl (by decide) rfl (fun ls hl => ?_)
          refine lv_goto (tgt := 2) hx hb dX7_skipBlanks_31 (by decide) ?_
          exact ih2 (v1 + 1) (w_tx_at + 1) _ _ _ hP hD hS (lv_sub hl [1, 0] rfl) hres
  unfold pX7_skipBlanks at hres
  refine lv_iconst (v := 0) hx hb dX7_skipBlanks_0 (by decide) ?_
  refine lv_istore_n (lv' := [(1, .int 0), (0, .ref txo)]) hx hb dX7_skipBlanks_1 rfl hl (by decide) rfl (fun ls hl => ?_)
  exact L2 N 0 tx_at _ _ _ hP hD hS (lv_sub hl [1, 0] rfl) hres

def pX7_takes (N : Nat) (x1 : Int32) (tx_signs : Nat → Int32) (tx_length : Int32) (tx_at : Int32) : Option (Int32 × Int32) :=
    kb1 (pX7_skipBlanks N tx_signs tx_length tx_at) fun w1 =>
    kb1 (pX7_here tx_signs tx_length w1) fun r3 =>
    (if r3 = x1 then
    some (1, (w1 + 1))
    else
    some (0, w1))
set_option maxHeartbeats 8000000 in
set_option maxRecDepth 100000 in
theorem tX7_takes (l : Launch) (D : va_G) (κ : Nat → ClassId) (txo : Nat) (tx_signsA : Nat) (N : Nat) (tx_signs : Nat → Int32) (tx_length : Int32) (tx_at : Int32) (tx_fault : Int32) (tx_place : Int32) (x1 : Int32) (r0 : Int32) (z_tx_at : Int32) (hres : pX7_takes N x1 tx_signs tx_length tx_at = some (r0, z_tx_at)) : krI l yX7_takes wsX7_takes { frames := 2, cells := 0, slots := 0, locals := 200 } D κ [.ref txo, .int x1] ([(txo, .inr (7, [.ref tx_signsA, .int tx_length, .int tx_at, .int tx_fault, .int tx_place])), (tx_signsA, .inl (κ 0, 240, .inl tx_signs))]) ([(txo, .inr (7, [.ref tx_signsA, .int tx_length, .int z_tx_at, .int tx_fault, .int tx_place])), (tx_signsA, .inl (κ 0, 240, .inl tx_signs))]) r0 := by
  refine krI_of (cc := cX7_takes) (maxL := 2) (rt := .boolean) (by decide) rfl (Nat.le_of_ble_eq_true rfl) ?_
  intro p e s m args below meth c A Q ls hx hb hml hown hts hK hA hret hP hD hS hl
  have hown : s.vm.findClass RX7 = some m.cls := hown
  have hl : lv_has ls 2 [(0, .ref txo), (1, .int x1)] := hl
  have iw7 : ∀ w ∈ u_ws RX7 TX7 5, w ∈ wsX7_takes := (fun _ h => List.mem_cons_of_mem _ (List.mem_append_right _ h))
  have k0 : (Cond.fieldLink RX7 27 "KingRansom$Text" "at" "I").before args s = true := hts _ (List.mem_of_getElem? (i := 1) rfl)
  unfold pX7_takes at hres
  refine lv_aload_n hx hb dX7_takes_0 rfl (lv_at hl 0 rfl) ?_
  obtain ⟨w1, hc2, hres⟩ := kb1_s hres
  refine krV_V (As := []) (rest := []) (wr := []) ⟨hx, hb, hml, hown, hts⟩ hK (tX7_skipBlanks l D κ txo tx_signsA N tx_signs tx_length tx_at tx_fault tx_place w1 hc2) (cwV 0 hts gX7_takes_X7_skipBlanks rfl rfl rfl (by decide +kernel) ⟨(Nat.le_of_ble_eq_true rfl), (Nat.le_of_ble_eq_true rfl)⟩) rfl rfl rfl hP hD hS hA [0, 1] [] rfl rfl rfl rfl (by decide) rfl hl.1 rfl (Nat.le_of_ble_eq_true rfl) dX7_takes_1 ⟨Nat.zero_le _, Nat.zero_le _⟩ (fun H locs hP hD hS => ?_)
  have hP : va_P D vwCl ([(txo, .inr (7, [.ref tx_signsA, .int tx_length, .int w1, .int tx_fault, .int tx_place])), (tx_signsA, .inl (κ 0, 240, .inl tx_signs))]) H := hP
  have hD : va_D A ([(txo, .inr (7, [.ref tx_signsA, .int tx_length, .int w1, .int tx_fault, .int tx_place])), (tx_signsA, .inl (κ 0, 240, .inl tx_signs))]) := hD
  refine lv_aload_n hx hb dX7_takes_4 rfl (lv_at hl 0 rfl) ?_
  obtain ⟨r3, hc4, hres⟩ := kb1_s hres
  refine krI_V (As := []) (rest := []) (wr := []) ⟨hx, hb, hml, hown, hts⟩ hK (tX7_here l D κ txo tx_signsA tx_signs tx_length w1 tx_fault tx_place r3 hc4) (cwV 0 hts gX7_takes_X7_here rfl rfl rfl (by decide +kernel) ⟨(Nat.le_of_ble_eq_true rfl), (Nat.le_of_ble_eq_true rfl)⟩) rfl rfl rfl hP hD hS hA [0, 1] [] rfl rfl rfl rfl (by decide) rfl hl.1 rfl (Nat.le_of_ble_eq_true rfl) dX7_takes_5 ⟨Nat.zero_le _, Nat.zero_le _⟩ (fun H locs hP hD hS => ?_)
  have hP : va_P D vwCl ([(txo, .inr (7, [.ref tx_signsA, .int tx_length, .int w1, .int tx_fault, .int tx_place])), (tx_signsA, .inl (κ 0, 240, .inl tx_signs))]) H := hP
  have hD : va_D A ([(txo, .inr (7, [.ref tx_signsA, .int tx_length, .int w1, .int tx_fault, .int tx_place])), (tx_signsA, .inl (κ 0, 240, .inl tx_signs))]) := hD
  refine lv_iload_n hx hb dX7_takes_8 rfl (lv_at hl 1 rfl) ?_
  refine lv_icmp_eq (tgt := 14) hx hb dX7_takes_9 (by decide) (fun c5 => ?_) (fun c5 => ?_)
  · replace hres := og_t c5 hres
    refine lv_aload_n hx hb dX7_takes_14 rfl (lv_at hl 0 rfl) ?_
    refine lv_dup hx hb dX7_takes_15 rfl ?_
    refine va_get (D := D) (ci := 7) (v := .int w1) (C := RX7) (T := TX7) (N := 5) hx hb hts iw7 hown hK.1 hP 0 rfl rfl 2 (by decide) k0 (fun _ h9 => h9) rfl dX7_takes_16 ?_
    refine lv_iconst (v := 1) hx hb dX7_takes_19 (by decide) ?_
    refine lv_iadd hx hb dX7_takes_20 ?_
    refine va_put (D := D) (ci := 7) (v := .int (w1 + 1)) (ty := .int) (C := RX7) (T := TX7) (N := 5) hx hb hts iw7 tyX7 tyX7_ok nmX7 hown hK.1 hP hD hS 0 rfl rfl 2 (by decide) k0 (fun _ h9 => h9) rfl (tyX7_ok 2 (by decide)) rfl rfl (Nat.le_of_ble_eq_true rfl) dX7_takes_21 (fun H locs hP hD hS => ?_)
    have hP : va_P D vwCl ([(txo, .inr (7, [.ref tx_signsA, .int tx_length, .int (w1 + 1), .int tx_fault, .int tx_place])), (tx_signsA, .inl (κ 0, 240, .inl tx_signs))]) H := hP
    have hD : va_D A ([(txo, .inr (7, [.ref tx_signsA, .int tx_length, .int (w1 + 1), .int tx_fault, .int tx_place])), (tx_signsA, .inl (κ 0, 240, .inl tx_signs))]) := hD
    refine lv_iconst (v := 1) hx hb dX7_takes_24 (by decide) ?_
    have hres := Option.some.inj hres
    have h0 := (Prod.mk.inj hres).1
    replace hres := (Prod.mk.inj hres).2
    have h1 := hres
    subst h0
    subst h1
    exact hret _ _ _ _ (by decide) hP hD hS dX7_takes_25
  · replace hres := og_f c5 hres
    refine lv_iconst (v := 0) hx hb dX7_takes_12 (by decide) ?_
    have hres := Option.some.inj hres
    have h0 := (Prod.mk.inj hres).1
    replace hres := (Prod.mk.inj hres).2
    have h1 := hres
    subst h0
    subst h1
    exact hret _ _ _ _ (by decide) hP hD hS dX7_takes_13

def pX7_close (N : Nat) (tx_signs : Nat → Int32) (tx_length : Int32) (tx_at : Int32) (tx_fault : Int32) (tx_place : Int32) : Option (Int32 × Int32 × Int32) :=
    kb2 (pX7_takes N 59 tx_signs tx_length tx_at) fun r1 w2 =>
    (if r1 = 0 then
    kb2 (pX7_fail 1 w2 tx_fault tx_place) fun w5 w6 =>
    some (w2, w5, w6)
    else
    some (w2, tx_fault, tx_place))
set_option maxHeartbeats 8000000 in
set_option maxRecDepth 100000 in
theorem tX7_close (l : Launch) (D : va_G) (κ : Nat → ClassId) (txo : Nat) (tx_signsA : Nat) (N : Nat) (tx_signs : Nat → Int32) (tx_length : Int32) (tx_at : Int32) (tx_fault : Int32) (tx_place : Int32) (z_tx_at : Int32) (z_tx_fault : Int32) (z_tx_place : Int32) (hres : pX7_close N tx_signs tx_length tx_at tx_fault tx_place = some (z_tx_at, z_tx_fault, z_tx_place)) : krV l yX7_close wsX7_close { frames := 3, cells := 0, slots := 0, locals := 300 } D κ [.ref txo] ([(txo, .inr (7, [.ref tx_signsA, .int tx_length, .int tx_at, .int tx_fault, .int tx_place])), (tx_signsA, .inl (κ 0, 240, .inl tx_signs))]) ([(txo, .inr (7, [.ref tx_signsA, .int tx_length, .int z_tx_at, .int z_tx_fault, .int z_tx_place])), (tx_signsA, .inl (κ 0, 240, .inl tx_signs))]) := by
  refine krV_of (cc := cX7_close) (maxL := 1) (by decide) rfl (Nat.le_of_ble_eq_true rfl) ?_
  intro p e s m args below meth c A Q ls hx hb hml hown hts hK hA hret hP hD hS hl
  have hown : s.vm.findClass RX7 = some m.cls := hown
  have hl : lv_has ls 1 [(0, .ref txo)] := hl
  have iw7 : ∀ w ∈ u_ws RX7 TX7 5, w ∈ wsX7_close := (fun _ h => List.mem_cons_of_mem _ (List.mem_append_right _ h))
  have k0 : (Cond.fieldLink RX7 27 "KingRansom$Text" "at" "I").before args s = true := hts _ (List.mem_of_getElem? (i := 1) rfl)
  unfold pX7_close at hres
  refine lv_aload_n hx hb dX7_close_0 rfl (lv_at hl 0 rfl) ?_
  refine lv_bipush (v := 59) hx hb dX7_close_1 (by decide) ?_
  obtain ⟨r1, w2, hc3, hres⟩ := kb2_s hres
  refine krI_V (As := [.int 59]) (rest := []) (wr := []) ⟨hx, hb, hml, hown, hts⟩ hK (tX7_takes l D κ txo tx_signsA N tx_signs tx_length tx_at tx_fault tx_place 59 r1 w2 hc3) (cwV 1 hts gX7_close_X7_takes rfl rfl rfl (by decide +kernel) ⟨(Nat.le_of_ble_eq_true rfl), (Nat.le_of_ble_eq_true rfl)⟩) rfl rfl rfl hP hD hS hA [0, 1] [] rfl rfl rfl rfl (by decide) rfl hl.1 rfl (Nat.le_of_ble_eq_true rfl) dX7_close_3 ⟨Nat.zero_le _, Nat.zero_le _⟩ (fun H locs hP hD hS => ?_)
  have hP : va_P D vwCl ([(txo, .inr (7, [.ref tx_signsA, .int tx_length, .int w2, .int tx_fault, .int tx_place])), (tx_signsA, .inl (κ 0, 240, .inl tx_signs))]) H := hP
  have hD : va_D A ([(txo, .inr (7, [.ref tx_signsA, .int tx_length, .int w2, .int tx_fault, .int tx_place])), (tx_signsA, .inl (κ 0, 240, .inl tx_signs))]) := hD
  refine lv_if_ne (tgt := 18) hx hb dX7_close_6 (by decide) (fun c4 => ?_) (fun c4 => ?_)
  · replace hres := og_f c4 hres
    have hres := Option.some.inj hres
    have h0 := (Prod.mk.inj hres).1
    replace hres := (Prod.mk.inj hres).2
    have h1 := (Prod.mk.inj hres).1
    replace hres := (Prod.mk.inj hres).2
    have h2 := hres
    subst h0
    subst h1
    subst h2
    exact hret _ _ _ _ hP hD hS dX7_close_18
  · replace hres := og_t c4 hres
    refine lv_aload_n hx hb dX7_close_9 rfl (lv_at hl 0 rfl) ?_
    refine lv_iconst (v := 1) hx hb dX7_close_10 (by decide) ?_
    refine lv_aload_n hx hb dX7_close_11 rfl (lv_at hl 0 rfl) ?_
    refine va_get (D := D) (ci := 7) (v := .int w2) (C := RX7) (T := TX7) (N := 5) hx hb hts iw7 hown hK.1 hP 0 rfl rfl 2 (by decide) k0 (fun _ h9 => h9) rfl dX7_close_12 ?_
    obtain ⟨w5, w6, hc7, hres⟩ := kb2_s hres
    refine krV_V (As := [.int 1, .int w2]) (rest := []) (wr := []) ⟨hx, hb, hml, hown, hts⟩ hK (tX7_fail l D κ txo tx_signsA tx_signs tx_length w2 tx_fault tx_place 1 w2 w5 w6 hc7) (cwV 2 hts gX7_close_X7_fail rfl rfl rfl (by decide +kernel) ⟨(Nat.le_of_ble_eq_true rfl), (Nat.le_of_ble_eq_true rfl)⟩) rfl rfl rfl hP hD hS hA [0, 1] [] rfl rfl rfl rfl (by decide) rfl hl.1 rfl (Nat.le_of_ble_eq_true rfl) dX7_close_15 ⟨Nat.zero_le _, Nat.zero_le _⟩ (fun H locs hP hD hS => ?_)
    have hP : va_P D vwCl ([(txo, .inr (7, [.ref tx_signsA, .int tx_length, .int w2, .int w5, .int w6])), (tx_signsA, .inl (κ 0, 240, .inl tx_signs))]) H := hP
    have hD : va_D A ([(txo, .inr (7, [.ref tx_signsA, .int tx_length, .int w2, .int w5, .int w6])), (tx_signsA, .inl (κ 0, 240, .inl tx_signs))]) := hD
    have hres := Option.some.inj hres
    have h0 := (Prod.mk.inj hres).1
    replace hres := (Prod.mk.inj hres).2
    have h1 := (Prod.mk.inj hres).1
    replace hres := (Prod.mk.inj hres).2
    have h2 := hres
    subst h0
    subst h1
    subst h2
    exact hret _ _ _ _ hP hD hS dX7_close_18

def pX7_takeWord_L13 (tx_at : Int32) (w_tx_fault : Int32) (w_tx_place : Int32) : Option (Int32 × Int32 × Int32) :=
    some ((tx_at + 1), w_tx_fault, w_tx_place)
def pX7_takeWord (x1 : Int32) (tx_at : Int32) (tx_fault : Int32) (tx_place : Int32) : Option (Int32 × Int32 × Int32) :=
    (if x1 = 0 then
    pX7_takeWord_L13 tx_at tx_fault tx_place
    else
    kb2 (pX7_fail 3 tx_at tx_fault tx_place) fun w2 w3 =>
    pX7_takeWord_L13 tx_at w2 w3)
set_option maxHeartbeats 8000000 in
set_option maxRecDepth 100000 in
theorem tX7_takeWord (l : Launch) (D : va_G) (κ : Nat → ClassId) (txo : Nat) (tx_signsA : Nat) (tx_signs : Nat → Int32) (tx_length : Int32) (tx_at : Int32) (tx_fault : Int32) (tx_place : Int32) (x1 : Int32) (z_tx_at : Int32) (z_tx_fault : Int32) (z_tx_place : Int32) (hres : pX7_takeWord x1 tx_at tx_fault tx_place = some (z_tx_at, z_tx_fault, z_tx_place)) : krV l yX7_takeWord wsX7_takeWord { frames := 1, cells := 0, slots := 0, locals := 100 } D κ [.ref txo, .int x1] ([(txo, .inr (7, [.ref tx_signsA, .int tx_length, .int tx_at, .int tx_fault, .int tx_place])), (tx_signsA, .inl (κ 0, 240, .inl tx_signs))]) ([(txo, .inr (7, [.ref tx_signsA, .int tx_length, .int z_tx_at, .int z_tx_fault, .int z_tx_place])), (tx_signsA, .inl (κ 0, 240, .inl tx_signs))]) := by
  refine krV_of (cc := cX7_takeWord) (maxL := 2) (by decide) rfl (Nat.le_of_ble_eq_true rfl) ?_
  intro p e s m args below meth c A Q ls hx hb hml hown hts hK hA hret hP hD hS hl
  have hown : s.vm.findClass RX7 = some m.cls := hown
  have hl : lv_has ls 2 [(0, .ref txo), (1, .int x1)] := hl
  have iw7 : ∀ w ∈ u_ws RX7 TX7 5, w ∈ wsX7_takeWord := (fun _ h => List.mem_cons_of_mem _ (List.mem_append_right _ h))
  have k0 : (Cond.fieldLink RX7 27 "KingRansom$Text" "at" "I").before args s = true := hts _ (List.mem_of_getElem? (i := 1) rfl)
  have L13 : ∀ (w_tx_fault : Int32) (w_tx_place : Int32) (H : Heap) (locs : List Loc) (ls : Array Slot), va_P D vwCl ([(txo, .inr (7, [.ref tx_signsA, .int tx_length, .int tx_at, .int w_tx_fault, .int w_tx_place])), (tx_signsA, .inl (κ 0, 240, .inl tx_signs))]) H → va_D A ([(txo, .inr (7, [.ref tx_signsA, .int tx_length, .int tx_at, .int w_tx_fault, .int w_tx_place])), (tx_signsA, .inl (κ 0, 240, .inl tx_signs))]) → va_S A s.heap H locs → lv_has ls 2 [(0, .ref txo)] → pX7_takeWord_L13 tx_at w_tx_fault w_tx_place = some (z_tx_at, z_tx_fault, z_tx_place) → W p l e { frames := 1, cells := 0, slots := 0, locals := 100 } s m args below meth c H locs 0 0 Q (F0 m 13 ls []) := by
    intro w_tx_fault w_tx_place H locs ls hP hD hS hl hres
    unfold pX7_takeWord_L13 at hres
    refine lv_aload_n hx hb dX7_takeWord_13 rfl (lv_at hl 0 rfl) ?_
    refine lv_dup hx hb dX7_takeWord_14 rfl ?_
    refine va_get (D := D) (ci := 7) (v := .int tx_at) (C := RX7) (T := TX7) (N := 5) hx hb hts iw7 hown hK.1 hP 0 rfl rfl 2 (by decide) k0 (fun _ h9 => h9) rfl dX7_takeWord_15 ?_
    refine lv_iconst (v := 1) hx hb dX7_takeWord_18 (by decide) ?_
    refine lv_iadd hx hb dX7_takeWord_19 ?_
    refine va_put (D := D) (ci := 7) (v := .int (tx_at + 1)) (ty := .int) (C := RX7) (T := TX7) (N := 5) hx hb hts iw7 tyX7 tyX7_ok nmX7 hown hK.1 hP hD hS 0 rfl rfl 2 (by decide) k0 (fun _ h9 => h9) rfl (tyX7_ok 2 (by decide)) rfl rfl (Nat.le_of_ble_eq_true rfl) dX7_takeWord_20 (fun H locs hP hD hS => ?_)
    have hP : va_P D vwCl ([(txo, .inr (7, [.ref tx_signsA, .int tx_length, .int (tx_at + 1), .int w_tx_fault, .int w_tx_place])), (tx_signsA, .inl (κ 0, 240, .inl tx_signs))]) H := hP
    have hD : va_D A ([(txo, .inr (7, [.ref tx_signsA, .int tx_length, .int (tx_at + 1), .int w_tx_fault, .int w_tx_place])), (tx_signsA, .inl (κ 0, 240, .inl tx_signs))]) := hD
    have hres := Option.some.inj hres
    have h0 := (Prod.mk.inj hres).1
    replace hres := (Prod.mk.inj hres).2
    have h1 := (Prod.mk.inj hres).1
    replace hres := (Prod.mk.inj hres).2
    have h2 := hres
    subst h0
    subst h1
    subst h2
    exact hret _ _ _ _ hP hD hS dX7_takeWord_23
  unfold pX7_takeWord at hres
  refine lv_iload_n hx hb dX7_takeWord_0 rfl (lv_at hl 1 rfl) ?_
  refine lv_if_eq (tgt := 13) hx hb dX7_takeWord_1 (by decide) (fun c1 => ?_) (fun c1 => ?_)
  · replace hres := og_t c1 hres
    exact L13 tx_fault tx_place _ _ _ hP hD hS (lv_sub hl [0] rfl) hres
  · replace hres := og_f c1 hres
    refine lv_aload_n hx hb dX7_takeWord_4 rfl (lv_at hl 0 rfl) ?_
    refine lv_iconst (v := 3) hx hb dX7_takeWord_5 (by decide) ?_
    refine lv_aload_n hx hb dX7_takeWord_6 rfl (lv_at hl 0 rfl) ?_
    refine va_get (D := D) (ci := 7) (v := .int tx_at) (C := RX7) (T := TX7) (N := 5) hx hb hts iw7 hown hK.1 hP 0 rfl rfl 2 (by decide) k0 (fun _ h9 => h9) rfl dX7_takeWord_7 ?_
    obtain ⟨w2, w3, hc4, hres⟩ := kb2_s hres
    refine krV_V (As := [.int 3, .int tx_at]) (rest := []) (wr := []) ⟨hx, hb, hml, hown, hts⟩ hK (tX7_fail l D κ txo tx_signsA tx_signs tx_length tx_at tx_fault tx_place 3 tx_at w2 w3 hc4) (cwV 2 hts gX7_takeWord_X7_fail rfl rfl rfl (by decide +kernel) ⟨(Nat.le_of_ble_eq_true rfl), (Nat.le_of_ble_eq_true rfl)⟩) rfl rfl rfl hP hD hS hA [0, 1] [] rfl rfl rfl rfl (by decide) rfl hl.1 rfl (Nat.le_of_ble_eq_true rfl) dX7_takeWord_10 ⟨Nat.zero_le _, Nat.zero_le _⟩ (fun H locs hP hD hS => ?_)
    have hP : va_P D vwCl ([(txo, .inr (7, [.ref tx_signsA, .int tx_length, .int tx_at, .int w2, .int w3])), (tx_signsA, .inl (κ 0, 240, .inl tx_signs))]) H := hP
    have hD : va_D A ([(txo, .inr (7, [.ref tx_signsA, .int tx_length, .int tx_at, .int w2, .int w3])), (tx_signsA, .inl (κ 0, 240, .inl tx_signs))]) := hD
    exact L13 w2 w3 _ _ _ hP hD hS (lv_sub hl [0] rfl) hres

def pX7_number_L109 (tx_fault : Int32) (tx_place : Int32) (v3 : Int32) (v4 : Int32) (w_tx_at : Int32) : Option (Int32 × Int32 × Int32 × Int32) :=
    kb2 (pX7_fail 2 v3 tx_fault tx_place) fun w3 w4 =>
    some (v4, w_tx_at, w3, w4)
def pX7_number_L70 (x1 : Int32) (x2 : Int32) (tx_fault : Int32) (tx_place : Int32) (v3 : Int32) (v4 : Int32) (w_tx_at : Int32) : Option (Int32 × Int32 × Int32 × Int32) :=
    (if w_tx_at = v3 then
    kb2 (pX7_fail 1 v3 tx_fault tx_place) fun w10 w11 =>
    some (v4, w_tx_at, w10, w11)
    else
    (if 3 < (w_tx_at - v3) then
    pX7_number_L109 tx_fault tx_place v3 v4 w_tx_at
    else
    (if v4 < x1 then
    pX7_number_L109 tx_fault tx_place v3 v4 w_tx_at
    else
    (if v4 ≤ x2 then
    some (v4, w_tx_at, tx_fault, tx_place)
    else
    pX7_number_L109 tx_fault tx_place v3 v4 w_tx_at))))
def pX7_number_L54 (k15 : Int32 → Int32 → Int32 → Int32 → Option (Int32 × Int32 × Int32 × Int32)) (v3 : Int32) (v4 : Int32) (v5 : Int32) (w_tx_at : Int32) : Option (Int32 × Int32 × Int32 × Int32) :=
    k15 v3 v4 (v5 + 1) (w_tx_at + 1)
def pX7_number_L15 (x1 : Int32) (x2 : Int32) (tx_signs : Nat → Int32) (tx_length : Int32) (tx_fault : Int32) (tx_place : Int32) : Nat → Int32 → Int32 → Int32 → Int32 → Option (Int32 × Int32 × Int32 × Int32)
  | 0, _, _, _, _ => none
  | n15 + 1, v3, v4, v5, w_tx_at =>
    (if 240 ≤ v5 then
    pX7_number_L70 x1 x2 tx_fault tx_place v3 v4 w_tx_at
    else
    kb1 (pX7_here tx_signs tx_length w_tx_at) fun r14 =>
    kb1 (pX7_isFigure r14) fun r16 =>
    (if r16 = 0 then
    pX7_number_L70 x1 x2 tx_fault tx_place v3 v4 w_tx_at
    else
    (if 3 ≤ v5 then
    pX7_number_L54 (pX7_number_L15 x1 x2 tx_signs tx_length tx_fault tx_place n15) v3 v4 v5 w_tx_at
    else
    kb1 (pX7_here tx_signs tx_length w_tx_at) fun r20 =>
    pX7_number_L54 (pX7_number_L15 x1 x2 tx_signs tx_length tx_fault tx_place n15) v3 (((v4 * 10) + r20) - 48) v5 w_tx_at)))
def pX7_number (N : Nat) (x1 : Int32) (x2 : Int32) (tx_signs : Nat → Int32) (tx_length : Int32) (tx_at : Int32) (tx_fault : Int32) (tx_place : Int32) : Option (Int32 × Int32 × Int32 × Int32) :=
    kb1 (pX7_skipBlanks N tx_signs tx_length tx_at) fun w1 =>
    pX7_number_L15 x1 x2 tx_signs tx_length tx_fault tx_place N w1 0 0 w1
set_option maxHeartbeats 8000000 in
set_option maxRecDepth 100000 in
theorem tX7_number (l : Launch) (D : va_G) (κ : Nat → ClassId) (txo : Nat) (tx_signsA : Nat) (N : Nat) (tx_signs : Nat → Int32) (tx_length : Int32) (tx_at : Int32) (tx_fault : Int32) (tx_place : Int32) (x1 : Int32) (x2 : Int32) (r0 : Int32) (z_tx_at : Int32) (z_tx_fault : Int32) (z_tx_place : Int32) (hres : pX7_number N x1 x2 tx_signs tx_length tx_at tx_fault tx_place = some (r0, z_tx_at, z_tx_fault, z_tx_place)) : krI l yX7_number wsX7_number { frames := 2, cells := 0, slots := 0, locals := 200 } D κ [.ref txo, .int x1, .int x2] ([(txo, .inr (7, [.ref tx_signsA, .int tx_length, .int tx_at, .int tx_fault, .int tx_place])), (tx_signsA, .inl (κ 0, 240, .inl tx_signs))]) ([(txo, .inr (7, [.ref tx_signsA, .int tx_length, .int z_tx_at, .int z_tx_fault, .int z_tx_place])), (tx_signsA, .inl (κ 0, 240, .inl tx_signs))]) r0 := by
  refine krI_of (cc := cX7_number) (maxL := 6) (rt := .int) (by decide) rfl (Nat.le_of_ble_eq_true rfl) ?_
  intro p e s m args below meth c A Q ls hx hb hml hown hts hK hA hret hP hD hS hl
  have hown : s.vm.findClass RX7 = some m.cls := hown
  have hl : lv_has ls 6 [(0, .ref txo), (1, .int x1), (2, .int x2)] := hl
  have iw7 : ∀ w ∈ u_ws RX7 TX7 5, w ∈ wsX7_number := (fun _ h => List.mem_cons_of_mem _ (List.mem_append_right _ h))
  have k0 : (Cond.fieldLink RX7 27 "KingRansom$Text" "at" "I").before args s = true := hts _ (List.mem_of_getElem? (i := 1) rfl)
  have L109 : ∀ (v3 : Int32) (v4 : Int32) (w_tx_at : Int32) (H : Heap) (locs : List Loc) (ls : Array Slot), va_P D vwCl ([(txo, .inr (7, [.ref tx_signsA, .int tx_length, .int w_tx_at, .int tx_fault, .int tx_place])), (tx_signsA, .inl (κ 0, 240, .inl tx_signs))]) H → va_D A ([(txo, .inr (7, [.ref tx_signsA, .int tx_length, .int w_tx_at, .int tx_fault, .int tx_place])), (tx_signsA, .inl (κ 0, 240, .inl tx_signs))]) → va_S A s.heap H locs → lv_has ls 6 [(0, .ref txo), (3, .int v3), (4, .int v4)] → pX7_number_L109 tx_fault tx_place v3 v4 w_tx_at = some (r0, z_tx_at, z_tx_fault, z_tx_place) → W p l e { frames := 2, cells := 0, slots := 0, locals := 200 } s m args below meth c H locs 0 0 Q (F0 m 109 ls []) := by
    intro v3 v4 w_tx_at H locs ls hP hD hS hl hres
    unfold pX7_number_L109 at hres
    refine lv_aload_n hx hb dX7_number_109 rfl (lv_at hl 0 rfl) ?_
    refine lv_iconst (v := 2) hx hb dX7_number_110 (by decide) ?_
    refine lv_iload_n hx hb dX7_number_111 rfl (lv_at hl 1 rfl) ?_
    obtain ⟨w3, w4, hc5, hres⟩ := kb2_s hres
    refine krV_V (As := [.int 2, .int v3]) (rest := []) (wr := []) ⟨hx, hb, hml, hown, hts⟩ hK (tX7_fail l D κ txo tx_signsA tx_signs tx_length w_tx_at tx_fault tx_place 2 v3 w3 w4 hc5) (cwV 2 hts gX7_number_X7_fail rfl rfl rfl (by decide +kernel) ⟨(Nat.le_of_ble_eq_true rfl), (Nat.le_of_ble_eq_true rfl)⟩) rfl rfl rfl hP hD hS hA [0, 1] [] rfl rfl rfl rfl (by decide) rfl hl.1 rfl (Nat.le_of_ble_eq_true rfl) dX7_number_112 ⟨Nat.zero_le _, Nat.zero_le _⟩ (fun H locs hP hD hS => ?_)
    have hP : va_P D vwCl ([(txo, .inr (7, [.ref tx_signsA, .int tx_length, .int w_tx_at, .int w3, .int w4])), (tx_signsA, .inl (κ 0, 240, .inl tx_signs))]) H := hP
    have hD : va_D A ([(txo, .inr (7, [.ref tx_signsA, .int tx_length, .int w_tx_at, .int w3, .int w4])), (tx_signsA, .inl (κ 0, 240, .inl tx_signs))]) := hD
    refine lv_iload hx hb dX7_number_115 (lv_at hl 2 rfl) ?_
    have hres := Option.some.inj hres
    have h0 := (Prod.mk.inj hres).1
    replace hres := (Prod.mk.inj hres).2
    have h1 := (Prod.mk.inj hres).1
    replace hres := (Prod.mk.inj hres).2
    have h2 := (Prod.mk.inj hres).1
    replace hres := (Prod.mk.inj hres).2
    have h3 := hres
    subst h0
    subst h1
    subst h2
    subst h3
    exact hret _ _ _ _ (vp_nar_int _) hP hD hS dX7_number_117
  have L70 : ∀ (v3 : Int32) (v4 : Int32) (w_tx_at : Int32) (H : Heap) (locs : List Loc) (ls : Array Slot), va_P D vwCl ([(txo, .inr (7, [.ref tx_signsA, .int tx_length, .int w_tx_at, .int tx_fault, .int tx_place])), (tx_signsA, .inl (κ 0, 240, .inl tx_signs))]) H → va_D A ([(txo, .inr (7, [.ref tx_signsA, .int tx_length, .int w_tx_at, .int tx_fault, .int tx_place])), (tx_signsA, .inl (κ 0, 240, .inl tx_signs))]) → va_S A s.heap H locs → lv_has ls 6 [(0, .ref txo), (1, .int x1), (2, .int x2), (3, .int v3), (4, .int v4)] → pX7_number_L70 x1 x2 tx_fault tx_place v3 v4 w_tx_at = some (r0, z_tx_at, z_tx_fault, z_tx_place) → W p l e { frames := 2, cells := 0, slots := 0, locals := 200 } s m args below meth c H locs 0 0 Q (F0 m 70 ls []) := by
    intro v3 v4 w_tx_at H locs ls hP hD hS hl hres
    unfold pX7_number_L70 at hres
    refine lv_aload_n hx hb dX7_number_70 rfl (lv_at hl 0 rfl) ?_
    refine va_get (D := D) (ci := 7) (v := .int w_tx_at) (C := RX7) (T := TX7) (N := 5) hx hb hts iw7 hown hK.1 hP 0 rfl rfl 2 (by decide) k0 (fun _ h9 => h9) rfl dX7_number_71 ?_
    refine lv_iload_n hx hb dX7_number_74 rfl (lv_at hl 3 rfl) ?_
    refine lv_icmp_ne (tgt := 87) hx hb dX7_number_75 (by decide) (fun c6 => ?_) (fun c6 => ?_)
    · replace hres := og_f c6 hres
      refine lv_aload_n hx hb dX7_number_87 rfl (lv_at hl 0 rfl) ?_
      refine va_get (D := D) (ci := 7) (v := .int w_tx_at) (C := RX7) (T := TX7) (N := 5) hx hb hts iw7 hown hK.1 hP 0 rfl rfl 2 (by decide) k0 (fun _ h9 => h9) rfl dX7_number_88 ?_
      refine lv_iload_n hx hb dX7_number_91 rfl (lv_at hl 3 rfl) ?_
      refine lv_isub hx hb dX7_number_92 ?_
      refine lv_iconst (v := 3) hx hb dX7_number_93 (by decide) ?_
      refine lv_icmp_gt (tgt := 109) hx hb dX7_number_94 (by decide) (fun c7 => ?_) (fun c7 => ?_)
      · replace hres := og_t c7 hres
        exact L109 v3 v4 w_tx_at _ _ _ hP hD hS (lv_sub hl [0, 3, 4] rfl) hres
      · replace hres := og_f c7 hres
        refine lv_iload hx hb dX7_number_97 (lv_at hl 4 rfl) ?_
        refine lv_iload_n hx hb dX7_number_99 rfl (lv_at hl 1 rfl) ?_
        refine lv_icmp_lt (tgt := 109) hx hb dX7_number_100 (by decide) (fun c8 => ?_) (fun c8 => ?_)
        · replace hres := og_t c8 hres
          exact L109 v3 v4 w_tx_at _ _ _ hP hD hS (lv_sub hl [0, 3, 4] rfl) hres
        · replace hres := og_f c8 hres
          refine lv_iload hx hb dX7_number_103 (lv_at hl 4 rfl) ?_
          refine lv_iload_n hx hb dX7_number_105 rfl (lv_at hl 2 rfl) ?_
          refine lv_icmp_le (tgt := 115) hx hb dX7_number_106 (by decide) (fun c9 => ?_) (fun c9 => ?_)
          · replace hres := og_t c9 hres
            refine lv_iload hx hb dX7_number_115 (lv_at hl 4 rfl) ?_
            have hres := Option.some.inj hres
            have h0 := (Prod.mk.inj hres).1
            replace hres := (Prod.mk.inj hres).2
            have h1 := (Prod.mk.inj hres).1
            replace hres := (Prod.mk.inj hres).2
            have h2 := (Prod.mk.inj hres).1
            replace hres := (Prod.mk.inj hres).2
            have h3 := hres
            subst h0
            subst h1
            subst h2
            subst h3
            exact hret _ _ _ _ (vp_nar_int _) hP hD hS dX7_number_117
          · replace hres := og_f c9 hres
            exact L109 v3 v4 w_tx_at _ _ _ hP hD hS (lv_sub hl [0, 3, 4] rfl) hres
    · replace hres := og_t c6 hres
      refine lv_aload_n hx hb dX7_number_78 rfl (lv_at hl 0 rfl) ?_
      refine lv_iconst (v := 1) hx hb dX7_number_79 (by decide) ?_
      refine lv_iload_n hx hb dX7_number_80 rfl (lv_at hl 3 rfl) ?_
      obtain ⟨w10, w11, hc12, hres⟩ := kb2_s hres
      refine krV_V (As := [.int 1, .int v3]) (rest := []) (wr := []) ⟨hx, hb, hml, hown, hts⟩ hK (tX7_fail l D κ txo tx_signsA tx_signs tx_length w_tx_at tx_fault tx_place 1 v3 w10 w11 hc12) (cwV 2 hts gX7_number_X7_fail rfl rfl rfl (by decide +kernel) ⟨(Nat.le_of_ble_eq_true rfl), (Nat.le_of_ble_eq_true rfl)⟩) rfl rfl rfl hP hD hS hA [0, 1] [] rfl rfl rfl rfl (by decide) rfl hl.1 rfl (Nat.le_of_ble_eq_true rfl) dX7_number_81 ⟨Nat.zero_le _, Nat.zero_le _⟩ (fun H locs hP hD hS => ?_)
      have hP : va_P D vwCl ([(txo, .inr (7, [.ref tx_signsA, .int tx_length, .int w_tx_at, .int w10, .int w11])), (tx_signsA, .inl (κ 0, 240, .inl tx_signs))]) H := hP
      have hD : va_D A ([(txo, .inr (7, [.ref tx_signsA, .int tx_length, .int w_tx_at, .int w10, .int w11])), (tx_signsA, .inl (κ 0, 240, .inl tx_signs))]) := hD
      refine lv_goto (tgt := 115) hx hb dX7_number_84 (by decide) ?_
      refine lv_iload hx hb dX7_number_115 (lv_at hl 4 rfl) ?_
      have hres := Option.some.inj hres
      have h0 := (Prod.mk.inj hres).1
      replace hres := (Prod.mk.inj hres).2
      have h1 := (Prod.mk.inj hres).1
      replace hres := (Prod.mk.inj hres).2
      have h2 := (Prod.mk.inj hres).1
      replace hres := (Prod.mk.inj hres).2
      have h3 := hres
      subst h0
      subst h1
      subst h2
      subst h3
      exact hret _ _ _ _ (vp_nar_int _) hP hD hS dX7_number_117
  have L15 : ∀ (n15 : Nat) (v3 : Int32) (v4 : Int32) (v5 : Int32) (w_tx_at : Int32) (H : Heap) (locs : List Loc) (ls : Array Slot), va_P D vwCl ([(txo, .inr (7, [.ref tx_signsA, .int tx_length, .int w_tx_at, .int tx_fault, .int tx_place])), (tx_signsA, .inl (κ 0, 240, .inl tx_signs))]) H → va_D A ([(txo, .inr (7, [.ref tx_signsA, .int tx_length, .int w_tx_at, .int tx_fault, .int tx_place])), (tx_signsA, .inl (κ 0, 240, .inl tx_signs))]) → va_S A s.heap H locs → lv_has ls 6 [(0, .ref txo), (1, .int x1), (2, .int x2), (3, .int v3), (4, .int v4), (5, .int v5)] → pX7_number_L15 x1 x2 tx_signs tx_length tx_fault tx_place n15 v3 v4 v5 w_tx_at = some (r0, z_tx_at, z_tx_fault, z_tx_place) → W p l e { frames := 2, cells := 0, slots := 0, locals := 200 } s m args below meth c H locs 0 0 Q (F0 m 15 ls []) := by
    intro n15
    induction n15 with
    | zero =>
      intro v3 v4 v5 w_tx_at H locs ls hP hD hS hl hres
      exact absurd (show none = some _ from hres) (by simp)
    | succ n15 ih15 =>
      intro v3 v4 v5 w_tx_at H locs ls hP hD hS hl hres
      have L54 : ∀ (v3 : Int32) (v4 : Int32) (v5 : Int32) (w_tx_at : Int32) (H : Heap) (locs : List Loc) (ls : Array Slot), va_P D vwCl ([(txo, .inr (7, [.ref tx_signsA, .int tx_length, .int w_tx_at, .int tx_fault, .int tx_place])), (tx_signsA, .inl (κ 0, 240, .inl tx_signs))]) H → va_D A ([(txo, .inr (7, [.ref tx_signsA, .int tx_length, .int w_tx_at, .int tx_fault, .int tx_place])), (tx_signsA, .inl (κ 0, 240, .inl tx_signs))]) → va_S A s.heap H locs → lv_has ls 6 [(0, .ref txo), (1, .int x1), (2, .int x2), (3, .int v3), (4, .int v4), (5, .int v5)] → pX7_number_L54 (pX7_number_L15 x1 x2 tx_signs tx_length tx_fault tx_place n15) v3 v4 v5 w_tx_at = some (r0, z_tx_at, z_tx_fault, z_tx_place) → W p l e { frames := 2, cells := 0, slots := 0, locals := 200 } s m args below meth c H locs 0 0 Q (F0 m 54 ls []) := by
        intro v3 v4 v5 w_tx_at H locs ls hP hD hS hl hres
        unfold pX7_number_L54 at hres
        refine lv_aload_n hx hb dX7_number_54 rfl (lv_at hl 0 rfl) ?_
        refine lv_dup hx hb dX7_number_55 rfl ?_
        refine va_get (D := D) (ci := 7) (v := .int w_tx_at) (C := RX7) (T := TX7) (N := 5) hx hb hts iw7 hown hK.1 hP 0 rfl rfl 2 (by decide) k0 (fun _ h9 => h9) rfl dX7_number_56 ?_
        refine lv_iconst (v := 1) hx hb dX7_number_59 (by decide) ?_
        refine lv_iadd hx hb dX7_number_60 ?_
        refine va_put (D := D) (ci := 7) (v := .int (w_tx_at + 1)) (ty := .int) (C := RX7) (T := TX7) (N := 5) hx hb hts iw7 tyX7 tyX7_ok nmX7 hown hK.1 hP hD hS 0 rfl rfl 2 (by decide) k0 (fun _ h9 => h9) rfl (tyX7_ok 2 (by decide)) rfl rfl (Nat.le_of_ble_eq_true rfl) dX7_number_61 (fun H locs hP hD hS => ?_)
        have hP : va_P D vwCl ([(txo, .inr (7, [.ref tx_signsA, .int tx_length, .int (w_tx_at + 1), .int tx_fault, .int tx_place])), (tx_signsA, .inl (κ 0, 240, .inl tx_signs))]) H := hP
        have hD : va_D A ([(txo, .inr (7, [.ref tx_signsA, .int tx_length, .int (w_tx_at + 1), .int tx_fault, .int tx_place])), (tx_signsA, .inl (κ 0, 240, .inl tx_signs))]) := hD
        refine lv_iinc (v := (v5 + 1)) (lv' := [(5, .int (v5 + 1)), (0, .ref txo), (1, .int x1), (2, .int x2), (3, .int v3), (4, .int v4)]) hx hb dX7_number_64 hl (k := 5) rfl rfl (by decide) rfl (fun ls hl => ?_)
        refine lv_goto (tgt := 15) hx hb dX7_number_67 (by decide) ?_
        exact ih15 v3 v4 (v5 + 1) (w_tx_at + 1) _ _ _ hP hD hS (lv_sub hl [1, 2, 3, 4, 5, 0] rfl) hres
      rw [pX7_number_L15] at hres
      refine lv_iload hx hb dX7_number_15 (lv_at hl 5 rfl) ?_
      refine lv_sipush (v := 240) hx hb dX7_number_17 (by decide) ?_
      refine lv_icmp_ge (tgt := 70) hx hb dX7_number_20 (by decide) (fun c13 => ?_) (fun c13 => ?_)
      · replace hres := og_t c13 hres
        exact L70 v3 v4 w_tx_at _ _ _ hP hD hS (lv_sub hl [0, 1, 2, 3, 4] rfl) hres
      · replace hres := og_f c13 hres
        refine lv_aload_n hx hb dX7_number_23 rfl (lv_at hl 0 rfl) ?_
        obtain ⟨r14, hc15, hres⟩ := kb1_s hres
        refine krI_V (As := []) (rest := []) (wr := []) ⟨hx, hb, hml, hown, hts⟩ hK (tX7_here l D κ txo tx_signsA tx_signs tx_length w_tx_at tx_fault tx_place r14 hc15) (cwV 0 hts gX7_number_X7_here rfl rfl rfl (by decide +kernel) ⟨(Nat.le_of_ble_eq_true rfl), (Nat.le_of_ble_eq_true rfl)⟩) rfl rfl rfl hP hD hS hA [0, 1] [] rfl rfl rfl rfl (by decide) rfl hl.1 rfl (Nat.le_of_ble_eq_true rfl) dX7_number_24 ⟨Nat.zero_le _, Nat.zero_le _⟩ (fun H locs hP hD hS => ?_)
        have hP : va_P D vwCl ([(txo, .inr (7, [.ref tx_signsA, .int tx_length, .int w_tx_at, .int tx_fault, .int tx_place])), (tx_signsA, .inl (κ 0, 240, .inl tx_signs))]) H := hP
        have hD : va_D A ([(txo, .inr (7, [.ref tx_signsA, .int tx_length, .int w_tx_at, .int tx_fault, .int tx_place])), (tx_signsA, .inl (κ 0, 240, .inl tx_signs))]) := hD
        obtain ⟨r16, hc17, hres⟩ := kb1_s hres
        refine krI_S0 (As := [.int r14]) (rest := []) ⟨hx, hb, hml, hown, hts⟩ hK (tX7_isFigure l D κ r14 r16 hc17) (va_cwS 1 hts gX7_number_X7_isFigure rfl rfl rfl (by decide +kernel) ⟨(Nat.le_of_ble_eq_true rfl), (Nat.le_of_ble_eq_true rfl)⟩) hP hD hS hA rfl hl.1 rfl (Nat.le_of_ble_eq_true rfl) dX7_number_27 ⟨Nat.zero_le _, Nat.zero_le _⟩ (fun H locs hP hD hS => ?_)
        refine lv_if_eq (tgt := 70) hx hb dX7_number_30 (by decide) (fun c18 => ?_) (fun c18 => ?_)
        · replace hres := og_t c18 hres
          exact L70 v3 v4 w_tx_at _ _ _ hP hD hS (lv_sub hl [0, 1, 2, 3, 4] rfl) hres
        · replace hres := og_f c18 hres
          refine lv_iload hx hb dX7_number_33 (lv_at hl 5 rfl) ?_
          refine lv_iconst (v := 3) hx hb dX7_number_35 (by decide) ?_
          refine lv_icmp_ge (tgt := 54) hx hb dX7_number_36 (by decide) (fun c19 => ?_) (fun c19 => ?_)
          · replace hres := og_t c19 hres
            exact L54 v3 v4 v5 w_tx_at _ _ _ hP hD hS (lv_sub hl [0, 1, 2, 3, 4, 5] rfl) hres
          · replace hres := og_f c19 hres
            refine lv_iload hx hb dX7_number_39 (lv_at hl 4 rfl) ?_
            refine lv_bipush (v := 10) hx hb dX7_number_41 (by decide) ?_
            refine lv_imul hx hb dX7_number_43 ?_
            refine lv_aload_n hx hb dX7_number_44 rfl (lv_at hl 0 rfl) ?_
            obtain ⟨r20, hc21, hres⟩ := kb1_s hres
            refine krI_V (As := []) (rest := [.int (v4 * 10)]) (wr := []) ⟨hx, hb, hml, hown, hts⟩ hK (tX7_here l D κ txo tx_signsA tx_signs tx_length w_tx_at tx_fault tx_place r20 hc21) (cwV 0 hts gX7_number_X7_here rfl rfl rfl (by decide +kernel) ⟨(Nat.le_of_ble_eq_true rfl), (Nat.le_of_ble_eq_true rfl)⟩) rfl rfl rfl hP hD hS hA [0, 1] [] rfl rfl rfl rfl (by decide) rfl hl.1 rfl (Nat.le_of_ble_eq_true rfl) dX7_number_45 ⟨Nat.zero_le _, Nat.zero_le _⟩ (fun H locs hP hD hS => ?_)
            have hP : va_P D vwCl ([(txo, .inr (7, [.ref tx_signsA, .int tx_length, .int w_tx_at, .int tx_fault, .int tx_place])), (tx_signsA, .inl (κ 0, 240, .inl tx_signs))]) H := hP
            have hD : va_D A ([(txo, .inr (7, [.ref tx_signsA, .int tx_length, .int w_tx_at, .int tx_fault, .int tx_place])), (tx_signsA, .inl (κ 0, 240, .inl tx_signs))]) := hD
            refine lv_iadd hx hb dX7_number_48 ?_
            refine lv_bipush (v := 48) hx hb dX7_number_49 (by decide) ?_
            refine lv_isub hx hb dX7_number_51 ?_
            refine lv_istore (lv' := [(4, .int (((v4 * 10) + r20) - 48)), (0, .ref txo), (1, .int x1), (2, .int x2), (3, .int v3), (5, .int v5)]) hx hb dX7_number_52 hl (by decide) rfl (fun ls hl => ?_)
            exact L54 v3 (((v4 * 10) + r20) - 48) v5 w_tx_at _ _ _ hP hD hS (lv_sub hl [1, 2, 3, 4, 0, 5] rfl) hres
  unfold pX7_number at hres
  refine lv_aload_n hx hb dX7_number_0 rfl (lv_at hl 0 rfl) ?_
  obtain ⟨w1, hc2, hres⟩ := kb1_s hres
  refine krV_V (As := []) (rest := []) (wr := []) ⟨hx, hb, hml, hown, hts⟩ hK (tX7_skipBlanks l D κ txo tx_signsA N tx_signs tx_length tx_at tx_fault tx_place w1 hc2) (cwV 0 hts gX7_number_X7_skipBlanks rfl rfl rfl (by decide +kernel) ⟨(Nat.le_of_ble_eq_true rfl), (Nat.le_of_ble_eq_true rfl)⟩) rfl rfl rfl hP hD hS hA [0, 1] [] rfl rfl rfl rfl (by decide) rfl hl.1 rfl (Nat.le_of_ble_eq_true rfl) dX7_number_1 ⟨Nat.zero_le _, Nat.zero_le _⟩ (fun H locs hP hD hS => ?_)
  have hP : va_P D vwCl ([(txo, .inr (7, [.ref tx_signsA, .int tx_length, .int w1, .int tx_fault, .int tx_place])), (tx_signsA, .inl (κ 0, 240, .inl tx_signs))]) H := hP
  have hD : va_D A ([(txo, .inr (7, [.ref tx_signsA, .int tx_length, .int w1, .int tx_fault, .int tx_place])), (tx_signsA, .inl (κ 0, 240, .inl tx_signs))]) := hD
  refine lv_aload_n hx hb dX7_number_4 rfl (lv_at hl 0 rfl) ?_
  refine va_get (D := D) (ci := 7) (v := .int w1) (C := RX7) (T := TX7) (N := 5) hx hb hts iw7 hown hK.1 hP 0 rfl rfl 2 (by decide) k0 (fun _ h9 => h9) rfl dX7_number_5 ?_
  refine lv_istore_n (lv' := [(3, .int w1), (0, .ref txo), (1, .int x1), (2, .int x2)]) hx hb dX7_number_8 rfl hl (by decide) rfl (fun ls hl => ?_)
  refine lv_iconst (v := 0) hx hb dX7_number_9 (by decide) ?_
  refine lv_istore (lv' := [(4, .int 0), (3, .int w1), (0, .ref txo), (1, .int x1), (2, .int x2)]) hx hb dX7_number_10 hl (by decide) rfl (fun ls hl => ?_)
  refine lv_iconst (v := 0) hx hb dX7_number_12 (by decide) ?_
  refine lv_istore (lv' := [(5, .int 0), (4, .int 0), (3, .int w1), (0, .ref txo), (1, .int x1), (2, .int x2)]) hx hb dX7_number_13 hl (by decide) rfl (fun ls hl => ?_)
  exact L15 N w1 0 0 w1 _ _ _ hP hD hS (lv_sub hl [3, 4, 5, 2, 1, 0] rfl) hres

def pX7_readKing (N : Nat) (tx_signs : Nat → Int32) (tx_length : Int32) (tx_at : Int32) (tx_fault : Int32) (tx_place : Int32) (tl_stands : Int32) : Option (Int32 × Int32 × Int32 × Int32 × Int32 × Int32) :=
    kb3 (pX7_takeWord tl_stands tx_at tx_fault tx_place) fun w1 w2 w3 =>
    kb4 (pX7_number N 1 999 tx_signs tx_length w1 w2 w3) fun r5 w6 w7 w8 =>
    kb4 (pX7_number N 0 99 tx_signs tx_length w6 w7 w8) fun r10 w11 w12 w13 =>
    kb3 (pX7_close N tx_signs tx_length w11 w12 w13) fun w15 w16 w17 =>
    some (w15, w16, w17, 1, r5, r10)
set_option maxHeartbeats 8000000 in
set_option maxRecDepth 100000 in
theorem tX7_readKing (l : Launch) (D : va_G) (κ : Nat → ClassId) (txo : Nat) (tx_signsA : Nat) (tlo : Nat) (tl_goodsA : Nat) (tl_shyA : Nat) (tl_bidOfA : Nat) (tl_daysOfA : Nat) (N : Nat) (tx_signs : Nat → Int32) (tx_length : Int32) (tx_at : Int32) (tx_fault : Int32) (tx_place : Int32) (tl_stands : Int32) (tl_price : Int32) (tl_death : Int32) (tl_payers : Int32) (tl_bids : Int32) (tl_hostages : Int32) (tl_bags : Int32) (tl_bagMarks : Int32) (tl_goods : Nat → Int32) (tl_shy : Nat → Int32) (tl_bidOf : Nat → Int32) (tl_daysOf : Nat → Int32) (z_tx_at : Int32) (z_tx_fault : Int32) (z_tx_place : Int32) (z_tl_stands : Int32) (z_tl_price : Int32) (z_tl_death : Int32) (hres : pX7_readKing N tx_signs tx_length tx_at tx_fault tx_place tl_stands = some (z_tx_at, z_tx_fault, z_tx_place, z_tl_stands, z_tl_price, z_tl_death)) : krV l yX7_readKing wsX7_readKing { frames := 4, cells := 0, slots := 0, locals := 400 } D κ [.ref txo, .ref tlo] ([(txo, .inr (7, [.ref tx_signsA, .int tx_length, .int tx_at, .int tx_fault, .int tx_place])), (tx_signsA, .inl (κ 0, 240, .inl tx_signs)), (tlo, .inr (6, [.int tl_stands, .int tl_price, .int tl_death, .int tl_payers, .int tl_bids, .int tl_hostages, .int tl_bags, .int tl_bagMarks, .ref tl_goodsA, .ref tl_shyA, .ref tl_bidOfA, .ref tl_daysOfA])), (tl_goodsA, .inl (κ 0, 6, .inl tl_goods)), (tl_shyA, .inl (κ 0, 6, .inl tl_shy)), (tl_bidOfA, .inl (κ 0, 9, .inl tl_bidOf)), (tl_daysOfA, .inl (κ 0, 6, .inl tl_daysOf))]) ([(txo, .inr (7, [.ref tx_signsA, .int tx_length, .int z_tx_at, .int z_tx_fault, .int z_tx_place])), (tx_signsA, .inl (κ 0, 240, .inl tx_signs)), (tlo, .inr (6, [.int z_tl_stands, .int z_tl_price, .int z_tl_death, .int tl_payers, .int tl_bids, .int tl_hostages, .int tl_bags, .int tl_bagMarks, .ref tl_goodsA, .ref tl_shyA, .ref tl_bidOfA, .ref tl_daysOfA])), (tl_goodsA, .inl (κ 0, 6, .inl tl_goods)), (tl_shyA, .inl (κ 0, 6, .inl tl_shy)), (tl_bidOfA, .inl (κ 0, 9, .inl tl_bidOf)), (tl_daysOfA, .inl (κ 0, 6, .inl tl_daysOf))]) := by
  refine krV_of (cc := cX7_readKing) (maxL := 2) (by decide) rfl (Nat.le_of_ble_eq_true rfl) ?_
  intro p e s m args below meth c A Q ls hx hb hml hown hts hK hA hret hP hD hS hl
  have hown : s.vm.findClass RX7 = some m.cls := hown
  have hl : lv_has ls 2 [(0, .ref txo), (1, .ref tlo)] := hl
  have iw6 : ∀ w ∈ u_ws RX6 TX6 12, w ∈ wsX7_readKing := (fun _ h => List.mem_cons_of_mem _ (List.mem_append_left _ (List.mem_append_right _ h)))
  unfold pX7_readKing at hres
  refine lv_aload_n hx hb dX7_readKing_0 rfl (lv_at hl 0 rfl) ?_
  refine lv_aload_n hx hb dX7_readKing_1 rfl (lv_at hl 1 rfl) ?_
  refine va_getN (D := D) (ci := 6) (v := .int tl_stands) (C := RX6) (T := TX6) (N := 12) hx hb hts iw6 hown hK.1 hP 2 rfl rfl 0 (by decide) (hK.fl 3 rfl) (fun _ h9 => h9) rfl dX7_readKing_2 ?_
  obtain ⟨w1, w2, w3, hc4, hres⟩ := kb3_s hres
  refine krV_V (As := [.int tl_stands]) (rest := []) (wr := [(tlo, .inr (6, [.int tl_stands, .int tl_price, .int tl_death, .int tl_payers, .int tl_bids, .int tl_hostages, .int tl_bags, .int tl_bagMarks, .ref tl_goodsA, .ref tl_shyA, .ref tl_bidOfA, .ref tl_daysOfA])), (tl_goodsA, .inl (κ 0, 6, .inl tl_goods)), (tl_shyA, .inl (κ 0, 6, .inl tl_shy)), (tl_bidOfA, .inl (κ 0, 9, .inl tl_bidOf)), (tl_daysOfA, .inl (κ 0, 6, .inl tl_daysOf))]) ⟨hx, hb, hml, hown, hts⟩ hK (tX7_takeWord l D κ txo tx_signsA tx_signs tx_length tx_at tx_fault tx_place tl_stands w1 w2 w3 hc4) (cwV 1 hts gX7_readKing_X7_takeWord rfl rfl rfl (by decide +kernel) ⟨(Nat.le_of_ble_eq_true rfl), (Nat.le_of_ble_eq_true rfl)⟩) rfl rfl rfl hP hD hS hA [0, 1] [2, 3, 4, 5, 6] rfl rfl rfl rfl (by decide) rfl hl.1 rfl (Nat.le_of_ble_eq_true rfl) dX7_readKing_5 ⟨Nat.zero_le _, Nat.zero_le _⟩ (fun H locs hP hD hS => ?_)
  have hP : va_P D vwCl ([(tlo, .inr (6, [.int tl_stands, .int tl_price, .int tl_death, .int tl_payers, .int tl_bids, .int tl_hostages, .int tl_bags, .int tl_bagMarks, .ref tl_goodsA, .ref tl_shyA, .ref tl_bidOfA, .ref tl_daysOfA])), (tl_goodsA, .inl (κ 0, 6, .inl tl_goods)), (tl_shyA, .inl (κ 0, 6, .inl tl_shy)), (tl_bidOfA, .inl (κ 0, 9, .inl tl_bidOf)), (tl_daysOfA, .inl (κ 0, 6, .inl tl_daysOf)), (txo, .inr (7, [.ref tx_signsA, .int tx_length, .int w1, .int w2, .int w3])), (tx_signsA, .inl (κ 0, 240, .inl tx_signs))]) H := hP
  have hD : va_D A ([(tlo, .inr (6, [.int tl_stands, .int tl_price, .int tl_death, .int tl_payers, .int tl_bids, .int tl_hostages, .int tl_bags, .int tl_bagMarks, .ref tl_goodsA, .ref tl_shyA, .ref tl_bidOfA, .ref tl_daysOfA])), (tl_goodsA, .inl (κ 0, 6, .inl tl_goods)), (tl_shyA, .inl (κ 0, 6, .inl tl_shy)), (tl_bidOfA, .inl (κ 0, 9, .inl tl_bidOf)), (tl_daysOfA, .inl (κ 0, 6, .inl tl_daysOf)), (txo, .inr (7, [.ref tx_signsA, .int tx_length, .int w1, .int w2, .int w3])), (tx_signsA, .inl (κ 0, 240, .inl tx_signs))]) := hD
  refine lv_aload_n hx hb dX7_readKing_8 rfl (lv_at hl 1 rfl) ?_
  refine lv_iconst (v := 1) hx hb dX7_readKing_9 (by decide) ?_
  refine va_putN (D := D) (ci := 6) (v := .int 1) (ty := .boolean) (C := RX6) (T := TX6) (N := 12) hx hb hts iw6 tyX6 tyX6_ok nmX6 hown hK.1 hP hD hS 0 rfl rfl 0 (by decide) (hK.fl 3 rfl) (fun _ h9 => h9) rfl (tyX6_ok 0 (by decide)) rfl rfl (Nat.le_of_ble_eq_true rfl) dX7_readKing_10 (fun H locs hP hD hS => ?_)
  have hP : va_P D vwCl ([(tlo, .inr (6, [.int 1, .int tl_price, .int tl_death, .int tl_payers, .int tl_bids, .int tl_hostages, .int tl_bags, .int tl_bagMarks, .ref tl_goodsA, .ref tl_shyA, .ref tl_bidOfA, .ref tl_daysOfA])), (tl_goodsA, .inl (κ 0, 6, .inl tl_goods)), (tl_shyA, .inl (κ 0, 6, .inl tl_shy)), (tl_bidOfA, .inl (κ 0, 9, .inl tl_bidOf)), (tl_daysOfA, .inl (κ 0, 6, .inl tl_daysOf)), (txo, .inr (7, [.ref tx_signsA, .int tx_length, .int w1, .int w2, .int w3])), (tx_signsA, .inl (κ 0, 240, .inl tx_signs))]) H := hP
  have hD : va_D A ([(tlo, .inr (6, [.int 1, .int tl_price, .int tl_death, .int tl_payers, .int tl_bids, .int tl_hostages, .int tl_bags, .int tl_bagMarks, .ref tl_goodsA, .ref tl_shyA, .ref tl_bidOfA, .ref tl_daysOfA])), (tl_goodsA, .inl (κ 0, 6, .inl tl_goods)), (tl_shyA, .inl (κ 0, 6, .inl tl_shy)), (tl_bidOfA, .inl (κ 0, 9, .inl tl_bidOf)), (tl_daysOfA, .inl (κ 0, 6, .inl tl_daysOf)), (txo, .inr (7, [.ref tx_signsA, .int tx_length, .int w1, .int w2, .int w3])), (tx_signsA, .inl (κ 0, 240, .inl tx_signs))]) := hD
  refine lv_aload_n hx hb dX7_readKing_13 rfl (lv_at hl 1 rfl) ?_
  refine lv_aload_n hx hb dX7_readKing_14 rfl (lv_at hl 0 rfl) ?_
  refine lv_iconst (v := 1) hx hb dX7_readKing_15 (by decide) ?_
  refine lv_sipush (v := 999) hx hb dX7_readKing_16 (by decide) ?_
  obtain ⟨r5, w6, w7, w8, hc9, hres⟩ := kb4_s hres
  refine krI_V (As := [.int 1, .int 999]) (rest := [.ref tlo]) (wr := [(tlo, .inr (6, [.int 1, .int tl_price, .int tl_death, .int tl_payers, .int tl_bids, .int tl_hostages, .int tl_bags, .int tl_bagMarks, .ref tl_goodsA, .ref tl_shyA, .ref tl_bidOfA, .ref tl_daysOfA])), (tl_goodsA, .inl (κ 0, 6, .inl tl_goods)), (tl_shyA, .inl (κ 0, 6, .inl tl_shy)), (tl_bidOfA, .inl (κ 0, 9, .inl tl_bidOf)), (tl_daysOfA, .inl (κ 0, 6, .inl tl_daysOf))]) ⟨hx, hb, hml, hown, hts⟩ hK (tX7_number l D κ txo tx_signsA N tx_signs tx_length w1 w2 w3 1 999 r5 w6 w7 w8 hc9) (cwV 2 hts gX7_readKing_X7_number rfl rfl rfl (by decide +kernel) ⟨(Nat.le_of_ble_eq_true rfl), (Nat.le_of_ble_eq_true rfl)⟩) rfl rfl rfl hP hD hS hA [5, 6] [0, 1, 2, 3, 4] rfl rfl rfl rfl (by decide) rfl hl.1 rfl (Nat.le_of_ble_eq_true rfl) dX7_readKing_19 ⟨Nat.zero_le _, Nat.zero_le _⟩ (fun H locs hP hD hS => ?_)
  have hP : va_P D vwCl ([(tlo, .inr (6, [.int 1, .int tl_price, .int tl_death, .int tl_payers, .int tl_bids, .int tl_hostages, .int tl_bags, .int tl_bagMarks, .ref tl_goodsA, .ref tl_shyA, .ref tl_bidOfA, .ref tl_daysOfA])), (tl_goodsA, .inl (κ 0, 6, .inl tl_goods)), (tl_shyA, .inl (κ 0, 6, .inl tl_shy)), (tl_bidOfA, .inl (κ 0, 9, .inl tl_bidOf)), (tl_daysOfA, .inl (κ 0, 6, .inl tl_daysOf)), (txo, .inr (7, [.ref tx_signsA, .int tx_length, .int w6, .int w7, .int w8])), (tx_signsA, .inl (κ 0, 240, .inl tx_signs))]) H := hP
  have hD : va_D A ([(tlo, .inr (6, [.int 1, .int tl_price, .int tl_death, .int tl_payers, .int tl_bids, .int tl_hostages, .int tl_bags, .int tl_bagMarks, .ref tl_goodsA, .ref tl_shyA, .ref tl_bidOfA, .ref tl_daysOfA])), (tl_goodsA, .inl (κ 0, 6, .inl tl_goods)), (tl_shyA, .inl (κ 0, 6, .inl tl_shy)), (tl_bidOfA, .inl (κ 0, 9, .inl tl_bidOf)), (tl_daysOfA, .inl (κ 0, 6, .inl tl_daysOf)), (txo, .inr (7, [.ref tx_signsA, .int tx_length, .int w6, .int w7, .int w8])), (tx_signsA, .inl (κ 0, 240, .inl tx_signs))]) := hD
  refine va_putN (D := D) (ci := 6) (v := .int r5) (ty := .int) (C := RX6) (T := TX6) (N := 12) hx hb hts iw6 tyX6 tyX6_ok nmX6 hown hK.1 hP hD hS 0 rfl rfl 1 (by decide) (hK.fl 6 rfl) (fun _ h9 => h9) rfl (tyX6_ok 1 (by decide)) rfl rfl (Nat.le_of_ble_eq_true rfl) dX7_readKing_22 (fun H locs hP hD hS => ?_)
  have hP : va_P D vwCl ([(tlo, .inr (6, [.int 1, .int r5, .int tl_death, .int tl_payers, .int tl_bids, .int tl_hostages, .int tl_bags, .int tl_bagMarks, .ref tl_goodsA, .ref tl_shyA, .ref tl_bidOfA, .ref tl_daysOfA])), (tl_goodsA, .inl (κ 0, 6, .inl tl_goods)), (tl_shyA, .inl (κ 0, 6, .inl tl_shy)), (tl_bidOfA, .inl (κ 0, 9, .inl tl_bidOf)), (tl_daysOfA, .inl (κ 0, 6, .inl tl_daysOf)), (txo, .inr (7, [.ref tx_signsA, .int tx_length, .int w6, .int w7, .int w8])), (tx_signsA, .inl (κ 0, 240, .inl tx_signs))]) H := hP
  have hD : va_D A ([(tlo, .inr (6, [.int 1, .int r5, .int tl_death, .int tl_payers, .int tl_bids, .int tl_hostages, .int tl_bags, .int tl_bagMarks, .ref tl_goodsA, .ref tl_shyA, .ref tl_bidOfA, .ref tl_daysOfA])), (tl_goodsA, .inl (κ 0, 6, .inl tl_goods)), (tl_shyA, .inl (κ 0, 6, .inl tl_shy)), (tl_bidOfA, .inl (κ 0, 9, .inl tl_bidOf)), (tl_daysOfA, .inl (κ 0, 6, .inl tl_daysOf)), (txo, .inr (7, [.ref tx_signsA, .int tx_length, .int w6, .int w7, .int w8])), (tx_signsA, .inl (κ 0, 240, .inl tx_signs))]) := hD
  refine lv_aload_n hx hb dX7_readKing_25 rfl (lv_at hl 1 rfl) ?_
  refine lv_aload_n hx hb dX7_readKing_26 rfl (lv_at hl 0 rfl) ?_
  refine lv_iconst (v := 0) hx hb dX7_readKing_27 (by decide) ?_
  refine lv_bipush (v := 99) hx hb dX7_readKing_28 (by decide) ?_
  obtain ⟨r10, w11, w12, w13, hc14, hres⟩ := kb4_s hres
  refine krI_V (As := [.int 0, .int 99]) (rest := [.ref tlo]) (wr := [(tlo, .inr (6, [.int 1, .int r5, .int tl_death, .int tl_payers, .int tl_bids, .int tl_hostages, .int tl_bags, .int tl_bagMarks, .ref tl_goodsA, .ref tl_shyA, .ref tl_bidOfA, .ref tl_daysOfA])), (tl_goodsA, .inl (κ 0, 6, .inl tl_goods)), (tl_shyA, .inl (κ 0, 6, .inl tl_shy)), (tl_bidOfA, .inl (κ 0, 9, .inl tl_bidOf)), (tl_daysOfA, .inl (κ 0, 6, .inl tl_daysOf))]) ⟨hx, hb, hml, hown, hts⟩ hK (tX7_number l D κ txo tx_signsA N tx_signs tx_length w6 w7 w8 0 99 r10 w11 w12 w13 hc14) (cwV 2 hts gX7_readKing_X7_number rfl rfl rfl (by decide +kernel) ⟨(Nat.le_of_ble_eq_true rfl), (Nat.le_of_ble_eq_true rfl)⟩) rfl rfl rfl hP hD hS hA [5, 6] [0, 1, 2, 3, 4] rfl rfl rfl rfl (by decide) rfl hl.1 rfl (Nat.le_of_ble_eq_true rfl) dX7_readKing_30 ⟨Nat.zero_le _, Nat.zero_le _⟩ (fun H locs hP hD hS => ?_)
  have hP : va_P D vwCl ([(tlo, .inr (6, [.int 1, .int r5, .int tl_death, .int tl_payers, .int tl_bids, .int tl_hostages, .int tl_bags, .int tl_bagMarks, .ref tl_goodsA, .ref tl_shyA, .ref tl_bidOfA, .ref tl_daysOfA])), (tl_goodsA, .inl (κ 0, 6, .inl tl_goods)), (tl_shyA, .inl (κ 0, 6, .inl tl_shy)), (tl_bidOfA, .inl (κ 0, 9, .inl tl_bidOf)), (tl_daysOfA, .inl (κ 0, 6, .inl tl_daysOf)), (txo, .inr (7, [.ref tx_signsA, .int tx_length, .int w11, .int w12, .int w13])), (tx_signsA, .inl (κ 0, 240, .inl tx_signs))]) H := hP
  have hD : va_D A ([(tlo, .inr (6, [.int 1, .int r5, .int tl_death, .int tl_payers, .int tl_bids, .int tl_hostages, .int tl_bags, .int tl_bagMarks, .ref tl_goodsA, .ref tl_shyA, .ref tl_bidOfA, .ref tl_daysOfA])), (tl_goodsA, .inl (κ 0, 6, .inl tl_goods)), (tl_shyA, .inl (κ 0, 6, .inl tl_shy)), (tl_bidOfA, .inl (κ 0, 9, .inl tl_bidOf)), (tl_daysOfA, .inl (κ 0, 6, .inl tl_daysOf)), (txo, .inr (7, [.ref tx_signsA, .int tx_length, .int w11, .int w12, .int w13])), (tx_signsA, .inl (κ 0, 240, .inl tx_signs))]) := hD
  refine va_putN (D := D) (ci := 6) (v := .int r10) (ty := .int) (C := RX6) (T := TX6) (N := 12) hx hb hts iw6 tyX6 tyX6_ok nmX6 hown hK.1 hP hD hS 0 rfl rfl 2 (by decide) (hK.fl 7 rfl) (fun _ h9 => h9) rfl (tyX6_ok 2 (by decide)) rfl rfl (Nat.le_of_ble_eq_true rfl) dX7_readKing_33 (fun H locs hP hD hS => ?_)
  have hP : va_P D vwCl ([(tlo, .inr (6, [.int 1, .int r5, .int r10, .int tl_payers, .int tl_bids, .int tl_hostages, .int tl_bags, .int tl_bagMarks, .ref tl_goodsA, .ref tl_shyA, .ref tl_bidOfA, .ref tl_daysOfA])), (tl_goodsA, .inl (κ 0, 6, .inl tl_goods)), (tl_shyA, .inl (κ 0, 6, .inl tl_shy)), (tl_bidOfA, .inl (κ 0, 9, .inl tl_bidOf)), (tl_daysOfA, .inl (κ 0, 6, .inl tl_daysOf)), (txo, .inr (7, [.ref tx_signsA, .int tx_length, .int w11, .int w12, .int w13])), (tx_signsA, .inl (κ 0, 240, .inl tx_signs))]) H := hP
  have hD : va_D A ([(tlo, .inr (6, [.int 1, .int r5, .int r10, .int tl_payers, .int tl_bids, .int tl_hostages, .int tl_bags, .int tl_bagMarks, .ref tl_goodsA, .ref tl_shyA, .ref tl_bidOfA, .ref tl_daysOfA])), (tl_goodsA, .inl (κ 0, 6, .inl tl_goods)), (tl_shyA, .inl (κ 0, 6, .inl tl_shy)), (tl_bidOfA, .inl (κ 0, 9, .inl tl_bidOf)), (tl_daysOfA, .inl (κ 0, 6, .inl tl_daysOf)), (txo, .inr (7, [.ref tx_signsA, .int tx_length, .int w11, .int w12, .int w13])), (tx_signsA, .inl (κ 0, 240, .inl tx_signs))]) := hD
  refine lv_aload_n hx hb dX7_readKing_36 rfl (lv_at hl 0 rfl) ?_
  obtain ⟨w15, w16, w17, hc18, hres⟩ := kb3_s hres
  refine krV_V (As := []) (rest := []) (wr := [(tlo, .inr (6, [.int 1, .int r5, .int r10, .int tl_payers, .int tl_bids, .int tl_hostages, .int tl_bags, .int tl_bagMarks, .ref tl_goodsA, .ref tl_shyA, .ref tl_bidOfA, .ref tl_daysOfA])), (tl_goodsA, .inl (κ 0, 6, .inl tl_goods)), (tl_shyA, .inl (κ 0, 6, .inl tl_shy)), (tl_bidOfA, .inl (κ 0, 9, .inl tl_bidOf)), (tl_daysOfA, .inl (κ 0, 6, .inl tl_daysOf))]) ⟨hx, hb, hml, hown, hts⟩ hK (tX7_close l D κ txo tx_signsA N tx_signs tx_length w11 w12 w13 w15 w16 w17 hc18) (cwV 0 hts gX7_readKing_X7_close rfl rfl rfl (by decide +kernel) ⟨(Nat.le_of_ble_eq_true rfl), (Nat.le_of_ble_eq_true rfl)⟩) rfl rfl rfl hP hD hS hA [5, 6] [0, 1, 2, 3, 4] rfl rfl rfl rfl (by decide) rfl hl.1 rfl (Nat.le_of_ble_eq_true rfl) dX7_readKing_37 ⟨Nat.zero_le _, Nat.zero_le _⟩ (fun H locs hP hD hS => ?_)
  have hP : va_P D vwCl ([(tlo, .inr (6, [.int 1, .int r5, .int r10, .int tl_payers, .int tl_bids, .int tl_hostages, .int tl_bags, .int tl_bagMarks, .ref tl_goodsA, .ref tl_shyA, .ref tl_bidOfA, .ref tl_daysOfA])), (tl_goodsA, .inl (κ 0, 6, .inl tl_goods)), (tl_shyA, .inl (κ 0, 6, .inl tl_shy)), (tl_bidOfA, .inl (κ 0, 9, .inl tl_bidOf)), (tl_daysOfA, .inl (κ 0, 6, .inl tl_daysOf)), (txo, .inr (7, [.ref tx_signsA, .int tx_length, .int w15, .int w16, .int w17])), (tx_signsA, .inl (κ 0, 240, .inl tx_signs))]) H := hP
  have hD : va_D A ([(tlo, .inr (6, [.int 1, .int r5, .int r10, .int tl_payers, .int tl_bids, .int tl_hostages, .int tl_bags, .int tl_bagMarks, .ref tl_goodsA, .ref tl_shyA, .ref tl_bidOfA, .ref tl_daysOfA])), (tl_goodsA, .inl (κ 0, 6, .inl tl_goods)), (tl_shyA, .inl (κ 0, 6, .inl tl_shy)), (tl_bidOfA, .inl (κ 0, 9, .inl tl_bidOf)), (tl_daysOfA, .inl (κ 0, 6, .inl tl_daysOf)), (txo, .inr (7, [.ref tx_signsA, .int tx_length, .int w15, .int w16, .int w17])), (tx_signsA, .inl (κ 0, 240, .inl tx_signs))]) := hD
  have hres := Option.some.inj hres
  have h0 := (Prod.mk.inj hres).1
  replace hres := (Prod.mk.inj hres).2
  have h1 := (Prod.mk.inj hres).1
  replace hres := (Prod.mk.inj hres).2
  have h2 := (Prod.mk.inj hres).1
  replace hres := (Prod.mk.inj hres).2
  have h3 := (Prod.mk.inj hres).1
  replace hres := (Prod.mk.inj hres).2
  have h4 := (Prod.mk.inj hres).1
  replace hres := (Prod.mk.inj hres).2
  have h5 := hres
  subst h0
  subst h1
  subst h2
  subst h3
  subst h4
  subst h5
  exact hret _ _ _ _ (hP.sub [5, 6, 0, 1, 2, 3, 4] rfl) (hD.sub [5, 6, 0, 1, 2, 3, 4] (by decide) rfl) hS dX7_readKing_40

def pX7_readPayer_L15 (N : Nat) (tx_signs : Nat → Int32) (tx_length : Int32) (tx_at : Int32) (tx_fault : Int32) (tx_place : Int32) (tl_payers : Int32) (tl_goods : Nat → Int32) (tl_shy : Nat → Int32) (s0 : Int32) : Option (Int32 × Int32 × Int32 × Int32 × (Nat → Int32) × (Nat → Int32)) :=
    kb3 (pX7_takeWord s0 tx_at tx_fault tx_place) fun w2 w3 w4 =>
    kb4 (pX7_number N 0 999 tx_signs tx_length w2 w3 w4) fun r6 w7 w8 w9 =>
    kb4 (pX7_number N 0 9 tx_signs tx_length w7 w8 w9) fun r11 w12 w13 w14 =>
    kb3 (pX6_addPayer r6 r11 tl_payers tl_goods tl_shy) fun w16 w17 w18 =>
    kb3 (pX7_close N tx_signs tx_length w12 w13 w14) fun w20 w21 w22 =>
    some (w20, w21, w22, w16, w17, w18)
def pX7_readPayer (N : Nat) (tx_signs : Nat → Int32) (tx_length : Int32) (tx_at : Int32) (tx_fault : Int32) (tx_place : Int32) (tl_payers : Int32) (tl_goods : Nat → Int32) (tl_shy : Nat → Int32) : Option (Int32 × Int32 × Int32 × Int32 × (Nat → Int32) × (Nat → Int32)) :=
    (if tl_payers < 6 then
    pX7_readPayer_L15 N tx_signs tx_length tx_at tx_fault tx_place tl_payers tl_goods tl_shy 0
    else
    pX7_readPayer_L15 N tx_signs tx_length tx_at tx_fault tx_place tl_payers tl_goods tl_shy 1)
set_option maxHeartbeats 8000000 in
set_option maxRecDepth 100000 in
theorem tX7_readPayer (l : Launch) (D : va_G) (κ : Nat → ClassId) (txo : Nat) (tx_signsA : Nat) (tlo : Nat) (tl_goodsA : Nat) (tl_shyA : Nat) (tl_bidOfA : Nat) (tl_daysOfA : Nat) (N : Nat) (tx_signs : Nat → Int32) (tx_length : Int32) (tx_at : Int32) (tx_fault : Int32) (tx_place : Int32) (tl_stands : Int32) (tl_price : Int32) (tl_death : Int32) (tl_payers : Int32) (tl_bids : Int32) (tl_hostages : Int32) (tl_bags : Int32) (tl_bagMarks : Int32) (tl_goods : Nat → Int32) (tl_shy : Nat → Int32) (tl_bidOf : Nat → Int32) (tl_daysOf : Nat → Int32) (z_tx_at : Int32) (z_tx_fault : Int32) (z_tx_place : Int32) (z_tl_payers : Int32) (z_tl_goods : Nat → Int32) (z_tl_shy : Nat → Int32) (hres : pX7_readPayer N tx_signs tx_length tx_at tx_fault tx_place tl_payers tl_goods tl_shy = some (z_tx_at, z_tx_fault, z_tx_place, z_tl_payers, z_tl_goods, z_tl_shy)) : krV l yX7_readPayer wsX7_readPayer { frames := 4, cells := 0, slots := 0, locals := 400 } D κ [.ref txo, .ref tlo] ([(txo, .inr (7, [.ref tx_signsA, .int tx_length, .int tx_at, .int tx_fault, .int tx_place])), (tx_signsA, .inl (κ 0, 240, .inl tx_signs)), (tlo, .inr (6, [.int tl_stands, .int tl_price, .int tl_death, .int tl_payers, .int tl_bids, .int tl_hostages, .int tl_bags, .int tl_bagMarks, .ref tl_goodsA, .ref tl_shyA, .ref tl_bidOfA, .ref tl_daysOfA])), (tl_goodsA, .inl (κ 0, 6, .inl tl_goods)), (tl_shyA, .inl (κ 0, 6, .inl tl_shy)), (tl_bidOfA, .inl (κ 0, 9, .inl tl_bidOf)), (tl_daysOfA, .inl (κ 0, 6, .inl tl_daysOf))]) ([(txo, .inr (7, [.ref tx_signsA, .int tx_length, .int z_tx_at, .int z_tx_fault, .int z_tx_place])), (tx_signsA, .inl (κ 0, 240, .inl tx_signs)), (tlo, .inr (6, [.int tl_stands, .int tl_price, .int tl_death, .int z_tl_payers, .int tl_bids, .int tl_hostages, .int tl_bags, .int tl_bagMarks, .ref tl_goodsA, .ref tl_shyA, .ref tl_bidOfA, .ref tl_daysOfA])), (tl_goodsA, .inl (κ 0, 6, .inl z_tl_goods)), (tl_shyA, .inl (κ 0, 6, .inl z_tl_shy)), (tl_bidOfA, .inl (κ 0, 9, .inl tl_bidOf)), (tl_daysOfA, .inl (κ 0, 6, .inl tl_daysOf))]) := by
  refine krV_of (cc := cX7_readPayer) (maxL := 4) (by decide) rfl (Nat.le_of_ble_eq_true rfl) ?_
  intro p e s m args below meth c A Q ls hx hb hml hown hts hK hA hret hP hD hS hl
  have hown : s.vm.findClass RX7 = some m.cls := hown
  have hl : lv_has ls 4 [(0, .ref txo), (1, .ref tlo)] := hl
  have iw6 : ∀ w ∈ u_ws RX6 TX6 12, w ∈ wsX7_readPayer := (fun _ h => List.mem_cons_of_mem _ (List.mem_append_left _ (List.mem_append_right _ h)))
  have k0 : (Cond.initialized RX6).before args s = true := hts _ (List.mem_of_getElem? (i := 31) rfl)
  have k1 : (Cond.instanceMethod yX6_addPayer).before args s = true := hts _ (List.mem_of_getElem? (i := 30) rfl)
  have k2 : (Cond.selects RX6 yX6_addPayer yX6_addPayer).before args s = true := hts _ (List.mem_of_getElem? (i := 32) rfl)
  have L15 : ∀ (s0 : Int32) (H : Heap) (locs : List Loc) (ls : Array Slot), va_P D vwCl ([(txo, .inr (7, [.ref tx_signsA, .int tx_length, .int tx_at, .int tx_fault, .int tx_place])), (tx_signsA, .inl (κ 0, 240, .inl tx_signs)), (tlo, .inr (6, [.int tl_stands, .int tl_price, .int tl_death, .int tl_payers, .int tl_bids, .int tl_hostages, .int tl_bags, .int tl_bagMarks, .ref tl_goodsA, .ref tl_shyA, .ref tl_bidOfA, .ref tl_daysOfA])), (tl_goodsA, .inl (κ 0, 6, .inl tl_goods)), (tl_shyA, .inl (κ 0, 6, .inl tl_shy)), (tl_bidOfA, .inl (κ 0, 9, .inl tl_bidOf)), (tl_daysOfA, .inl (κ 0, 6, .inl tl_daysOf))]) H → va_D A ([(txo, .inr (7, [.ref tx_signsA, .int tx_length, .int tx_at, .int tx_fault, .int tx_place])), (tx_signsA, .inl (κ 0, 240, .inl tx_signs)), (tlo, .inr (6, [.int tl_stands, .int tl_price, .int tl_death, .int tl_payers, .int tl_bids, .int tl_hostages, .int tl_bags, .int tl_bagMarks, .ref tl_goodsA, .ref tl_shyA, .ref tl_bidOfA, .ref tl_daysOfA])), (tl_goodsA, .inl (κ 0, 6, .inl tl_goods)), (tl_shyA, .inl (κ 0, 6, .inl tl_shy)), (tl_bidOfA, .inl (κ 0, 9, .inl tl_bidOf)), (tl_daysOfA, .inl (κ 0, 6, .inl tl_daysOf))]) → va_S A s.heap H locs → lv_has ls 4 [(0, .ref txo), (1, .ref tlo)] → pX7_readPayer_L15 N tx_signs tx_length tx_at tx_fault tx_place tl_payers tl_goods tl_shy s0 = some (z_tx_at, z_tx_fault, z_tx_place, z_tl_payers, z_tl_goods, z_tl_shy) → W p l e { frames := 4, cells := 0, slots := 0, locals := 400 } s m args below meth c H locs 0 0 Q (F0 m 15 ls [.int s0, .ref txo]) := by
    intro s0 H locs ls hP hD hS hl hres
    unfold pX7_readPayer_L15 at hres
    obtain ⟨w2, w3, w4, hc5, hres⟩ := kb3_s hres
    refine krV_V (As := [.int s0]) (rest := []) (wr := [(tlo, .inr (6, [.int tl_stands, .int tl_price, .int tl_death, .int tl_payers, .int tl_bids, .int tl_hostages, .int tl_bags, .int tl_bagMarks, .ref tl_goodsA, .ref tl_shyA, .ref tl_bidOfA, .ref tl_daysOfA])), (tl_goodsA, .inl (κ 0, 6, .inl tl_goods)), (tl_shyA, .inl (κ 0, 6, .inl tl_shy)), (tl_bidOfA, .inl (κ 0, 9, .inl tl_bidOf)), (tl_daysOfA, .inl (κ 0, 6, .inl tl_daysOf))]) ⟨hx, hb, hml, hown, hts⟩ hK (tX7_takeWord l D κ txo tx_signsA tx_signs tx_length tx_at tx_fault tx_place s0 w2 w3 w4 hc5) (cwV 1 hts gX7_readPayer_X7_takeWord rfl rfl rfl (by decide +kernel) ⟨(Nat.le_of_ble_eq_true rfl), (Nat.le_of_ble_eq_true rfl)⟩) rfl rfl rfl hP hD hS hA [0, 1] [2, 3, 4, 5, 6] rfl rfl rfl rfl (by decide) rfl hl.1 rfl (Nat.le_of_ble_eq_true rfl) dX7_readPayer_15 ⟨Nat.zero_le _, Nat.zero_le _⟩ (fun H locs hP hD hS => ?_)
    have hP : va_P D vwCl ([(tlo, .inr (6, [.int tl_stands, .int tl_price, .int tl_death, .int tl_payers, .int tl_bids, .int tl_hostages, .int tl_bags, .int tl_bagMarks, .ref tl_goodsA, .ref tl_shyA, .ref tl_bidOfA, .ref tl_daysOfA])), (tl_goodsA, .inl (κ 0, 6, .inl tl_goods)), (tl_shyA, .inl (κ 0, 6, .inl tl_shy)), (tl_bidOfA, .inl (κ 0, 9, .inl tl_bidOf)), (tl_daysOfA, .inl (κ 0, 6, .inl tl_daysOf)), (txo, .inr (7, [.ref tx_signsA, .int tx_length, .int w2, .int w3, .int w4])), (tx_signsA, .inl (κ 0, 240, .inl tx_signs))]) H := hP
    have hD : va_D A ([(tlo, .inr (6, [.int tl_stands, .int tl_price, .int tl_death, .int tl_payers, .int tl_bids, .int tl_hostages, .int tl_bags, .int tl_bagMarks, .ref tl_goodsA, .ref tl_shyA, .ref tl_bidOfA, .ref tl_daysOfA])), (tl_goodsA, .inl (κ 0, 6, .inl tl_goods)), (tl_shyA, .inl (κ 0, 6, .inl tl_shy)), (tl_bidOfA, .inl (κ 0, 9, .inl tl_bidOf)), (tl_daysOfA, .inl (κ 0, 6, .inl tl_daysOf)), (txo, .inr (7, [.ref tx_signsA, .int tx_length, .int w2, .int w3, .int w4])), (tx_signsA, .inl (κ 0, 240, .inl tx_signs))]) := hD
    refine lv_aload_n hx hb dX7_readPayer_18 rfl (lv_at hl 0 rfl) ?_
    refine lv_iconst (v := 0) hx hb dX7_readPayer_19 (by decide) ?_
    refine lv_sipush (v := 999) hx hb dX7_readPayer_20 (by decide) ?_
    obtain ⟨r6, w7, w8, w9, hc10, hres⟩ := kb4_s hres
    refine krI_V (As := [.int 0, .int 999]) (rest := []) (wr := [(tlo, .inr (6, [.int tl_stands, .int tl_price, .int tl_death, .int tl_payers, .int tl_bids, .int tl_hostages, .int tl_bags, .int tl_bagMarks, .ref tl_goodsA, .ref tl_shyA, .ref tl_bidOfA, .ref tl_daysOfA])), (tl_goodsA, .inl (κ 0, 6, .inl tl_goods)), (tl_shyA, .inl (κ 0, 6, .inl tl_shy)), (tl_bidOfA, .inl (κ 0, 9, .inl tl_bidOf)), (tl_daysOfA, .inl (κ 0, 6, .inl tl_daysOf))]) ⟨hx, hb, hml, hown, hts⟩ hK (tX7_number l D κ txo tx_signsA N tx_signs tx_length w2 w3 w4 0 999 r6 w7 w8 w9 hc10) (cwV 2 hts gX7_readPayer_X7_number rfl rfl rfl (by decide +kernel) ⟨(Nat.le_of_ble_eq_true rfl), (Nat.le_of_ble_eq_true rfl)⟩) rfl rfl rfl hP hD hS hA [5, 6] [0, 1, 2, 3, 4] rfl rfl rfl rfl (by decide) rfl hl.1 rfl (Nat.le_of_ble_eq_true rfl) dX7_readPayer_23 ⟨Nat.zero_le _, Nat.zero_le _⟩ (fun H locs hP hD hS => ?_)
    have hP : va_P D vwCl ([(tlo, .inr (6, [.int tl_stands, .int tl_price, .int tl_death, .int tl_payers, .int tl_bids, .int tl_hostages, .int tl_bags, .int tl_bagMarks, .ref tl_goodsA, .ref tl_shyA, .ref tl_bidOfA, .ref tl_daysOfA])), (tl_goodsA, .inl (κ 0, 6, .inl tl_goods)), (tl_shyA, .inl (κ 0, 6, .inl tl_shy)), (tl_bidOfA, .inl (κ 0, 9, .inl tl_bidOf)), (tl_daysOfA, .inl (κ 0, 6, .inl tl_daysOf)), (txo, .inr (7, [.ref tx_signsA, .int tx_length, .int w7, .int w8, .int w9])), (tx_signsA, .inl (κ 0, 240, .inl tx_signs))]) H := hP
    have hD : va_D A ([(tlo, .inr (6, [.int tl_stands, .int tl_price, .int tl_death, .int tl_payers, .int tl_bids, .int tl_hostages, .int tl_bags, .int tl_bagMarks, .ref tl_goodsA, .ref tl_shyA, .ref tl_bidOfA, .ref tl_daysOfA])), (tl_goodsA, .inl (κ 0, 6, .inl tl_goods)), (tl_shyA, .inl (κ 0, 6, .inl tl_shy)), (tl_bidOfA, .inl (κ 0, 9, .inl tl_bidOf)), (tl_daysOfA, .inl (κ 0, 6, .inl tl_daysOf)), (txo, .inr (7, [.ref tx_signsA, .int tx_length, .int w7, .int w8, .int w9])), (tx_signsA, .inl (κ 0, 240, .inl tx_signs))]) := hD
    refine lv_istore_n (lv' := [(2, .int r6), (0, .ref txo), (1, .ref tlo)]) hx hb dX7_readPayer_26 rfl hl (by decide) rfl (fun ls hl => ?_)
    refine lv_aload_n hx hb dX7_readPayer_27 rfl (lv_at hl 1 rfl) ?_
    refine lv_iconst (v := 0) hx hb dX7_readPayer_28 (by decide) ?_
    refine lv_bipush (v := 9) hx hb dX7_readPayer_29 (by decide) ?_
    obtain ⟨r11, w12, w13, w14, hc15, hres⟩ := kb4_s hres
    refine krI_V (As := [.int 0, .int 9]) (rest := []) (wr := [(tlo, .inr (6, [.int tl_stands, .int tl_price, .int tl_death, .int tl_payers, .int tl_bids, .int tl_hostages, .int tl_bags, .int tl_bagMarks, .ref tl_goodsA, .ref tl_shyA, .ref tl_bidOfA, .ref tl_daysOfA])), (tl_goodsA, .inl (κ 0, 6, .inl tl_goods)), (tl_shyA, .inl (κ 0, 6, .inl tl_shy)), (tl_bidOfA, .inl (κ 0, 9, .inl tl_bidOf)), (tl_daysOfA, .inl (κ 0, 6, .inl tl_daysOf))]) ⟨hx, hb, hml, hown, hts⟩ hK (tX7_number l D κ txo tx_signsA N tx_signs tx_length w7 w8 w9 0 9 r11 w12 w13 w14 hc15) (cwV 2 hts gX7_readPayer_X7_number rfl rfl rfl (by decide +kernel) ⟨(Nat.le_of_ble_eq_true rfl), (Nat.le_of_ble_eq_true rfl)⟩) rfl rfl rfl hP hD hS hA [5, 6] [0, 1, 2, 3, 4] rfl rfl rfl rfl (by decide) rfl hl.1 rfl (Nat.le_of_ble_eq_true rfl) dX7_readPayer_31 ⟨Nat.zero_le _, Nat.zero_le _⟩ (fun H locs hP hD hS => ?_)
    have hP : va_P D vwCl ([(tlo, .inr (6, [.int tl_stands, .int tl_price, .int tl_death, .int tl_payers, .int tl_bids, .int tl_hostages, .int tl_bags, .int tl_bagMarks, .ref tl_goodsA, .ref tl_shyA, .ref tl_bidOfA, .ref tl_daysOfA])), (tl_goodsA, .inl (κ 0, 6, .inl tl_goods)), (tl_shyA, .inl (κ 0, 6, .inl tl_shy)), (tl_bidOfA, .inl (κ 0, 9, .inl tl_bidOf)), (tl_daysOfA, .inl (κ 0, 6, .inl tl_daysOf)), (txo, .inr (7, [.ref tx_signsA, .int tx_length, .int w12, .int w13, .int w14])), (tx_signsA, .inl (κ 0, 240, .inl tx_signs))]) H := hP
    have hD : va_D A ([(tlo, .inr (6, [.int tl_stands, .int tl_price, .int tl_death, .int tl_payers, .int tl_bids, .int tl_hostages, .int tl_bags, .int tl_bagMarks, .ref tl_goodsA, .ref tl_shyA, .ref tl_bidOfA, .ref tl_daysOfA])), (tl_goodsA, .inl (κ 0, 6, .inl tl_goods)), (tl_shyA, .inl (κ 0, 6, .inl tl_shy)), (tl_bidOfA, .inl (κ 0, 9, .inl tl_bidOf)), (tl_daysOfA, .inl (κ 0, 6, .inl tl_daysOf)), (txo, .inr (7, [.ref tx_signsA, .int tx_length, .int w12, .int w13, .int w14])), (tx_signsA, .inl (κ 0, 240, .inl tx_signs))]) := hD
    refine lv_istore_n (lv' := [(3, .int r11), (2, .int r6), (0, .ref txo), (1, .ref tlo)]) hx hb dX7_readPayer_34 rfl hl (by decide) rfl (fun ls hl => ?_)
    refine lv_aload_n hx hb dX7_readPayer_35 rfl (lv_at hl 3 rfl) ?_
    refine lv_iload_n hx hb dX7_readPayer_36 rfl (lv_at hl 1 rfl) ?_
    refine lv_iload_n hx hb dX7_readPayer_37 rfl (lv_at hl 0 rfl) ?_
    obtain ⟨w16, w17, w18, hc19, hres⟩ := kb3_s hres
    refine krV_VN (As := [.int r6, .int r11]) (rest := []) (wr := [(txo, .inr (7, [.ref tx_signsA, .int tx_length, .int w12, .int w13, .int w14])), (tx_signsA, .inl (κ 0, 240, .inl tx_signs))]) ⟨hx, hb, hml, hown, hts⟩ hK (tX6_addPayer l D κ tlo tl_goodsA tl_shyA tl_bidOfA tl_daysOfA tl_stands tl_price tl_death tl_payers tl_bids tl_hostages tl_bags tl_bagMarks tl_goods tl_shy tl_bidOf tl_daysOf r6 r11 w16 w17 w18 hc19) ⟨va_cnB 2 hts gX7_readPayer_X6_addPayer_n87 rfl rfl rfl (hK.ml 13 rfl) k0 (by decide +kernel) ⟨(Nat.le_of_ble_eq_true rfl), (Nat.le_of_ble_eq_true rfl)⟩, k1, k2⟩ rfl rfl rfl hP hD hS hA [0, 1, 2, 3, 4] [5, 6] rfl rfl rfl rfl (by decide) rfl hl.1 rfl (Nat.le_of_ble_eq_true rfl) dX7_readPayer_38 ⟨Nat.zero_le _, Nat.zero_le _⟩ (fun H locs hP hD hS => ?_)
    have hP : va_P D vwCl ([(txo, .inr (7, [.ref tx_signsA, .int tx_length, .int w12, .int w13, .int w14])), (tx_signsA, .inl (κ 0, 240, .inl tx_signs)), (tlo, .inr (6, [.int tl_stands, .int tl_price, .int tl_death, .int w16, .int tl_bids, .int tl_hostages, .int tl_bags, .int tl_bagMarks, .ref tl_goodsA, .ref tl_shyA, .ref tl_bidOfA, .ref tl_daysOfA])), (tl_goodsA, .inl (κ 0, 6, .inl w17)), (tl_shyA, .inl (κ 0, 6, .inl w18)), (tl_bidOfA, .inl (κ 0, 9, .inl tl_bidOf)), (tl_daysOfA, .inl (κ 0, 6, .inl tl_daysOf))]) H := hP
    have hD : va_D A ([(txo, .inr (7, [.ref tx_signsA, .int tx_length, .int w12, .int w13, .int w14])), (tx_signsA, .inl (κ 0, 240, .inl tx_signs)), (tlo, .inr (6, [.int tl_stands, .int tl_price, .int tl_death, .int w16, .int tl_bids, .int tl_hostages, .int tl_bags, .int tl_bagMarks, .ref tl_goodsA, .ref tl_shyA, .ref tl_bidOfA, .ref tl_daysOfA])), (tl_goodsA, .inl (κ 0, 6, .inl w17)), (tl_shyA, .inl (κ 0, 6, .inl w18)), (tl_bidOfA, .inl (κ 0, 9, .inl tl_bidOf)), (tl_daysOfA, .inl (κ 0, 6, .inl tl_daysOf))]) := hD
    refine lv_aload_n hx hb dX7_readPayer_41 rfl (lv_at hl 2 rfl) ?_
    obtain ⟨w20, w21, w22, hc23, hres⟩ := kb3_s hres
    refine krV_V (As := []) (rest := []) (wr := [(tlo, .inr (6, [.int tl_stands, .int tl_price, .int tl_death, .int w16, .int tl_bids, .int tl_hostages, .int tl_bags, .int tl_bagMarks, .ref tl_goodsA, .ref tl_shyA, .ref tl_bidOfA, .ref tl_daysOfA])), (tl_goodsA, .inl (κ 0, 6, .inl w17)), (tl_shyA, .inl (κ 0, 6, .inl w18)), (tl_bidOfA, .inl (κ 0, 9, .inl tl_bidOf)), (tl_daysOfA, .inl (κ 0, 6, .inl tl_daysOf))]) ⟨hx, hb, hml, hown, hts⟩ hK (tX7_close l D κ txo tx_signsA N tx_signs tx_length w12 w13 w14 w20 w21 w22 hc23) (cwV 0 hts gX7_readPayer_X7_close rfl rfl rfl (by decide +kernel) ⟨(Nat.le_of_ble_eq_true rfl), (Nat.le_of_ble_eq_true rfl)⟩) rfl rfl rfl hP hD hS hA [0, 1] [2, 3, 4, 5, 6] rfl rfl rfl rfl (by decide) rfl hl.1 rfl (Nat.le_of_ble_eq_true rfl) dX7_readPayer_42 ⟨Nat.zero_le _, Nat.zero_le _⟩ (fun H locs hP hD hS => ?_)
    have hP : va_P D vwCl ([(tlo, .inr (6, [.int tl_stands, .int tl_price, .int tl_death, .int w16, .int tl_bids, .int tl_hostages, .int tl_bags, .int tl_bagMarks, .ref tl_goodsA, .ref tl_shyA, .ref tl_bidOfA, .ref tl_daysOfA])), (tl_goodsA, .inl (κ 0, 6, .inl w17)), (tl_shyA, .inl (κ 0, 6, .inl w18)), (tl_bidOfA, .inl (κ 0, 9, .inl tl_bidOf)), (tl_daysOfA, .inl (κ 0, 6, .inl tl_daysOf)), (txo, .inr (7, [.ref tx_signsA, .int tx_length, .int w20, .int w21, .int w22])), (tx_signsA, .inl (κ 0, 240, .inl tx_signs))]) H := hP
    have hD : va_D A ([(tlo, .inr (6, [.int tl_stands, .int tl_price, .int tl_death, .int w16, .int tl_bids, .int tl_hostages, .int tl_bags, .int tl_bagMarks, .ref tl_goodsA, .ref tl_shyA, .ref tl_bidOfA, .ref tl_daysOfA])), (tl_goodsA, .inl (κ 0, 6, .inl w17)), (tl_shyA, .inl (κ 0, 6, .inl w18)), (tl_bidOfA, .inl (κ 0, 9, .inl tl_bidOf)), (tl_daysOfA, .inl (κ 0, 6, .inl tl_daysOf)), (txo, .inr (7, [.ref tx_signsA, .int tx_length, .int w20, .int w21, .int w22])), (tx_signsA, .inl (κ 0, 240, .inl tx_signs))]) := hD
    have hres := Option.some.inj hres
    have h0 := (Prod.mk.inj hres).1
    replace hres := (Prod.mk.inj hres).2
    have h1 := (Prod.mk.inj hres).1
    replace hres := (Prod.mk.inj hres).2
    have h2 := (Prod.mk.inj hres).1
    replace hres := (Prod.mk.inj hres).2
    have h3 := (Prod.mk.inj hres).1
    replace hres := (Prod.mk.inj hres).2
    have h4 := (Prod.mk.inj hres).1
    replace hres := (Prod.mk.inj hres).2
    have h5 := hres
    subst h0
    subst h1
    subst h2
    subst h3
    subst h4
    subst h5
    exact hret _ _ _ _ (hP.sub [5, 6, 0, 1, 2, 3, 4] rfl) (hD.sub [5, 6, 0, 1, 2, 3, 4] (by decide) rfl) hS dX7_readPayer_45
  unfold pX7_readPayer at hres
  refine lv_aload_n hx hb dX7_readPayer_0 rfl (lv_at hl 0 rfl) ?_
  refine lv_aload_n hx hb dX7_readPayer_1 rfl (lv_at hl 1 rfl) ?_
  refine va_getN (D := D) (ci := 6) (v := .int tl_payers) (C := RX6) (T := TX6) (N := 12) hx hb hts iw6 hown hK.1 hP 2 rfl rfl 3 (by decide) (hK.fl 12 rfl) (fun _ h9 => h9) rfl dX7_readPayer_2 ?_
  refine lv_bipush (v := 6) hx hb dX7_readPayer_5 (by decide) ?_
  refine lv_icmp_lt (tgt := 14) hx hb dX7_readPayer_7 (by decide) (fun c1 => ?_) (fun c1 => ?_)
  · replace hres := og_t c1 hres
    refine lv_iconst (v := 0) hx hb dX7_readPayer_14 (by decide) ?_
    exact L15 0 _ _ _ hP hD hS (lv_sub hl [0, 1] rfl) hres
  · replace hres := og_f c1 hres
    refine lv_iconst (v := 1) hx hb dX7_readPayer_10 (by decide) ?_
    refine lv_goto (tgt := 15) hx hb dX7_readPayer_11 (by decide) ?_
    exact L15 1 _ _ _ hP hD hS (lv_sub hl [0, 1] rfl) hres

def pX7_readBids_L69 (N : Nat) (tx_signs : Nat → Int32) (tx_length : Int32) (w_tx_at : Int32) (w_tx_fault : Int32) (w_tx_place : Int32) (w_tl_bids : Int32) (w_tl_bidOf : Nat → Int32) : Option (Int32 × Int32 × Int32 × Int32 × (Nat → Int32)) :=
    kb3 (pX7_close N tx_signs tx_length w_tx_at w_tx_fault w_tx_place) fun w2 w3 w4 =>
    some (w2, w3, w4, w_tl_bids, w_tl_bidOf)
def pX7_readBids_L62 (k20 : Int32 → Int32 → Int32 → Int32 → Int32 → Int32 → (Nat → Int32) → Option (Int32 × Int32 × Int32 × Int32 × (Nat → Int32))) (v3 : Int32) (s0 : Int32) (w_tx_at : Int32) (w_tx_fault : Int32) (w_tx_place : Int32) (w_tl_bids : Int32) (w_tl_bidOf : Nat → Int32) : Option (Int32 × Int32 × Int32 × Int32 × (Nat → Int32)) :=
    k20 s0 (v3 + 1) w_tx_at w_tx_fault w_tx_place w_tl_bids w_tl_bidOf
def pX7_readBids_L61 (k20 : Int32 → Int32 → Int32 → Int32 → Int32 → Int32 → (Nat → Int32) → Option (Int32 × Int32 × Int32 × Int32 × (Nat → Int32))) (v3 : Int32) (w_tx_at : Int32) (w_tx_fault : Int32) (w_tx_place : Int32) (w_tl_bids : Int32) (w_tl_bidOf : Nat → Int32) : Option (Int32 × Int32 × Int32 × Int32 × (Nat → Int32)) :=
    pX7_readBids_L62 k20 v3 0 w_tx_at w_tx_fault w_tx_place w_tl_bids w_tl_bidOf
def pX7_readBids_L20 (N : Nat) (tx_signs : Nat → Int32) (tx_length : Int32) : Nat → Int32 → Int32 → Int32 → Int32 → Int32 → Int32 → (Nat → Int32) → Option (Int32 × Int32 × Int32 × Int32 × (Nat → Int32))
  | 0, _, _, _, _, _, _, _ => none
  | n20 + 1, v2, v3, w_tx_at, w_tx_fault, w_tx_place, w_tl_bids, w_tl_bidOf =>
    (if 9 < v3 then
    pX7_readBids_L69 N tx_signs tx_length w_tx_at w_tx_fault w_tx_place w_tl_bids w_tl_bidOf
    else
    (if v2 = 0 then
    pX7_readBids_L69 N tx_signs tx_length w_tx_at w_tx_fault w_tx_place w_tl_bids w_tl_bidOf
    else
    kb4 (pX7_number N 0 999 tx_signs tx_length w_tx_at w_tx_fault w_tx_place) fun r8 w9 w10 w11 =>
    kb2 (pX6_addBid r8 w_tl_bids w_tl_bidOf) fun w13 w14 =>
    (if 9 ≤ v3 then
    pX7_readBids_L61 (pX7_readBids_L20 N tx_signs tx_length n20) v3 w9 w10 w11 w13 w14
    else
    kb2 (pX7_takes N 44 tx_signs tx_length w9) fun r17 w18 =>
    (if r17 = 0 then
    pX7_readBids_L61 (pX7_readBids_L20 N tx_signs tx_length n20) v3 w18 w10 w11 w13 w14
    else
    pX7_readBids_L62 (pX7_readBids_L20 N tx_signs tx_length n20) v3 1 w18 w10 w11 w13 w14))))
def pX7_readBids_L13 (N : Nat) (tx_signs : Nat → Int32) (tx_length : Int32) (tx_at : Int32) (tx_fault : Int32) (tx_place : Int32) (tl_bids : Int32) (tl_bidOf : Nat → Int32) (s0 : Int32) : Option (Int32 × Int32 × Int32 × Int32 × (Nat → Int32)) :=
    kb3 (pX7_takeWord s0 tx_at tx_fault tx_place) fun w21 w22 w23 =>
    pX7_readBids_L20 N tx_signs tx_length N 1 1 w21 w22 w23 tl_bids tl_bidOf
def pX7_readBids (N : Nat) (tx_signs : Nat → Int32) (tx_length : Int32) (tx_at : Int32) (tx_fault : Int32) (tx_place : Int32) (tl_bids : Int32) (tl_bidOf : Nat → Int32) : Option (Int32 × Int32 × Int32 × Int32 × (Nat → Int32)) :=
    (if tl_bids ≤ 0 then
    pX7_readBids_L13 N tx_signs tx_length tx_at tx_fault tx_place tl_bids tl_bidOf 0
    else
    pX7_readBids_L13 N tx_signs tx_length tx_at tx_fault tx_place tl_bids tl_bidOf 1)
set_option maxHeartbeats 8000000 in
set_option maxRecDepth 100000 in
theorem tX7_readBids (l : Launch) (D : va_G) (κ : Nat → ClassId) (txo : Nat) (tx_signsA : Nat) (tlo : Nat) (tl_goodsA : Nat) (tl_shyA : Nat) (tl_bidOfA : Nat) (tl_daysOfA : Nat) (N : Nat) (tx_signs : Nat → Int32) (tx_length : Int32) (tx_at : Int32) (tx_fault : Int32) (tx_place : Int32) (tl_stands : Int32) (tl_price : Int32) (tl_death : Int32) (tl_payers : Int32) (tl_bids : Int32) (tl_hostages : Int32) (tl_bags : Int32) (tl_bagMarks : Int32) (tl_goods : Nat → Int32) (tl_shy : Nat → Int32) (tl_bidOf : Nat → Int32) (tl_daysOf : Nat → Int32) (z_tx_at : Int32) (z_tx_fault : Int32) (z_tx_place : Int32) (z_tl_bids : Int32) (z_tl_bidOf : Nat → Int32) (hres : pX7_readBids N tx_signs tx_length tx_at tx_fault tx_place tl_bids tl_bidOf = some (z_tx_at, z_tx_fault, z_tx_place, z_tl_bids, z_tl_bidOf)) : krV l yX7_readBids wsX7_readBids { frames := 4, cells := 0, slots := 0, locals := 400 } D κ [.ref txo, .ref tlo] ([(txo, .inr (7, [.ref tx_signsA, .int tx_length, .int tx_at, .int tx_fault, .int tx_place])), (tx_signsA, .inl (κ 0, 240, .inl tx_signs)), (tlo, .inr (6, [.int tl_stands, .int tl_price, .int tl_death, .int tl_payers, .int tl_bids, .int tl_hostages, .int tl_bags, .int tl_bagMarks, .ref tl_goodsA, .ref tl_shyA, .ref tl_bidOfA, .ref tl_daysOfA])), (tl_goodsA, .inl (κ 0, 6, .inl tl_goods)), (tl_shyA, .inl (κ 0, 6, .inl tl_shy)), (tl_bidOfA, .inl (κ 0, 9, .inl tl_bidOf)), (tl_daysOfA, .inl (κ 0, 6, .inl tl_daysOf))]) ([(txo, .inr (7, [.ref tx_signsA, .int tx_length, .int z_tx_at, .int z_tx_fault, .int z_tx_place])), (tx_signsA, .inl (κ 0, 240, .inl tx_signs)), (tlo, .inr (6, [.int tl_stands, .int tl_price, .int tl_death, .int tl_payers, .int z_tl_bids, .int tl_hostages, .int tl_bags, .int tl_bagMarks, .ref tl_goodsA, .ref tl_shyA, .ref tl_bidOfA, .ref tl_daysOfA])), (tl_goodsA, .inl (κ 0, 6, .inl tl_goods)), (tl_shyA, .inl (κ 0, 6, .inl tl_shy)), (tl_bidOfA, .inl (κ 0, 9, .inl z_tl_bidOf)), (tl_daysOfA, .inl (κ 0, 6, .inl tl_daysOf))]) := by
  refine krV_of (cc := cX7_readBids) (maxL := 4) (by decide) rfl (Nat.le_of_ble_eq_true rfl) ?_
  intro p e s m args below meth c A Q ls hx hb hml hown hts hK hA hret hP hD hS hl
  have hown : s.vm.findClass RX7 = some m.cls := hown
  have hl : lv_has ls 4 [(0, .ref txo), (1, .ref tlo)] := hl
  have iw6 : ∀ w ∈ u_ws RX6 TX6 12, w ∈ wsX7_readBids := (fun _ h => List.mem_cons_of_mem _ (List.mem_append_left _ (List.mem_append_right _ h)))
  have k0 : (Cond.initialized RX6).before args s = true := hts _ (List.mem_of_getElem? (i := 31) rfl)
  have k1 : (Cond.instanceMethod yX6_addBid).before args s = true := hts _ (List.mem_of_getElem? (i := 30) rfl)
  have k2 : (Cond.selects RX6 yX6_addBid yX6_addBid).before args s = true := hts _ (List.mem_of_getElem? (i := 32) rfl)
  have L69 : ∀ (w_tx_at : Int32) (w_tx_fault : Int32) (w_tx_place : Int32) (w_tl_bids : Int32) (w_tl_bidOf : Nat → Int32) (H : Heap) (locs : List Loc) (ls : Array Slot), va_P D vwCl ([(txo, .inr (7, [.ref tx_signsA, .int tx_length, .int w_tx_at, .int w_tx_fault, .int w_tx_place])), (tx_signsA, .inl (κ 0, 240, .inl tx_signs)), (tlo, .inr (6, [.int tl_stands, .int tl_price, .int tl_death, .int tl_payers, .int w_tl_bids, .int tl_hostages, .int tl_bags, .int tl_bagMarks, .ref tl_goodsA, .ref tl_shyA, .ref tl_bidOfA, .ref tl_daysOfA])), (tl_goodsA, .inl (κ 0, 6, .inl tl_goods)), (tl_shyA, .inl (κ 0, 6, .inl tl_shy)), (tl_bidOfA, .inl (κ 0, 9, .inl w_tl_bidOf)), (tl_daysOfA, .inl (κ 0, 6, .inl tl_daysOf))]) H → va_D A ([(txo, .inr (7, [.ref tx_signsA, .int tx_length, .int w_tx_at, .int w_tx_fault, .int w_tx_place])), (tx_signsA, .inl (κ 0, 240, .inl tx_signs)), (tlo, .inr (6, [.int tl_stands, .int tl_price, .int tl_death, .int tl_payers, .int w_tl_bids, .int tl_hostages, .int tl_bags, .int tl_bagMarks, .ref tl_goodsA, .ref tl_shyA, .ref tl_bidOfA, .ref tl_daysOfA])), (tl_goodsA, .inl (κ 0, 6, .inl tl_goods)), (tl_shyA, .inl (κ 0, 6, .inl tl_shy)), (tl_bidOfA, .inl (κ 0, 9, .inl w_tl_bidOf)), (tl_daysOfA, .inl (κ 0, 6, .inl tl_daysOf))]) → va_S A s.heap H locs → lv_has ls 4 [(0, .ref txo)] → pX7_readBids_L69 N tx_signs tx_length w_tx_at w_tx_fault w_tx_place w_tl_bids w_tl_bidOf = some (z_tx_at, z_tx_fault, z_tx_place, z_tl_bids, z_tl_bidOf) → W p l e { frames := 4, cells := 0, slots := 0, locals := 400 } s m args below meth c H locs 0 0 Q (F0 m 69 ls []) := by
    intro w_tx_at w_tx_fault w_tx_place w_tl_bids w_tl_bidOf H locs ls hP hD hS hl hres
    unfold pX7_readBids_L69 at hres
    refine lv_aload_n hx hb dX7_readBids_69 rfl (lv_at hl 0 rfl) ?_
    obtain ⟨w2, w3, w4, hc5, hres⟩ := kb3_s hres
    refine krV_V (As := []) (rest := []) (wr := [(tlo, .inr (6, [.int tl_stands, .int tl_price, .int tl_death, .int tl_payers, .int w_tl_bids, .int tl_hostages, .int tl_bags, .int tl_bagMarks, .ref tl_goodsA, .ref tl_shyA, .ref tl_bidOfA, .ref tl_daysOfA])), (tl_goodsA, .inl (κ 0, 6, .inl tl_goods)), (tl_shyA, .inl (κ 0, 6, .inl tl_shy)), (tl_bidOfA, .inl (κ 0, 9, .inl w_tl_bidOf)), (tl_daysOfA, .inl (κ 0, 6, .inl tl_daysOf))]) ⟨hx, hb, hml, hown, hts⟩ hK (tX7_close l D κ txo tx_signsA N tx_signs tx_length w_tx_at w_tx_fault w_tx_place w2 w3 w4 hc5) (cwV 0 hts gX7_readBids_X7_close rfl rfl rfl (by decide +kernel) ⟨(Nat.le_of_ble_eq_true rfl), (Nat.le_of_ble_eq_true rfl)⟩) rfl rfl rfl hP hD hS hA [0, 1] [2, 3, 4, 5, 6] rfl rfl rfl rfl (by decide) rfl hl.1 rfl (Nat.le_of_ble_eq_true rfl) dX7_readBids_70 ⟨Nat.zero_le _, Nat.zero_le _⟩ (fun H locs hP hD hS => ?_)
    have hP : va_P D vwCl ([(tlo, .inr (6, [.int tl_stands, .int tl_price, .int tl_death, .int tl_payers, .int w_tl_bids, .int tl_hostages, .int tl_bags, .int tl_bagMarks, .ref tl_goodsA, .ref tl_shyA, .ref tl_bidOfA, .ref tl_daysOfA])), (tl_goodsA, .inl (κ 0, 6, .inl tl_goods)), (tl_shyA, .inl (κ 0, 6, .inl tl_shy)), (tl_bidOfA, .inl (κ 0, 9, .inl w_tl_bidOf)), (tl_daysOfA, .inl (κ 0, 6, .inl tl_daysOf)), (txo, .inr (7, [.ref tx_signsA, .int tx_length, .int w2, .int w3, .int w4])), (tx_signsA, .inl (κ 0, 240, .inl tx_signs))]) H := hP
    have hD : va_D A ([(tlo, .inr (6, [.int tl_stands, .int tl_price, .int tl_death, .int tl_payers, .int w_tl_bids, .int tl_hostages, .int tl_bags, .int tl_bagMarks, .ref tl_goodsA, .ref tl_shyA, .ref tl_bidOfA, .ref tl_daysOfA])), (tl_goodsA, .inl (κ 0, 6, .inl tl_goods)), (tl_shyA, .inl (κ 0, 6, .inl tl_shy)), (tl_bidOfA, .inl (κ 0, 9, .inl w_tl_bidOf)), (tl_daysOfA, .inl (κ 0, 6, .inl tl_daysOf)), (txo, .inr (7, [.ref tx_signsA, .int tx_length, .int w2, .int w3, .int w4])), (tx_signsA, .inl (κ 0, 240, .inl tx_signs))]) := hD
    have hres := Option.some.inj hres
    have h0 := (Prod.mk.inj hres).1
    replace hres := (Prod.mk.inj hres).2
    have h1 := (Prod.mk.inj hres).1
    replace hres := (Prod.mk.inj hres).2
    have h2 := (Prod.mk.inj hres).1
    replace hres := (Prod.mk.inj hres).2
    have h3 := (Prod.mk.inj hres).1
    replace hres := (Prod.mk.inj hres).2
    have h4 := hres
    subst h0
    subst h1
    subst h2
    subst h3
    subst h4
    exact hret _ _ _ _ (hP.sub [5, 6, 0, 1, 2, 3, 4] rfl) (hD.sub [5, 6, 0, 1, 2, 3, 4] (by decide) rfl) hS dX7_readBids_73
  have L20 : ∀ (n20 : Nat) (v2 : Int32) (v3 : Int32) (w_tx_at : Int32) (w_tx_fault : Int32) (w_tx_place : Int32) (w_tl_bids : Int32) (w_tl_bidOf : Nat → Int32) (H : Heap) (locs : List Loc) (ls : Array Slot), va_P D vwCl ([(txo, .inr (7, [.ref tx_signsA, .int tx_length, .int w_tx_at, .int w_tx_fault, .int w_tx_place])), (tx_signsA, .inl (κ 0, 240, .inl tx_signs)), (tlo, .inr (6, [.int tl_stands, .int tl_price, .int tl_death, .int tl_payers, .int w_tl_bids, .int tl_hostages, .int tl_bags, .int tl_bagMarks, .ref tl_goodsA, .ref tl_shyA, .ref tl_bidOfA, .ref tl_daysOfA])), (tl_goodsA, .inl (κ 0, 6, .inl tl_goods)), (tl_shyA, .inl (κ 0, 6, .inl tl_shy)), (tl_bidOfA, .inl (κ 0, 9, .inl w_tl_bidOf)), (tl_daysOfA, .inl (κ 0, 6, .inl tl_daysOf))]) H → va_D A ([(txo, .inr (7, [.ref tx_signsA, .int tx_length, .int w_tx_at, .int w_tx_fault, .int w_tx_place])), (tx_signsA, .inl (κ 0, 240, .inl tx_signs)), (tlo, .inr (6, [.int tl_stands, .int tl_price, .int tl_death, .int tl_payers, .int w_tl_bids, .int tl_hostages, .int tl_bags, .int tl_bagMarks, .ref tl_goodsA, .ref tl_shyA, .ref tl_bidOfA, .ref tl_daysOfA])), (tl_goodsA, .inl (κ 0, 6, .inl tl_goods)), (tl_shyA, .inl (κ 0, 6, .inl tl_shy)), (tl_bidOfA, .inl (κ 0, 9, .inl w_tl_bidOf)), (tl_daysOfA, .inl (κ 0, 6, .inl tl_daysOf))]) → va_S A s.heap H locs → lv_has ls 4 [(0, .ref txo), (1, .ref tlo), (2, .int v2), (3, .int v3)] → pX7_readBids_L20 N tx_signs tx_length n20 v2 v3 w_tx_at w_tx_fault w_tx_place w_tl_bids w_tl_bidOf = some (z_tx_at, z_tx_fault, z_tx_place, z_tl_bids, z_tl_bidOf) → W p l e { frames := 4, cells := 0, slots := 0, locals := 400 } s m args below meth c H locs 0 0 Q (F0 m 20 ls []) := by
    intro n20
    induction n20 with
    | zero =>
      intro v2 v3 w_tx_at w_tx_fault w_tx_place w_tl_bids w_tl_bidOf H locs ls hP hD hS hl hres
      exact absurd (show none = some _ from hres) (by simp)
    | succ n20 ih20 =>
      intro v2 v3 w_tx_at w_tx_fault w_tx_place w_tl_bids w_tl_bidOf H locs ls hP hD hS hl hres
      have L62 : ∀ (v3 : Int32) (s0 : Int32) (w_tx_at : Int32) (w_tx_fault : Int32) (w_tx_place : Int32) (w_tl_bids : Int32) (w_tl_bidOf : Nat → Int32) (H : Heap) (locs : List Loc) (ls : Array Slot), va_P D vwCl ([(txo, .inr (7, [.ref tx_signsA, .int tx_length, .int w_tx_at, .int w_tx_fault, .int w_tx_place])), (tx_signsA, .inl (κ 0, 240, .inl tx_signs)), (tlo, .inr (6, [.int tl_stands, .int tl_price, .int tl_death, .int tl_payers, .int w_tl_bids, .int tl_hostages, .int tl_bags, .int tl_bagMarks, .ref tl_goodsA, .ref tl_shyA, .ref tl_bidOfA, .ref tl_daysOfA])), (tl_goodsA, .inl (κ 0, 6, .inl tl_goods)), (tl_shyA, .inl (κ 0, 6, .inl tl_shy)), (tl_bidOfA, .inl (κ 0, 9, .inl w_tl_bidOf)), (tl_daysOfA, .inl (κ 0, 6, .inl tl_daysOf))]) H → va_D A ([(txo, .inr (7, [.ref tx_signsA, .int tx_length, .int w_tx_at, .int w_tx_fault, .int w_tx_place])), (tx_signsA, .inl (κ 0, 240, .inl tx_signs)), (tlo, .inr (6, [.int tl_stands, .int tl_price, .int tl_death, .int tl_payers, .int w_tl_bids, .int tl_hostages, .int tl_bags, .int tl_bagMarks, .ref tl_goodsA, .ref tl_shyA, .ref tl_bidOfA, .ref tl_daysOfA])), (tl_goodsA, .inl (κ 0, 6, .inl tl_goods)), (tl_shyA, .inl (κ 0, 6, .inl tl_shy)), (tl_bidOfA, .inl (κ 0, 9, .inl w_tl_bidOf)), (tl_daysOfA, .inl (κ 0, 6, .inl tl_daysOf))]) → va_S A s.heap H locs → lv_has ls 4 [(0, .ref txo), (1, .ref tlo), (3, .int v3)] → pX7_readBids_L62 (pX7_readBids_L20 N tx_signs tx_length n20) v3 s0 w_tx_at w_tx_fault w_tx_place w_tl_bids w_tl_bidOf = some (z_tx_at, z_tx_fault, z_tx_place, z_tl_bids, z_tl_bidOf) → W p l e { frames := 4, cells := 0, slots := 0, locals := 400 } s m args below meth c H locs 0 0 Q (F0 m 62 ls [.int s0]) := by
        intro v3 s0 w_tx_at w_tx_fault w_tx_place w_tl_bids w_tl_bidOf H locs ls hP hD hS hl hres
        unfold pX7_readBids_L62 at hres
        refine lv_istore_n (lv' := [(2, .int s0), (0, .ref txo), (1, .ref tlo), (3, .int v3)]) hx hb dX7_readBids_62 rfl hl (by decide) rfl (fun ls hl => ?_)
        refine lv_iinc (v := (v3 + 1)) (lv' := [(3, .int (v3 + 1)), (2, .int s0), (0, .ref txo), (1, .ref tlo)]) hx hb dX7_readBids_63 hl (k := 3) rfl rfl (by decide) rfl (fun ls hl => ?_)
        refine lv_goto (tgt := 20) hx hb dX7_readBids_66 (by decide) ?_
        exact ih20 s0 (v3 + 1) w_tx_at w_tx_fault w_tx_place w_tl_bids w_tl_bidOf _ _ _ hP hD hS (lv_sub hl [2, 3, 1, 0] rfl) hres
      have L61 : ∀ (v3 : Int32) (w_tx_at : Int32) (w_tx_fault : Int32) (w_tx_place : Int32) (w_tl_bids : Int32) (w_tl_bidOf : Nat → Int32) (H : Heap) (locs : List Loc) (ls : Array Slot), va_P D vwCl ([(txo, .inr (7, [.ref tx_signsA, .int tx_length, .int w_tx_at, .int w_tx_fault, .int w_tx_place])), (tx_signsA, .inl (κ 0, 240, .inl tx_signs)), (tlo, .inr (6, [.int tl_stands, .int tl_price, .int tl_death, .int tl_payers, .int w_tl_bids, .int tl_hostages, .int tl_bags, .int tl_bagMarks, .ref tl_goodsA, .ref tl_shyA, .ref tl_bidOfA, .ref tl_daysOfA])), (tl_goodsA, .inl (κ 0, 6, .inl tl_goods)), (tl_shyA, .inl (κ 0, 6, .inl tl_shy)), (tl_bidOfA, .inl (κ 0, 9, .inl w_tl_bidOf)), (tl_daysOfA, .inl (κ 0, 6, .inl tl_daysOf))]) H → va_D A ([(txo, .inr (7, [.ref tx_signsA, .int tx_length, .int w_tx_at, .int w_tx_fault, .int w_tx_place])), (tx_signsA, .inl (κ 0, 240, .inl tx_signs)), (tlo, .inr (6, [.int tl_stands, .int tl_price, .int tl_death, .int tl_payers, .int w_tl_bids, .int tl_hostages, .int tl_bags, .int tl_bagMarks, .ref tl_goodsA, .ref tl_shyA, .ref tl_bidOfA, .ref tl_daysOfA])), (tl_goodsA, .inl (κ 0, 6, .inl tl_goods)), (tl_shyA, .inl (κ 0, 6, .inl tl_shy)), (tl_bidOfA, .inl (κ 0, 9, .inl w_tl_bidOf)), (tl_daysOfA, .inl (κ 0, 6, .inl tl_daysOf))]) → va_S A s.heap H locs → lv_has ls 4 [(0, .ref txo), (1, .ref tlo), (3, .int v3)] → pX7_readBids_L61 (pX7_readBids_L20 N tx_signs tx_length n20) v3 w_tx_at w_tx_fault w_tx_place w_tl_bids w_tl_bidOf = some (z_tx_at, z_tx_fault, z_tx_place, z_tl_bids, z_tl_bidOf) → W p l e { frames := 4, cells := 0, slots := 0, locals := 400 } s m args below meth c H locs 0 0 Q (F0 m 61 ls []) := by
        intro v3 w_tx_at w_tx_fault w_tx_place w_tl_bids w_tl_bidOf H locs ls hP hD hS hl hres
        unfold pX7_readBids_L61 at hres
        refine lv_iconst (v := 0) hx hb dX7_readBids_61 (by decide) ?_
        exact L62 v3 0 w_tx_at w_tx_fault w_tx_place w_tl_bids w_tl_bidOf _ _ _ hP hD hS (lv_sub hl [0, 1, 2] rfl) hres
      rw [pX7_readBids_L20] at hres
      refine lv_iload_n hx hb dX7_readBids_20 rfl (lv_at hl 3 rfl) ?_
      refine lv_bipush (v := 9) hx hb dX7_readBids_21 (by decide) ?_
      refine lv_icmp_gt (tgt := 69) hx hb dX7_readBids_23 (by decide) (fun c6 => ?_) (fun c6 => ?_)
      · replace hres := og_t c6 hres
        exact L69 w_tx_at w_tx_fault w_tx_place w_tl_bids w_tl_bidOf _ _ _ hP hD hS (lv_sub hl [0] rfl) hres
      · replace hres := og_f c6 hres
        refine lv_iload_n hx hb dX7_readBids_26 rfl (lv_at hl 2 rfl) ?_
        refine lv_if_eq (tgt := 69) hx hb dX7_readBids_27 (by decide) (fun c7 => ?_) (fun c7 => ?_)
        · replace hres := og_t c7 hres
          exact L69 w_tx_at w_tx_fault w_tx_place w_tl_bids w_tl_bidOf _ _ _ hP hD hS (lv_sub hl [0] rfl) hres
        · replace hres := og_f c7 hres
          refine lv_aload_n hx hb dX7_readBids_30 rfl (lv_at hl 1 rfl) ?_
          refine lv_aload_n hx hb dX7_readBids_31 rfl (lv_at hl 0 rfl) ?_
          refine lv_iconst (v := 0) hx hb dX7_readBids_32 (by decide) ?_
          refine lv_sipush (v := 999) hx hb dX7_readBids_33 (by decide) ?_
          obtain ⟨r8, w9, w10, w11, hc12, hres⟩ := kb4_s hres
          refine krI_V (As := [.int 0, .int 999]) (rest := [.ref tlo]) (wr := [(tlo, .inr (6, [.int tl_stands, .int tl_price, .int tl_death, .int tl_payers, .int w_tl_bids, .int tl_hostages, .int tl_bags, .int tl_bagMarks, .ref tl_goodsA, .ref tl_shyA, .ref tl_bidOfA, .ref tl_daysOfA])), (tl_goodsA, .inl (κ 0, 6, .inl tl_goods)), (tl_shyA, .inl (κ 0, 6, .inl tl_shy)), (tl_bidOfA, .inl (κ 0, 9, .inl w_tl_bidOf)), (tl_daysOfA, .inl (κ 0, 6, .inl tl_daysOf))]) ⟨hx, hb, hml, hown, hts⟩ hK (tX7_number l D κ txo tx_signsA N tx_signs tx_length w_tx_at w_tx_fault w_tx_place 0 999 r8 w9 w10 w11 hc12) (cwV 2 hts gX7_readBids_X7_number rfl rfl rfl (by decide +kernel) ⟨(Nat.le_of_ble_eq_true rfl), (Nat.le_of_ble_eq_true rfl)⟩) rfl rfl rfl hP hD hS hA [0, 1] [2, 3, 4, 5, 6] rfl rfl rfl rfl (by decide) rfl hl.1 rfl (Nat.le_of_ble_eq_true rfl) dX7_readBids_36 ⟨Nat.zero_le _, Nat.zero_le _⟩ (fun H locs hP hD hS => ?_)
          have hP : va_P D vwCl ([(tlo, .inr (6, [.int tl_stands, .int tl_price, .int tl_death, .int tl_payers, .int w_tl_bids, .int tl_hostages, .int tl_bags, .int tl_bagMarks, .ref tl_goodsA, .ref tl_shyA, .ref tl_bidOfA, .ref tl_daysOfA])), (tl_goodsA, .inl (κ 0, 6, .inl tl_goods)), (tl_shyA, .inl (κ 0, 6, .inl tl_shy)), (tl_bidOfA, .inl (κ 0, 9, .inl w_tl_bidOf)), (tl_daysOfA, .inl (κ 0, 6, .inl tl_daysOf)), (txo, .inr (7, [.ref tx_signsA, .int tx_length, .int w9, .int w10, .int w11])), (tx_signsA, .inl (κ 0, 240, .inl tx_signs))]) H := hP
          have hD : va_D A ([(tlo, .inr (6, [.int tl_stands, .int tl_price, .int tl_death, .int tl_payers, .int w_tl_bids, .int tl_hostages, .int tl_bags, .int tl_bagMarks, .ref tl_goodsA, .ref tl_shyA, .ref tl_bidOfA, .ref tl_daysOfA])), (tl_goodsA, .inl (κ 0, 6, .inl tl_goods)), (tl_shyA, .inl (κ 0, 6, .inl tl_shy)), (tl_bidOfA, .inl (κ 0, 9, .inl w_tl_bidOf)), (tl_daysOfA, .inl (κ 0, 6, .inl tl_daysOf)), (txo, .inr (7, [.ref tx_signsA, .int tx_length, .int w9, .int w10, .int w11])), (tx_signsA, .inl (κ 0, 240, .inl tx_signs))]) := hD
          obtain ⟨w13, w14, hc15, hres⟩ := kb2_s hres
          refine krV_VN (As := [.int r8]) (rest := []) (wr := [(txo, .inr (7, [.ref tx_signsA, .int tx_length, .int w9, .int w10, .int w11])), (tx_signsA, .inl (κ 0, 240, .inl tx_signs))]) ⟨hx, hb, hml, hown, hts⟩ hK (tX6_addBid l D κ tlo tl_goodsA tl_shyA tl_bidOfA tl_daysOfA tl_stands tl_price tl_death tl_payers w_tl_bids tl_hostages tl_bags tl_bagMarks tl_goods tl_shy w_tl_bidOf tl_daysOf r8 w13 w14 hc15) ⟨va_cnB 1 hts gX7_readBids_X6_addBid_n93 rfl rfl rfl (hK.ml 14 rfl) k0 (by decide +kernel) ⟨(Nat.le_of_ble_eq_true rfl), (Nat.le_of_ble_eq_true rfl)⟩, k1, k2⟩ rfl rfl rfl hP hD hS hA [0, 1, 2, 3, 4] [5, 6] rfl rfl rfl rfl (by decide) rfl hl.1 rfl (Nat.le_of_ble_eq_true rfl) dX7_readBids_39 ⟨Nat.zero_le _, Nat.zero_le _⟩ (fun H locs hP hD hS => ?_)
          have hP : va_P D vwCl ([(txo, .inr (7, [.ref tx_signsA, .int tx_length, .int w9, .int w10, .int w11])), (tx_signsA, .inl (κ 0, 240, .inl tx_signs)), (tlo, .inr (6, [.int tl_stands, .int tl_price, .int tl_death, .int tl_payers, .int w13, .int tl_hostages, .int tl_bags, .int tl_bagMarks, .ref tl_goodsA, .ref tl_shyA, .ref tl_bidOfA, .ref tl_daysOfA])), (tl_goodsA, .inl (κ 0, 6, .inl tl_goods)), (tl_shyA, .inl (κ 0, 6, .inl tl_shy)), (tl_bidOfA, .inl (κ 0, 9, .inl w14)), (tl_daysOfA, .inl (κ 0, 6, .inl tl_daysOf))]) H := hP
          have hD : va_D A ([(txo, .inr (7, [.ref tx_signsA, .int tx_length, .int w9, .int w10, .int w11])), (tx_signsA, .inl (κ 0, 240, .inl tx_signs)), (tlo, .inr (6, [.int tl_stands, .int tl_price, .int tl_death, .int tl_payers, .int w13, .int tl_hostages, .int tl_bags, .int tl_bagMarks, .ref tl_goodsA, .ref tl_shyA, .ref tl_bidOfA, .ref tl_daysOfA])), (tl_goodsA, .inl (κ 0, 6, .inl tl_goods)), (tl_shyA, .inl (κ 0, 6, .inl tl_shy)), (tl_bidOfA, .inl (κ 0, 9, .inl w14)), (tl_daysOfA, .inl (κ 0, 6, .inl tl_daysOf))]) := hD
          refine lv_iload_n hx hb dX7_readBids_42 rfl (lv_at hl 3 rfl) ?_
          refine lv_bipush (v := 9) hx hb dX7_readBids_43 (by decide) ?_
          refine lv_icmp_ge (tgt := 61) hx hb dX7_readBids_45 (by decide) (fun c16 => ?_) (fun c16 => ?_)
          · replace hres := og_t c16 hres
            exact L61 v3 w9 w10 w11 w13 w14 _ _ _ hP hD hS (lv_sub hl [0, 1, 3] rfl) hres
          · replace hres := og_f c16 hres
            refine lv_aload_n hx hb dX7_readBids_48 rfl (lv_at hl 0 rfl) ?_
            refine lv_bipush (v := 44) hx hb dX7_readBids_49 (by decide) ?_
            obtain ⟨r17, w18, hc19, hres⟩ := kb2_s hres
            refine krI_V (As := [.int 44]) (rest := []) (wr := [(tlo, .inr (6, [.int tl_stands, .int tl_price, .int tl_death, .int tl_payers, .int w13, .int tl_hostages, .int tl_bags, .int tl_bagMarks, .ref tl_goodsA, .ref tl_shyA, .ref tl_bidOfA, .ref tl_daysOfA])), (tl_goodsA, .inl (κ 0, 6, .inl tl_goods)), (tl_shyA, .inl (κ 0, 6, .inl tl_shy)), (tl_bidOfA, .inl (κ 0, 9, .inl w14)), (tl_daysOfA, .inl (κ 0, 6, .inl tl_daysOf))]) ⟨hx, hb, hml, hown, hts⟩ hK (tX7_takes l D κ txo tx_signsA N tx_signs tx_length w9 w10 w11 44 r17 w18 hc19) (cwV 1 hts gX7_readBids_X7_takes rfl rfl rfl (by decide +kernel) ⟨(Nat.le_of_ble_eq_true rfl), (Nat.le_of_ble_eq_true rfl)⟩) rfl rfl rfl hP hD hS hA [0, 1] [2, 3, 4, 5, 6] rfl rfl rfl rfl (by decide) rfl hl.1 rfl (Nat.le_of_ble_eq_true rfl) dX7_readBids_51 ⟨Nat.zero_le _, Nat.zero_le _⟩ (fun H locs hP hD hS => ?_)
            have hP : va_P D vwCl ([(tlo, .inr (6, [.int tl_stands, .int tl_price, .int tl_death, .int tl_payers, .int w13, .int tl_hostages, .int tl_bags, .int tl_bagMarks, .ref tl_goodsA, .ref tl_shyA, .ref tl_bidOfA, .ref tl_daysOfA])), (tl_goodsA, .inl (κ 0, 6, .inl tl_goods)), (tl_shyA, .inl (κ 0, 6, .inl tl_shy)), (tl_bidOfA, .inl (κ 0, 9, .inl w14)), (tl_daysOfA, .inl (κ 0, 6, .inl tl_daysOf)), (txo, .inr (7, [.ref tx_signsA, .int tx_length, .int w18, .int w10, .int w11])), (tx_signsA, .inl (κ 0, 240, .inl tx_signs))]) H := hP
            have hD : va_D A ([(tlo, .inr (6, [.int tl_stands, .int tl_price, .int tl_death, .int tl_payers, .int w13, .int tl_hostages, .int tl_bags, .int tl_bagMarks, .ref tl_goodsA, .ref tl_shyA, .ref tl_bidOfA, .ref tl_daysOfA])), (tl_goodsA, .inl (κ 0, 6, .inl tl_goods)), (tl_shyA, .inl (κ 0, 6, .inl tl_shy)), (tl_bidOfA, .inl (κ 0, 9, .inl w14)), (tl_daysOfA, .inl (κ 0, 6, .inl tl_daysOf)), (txo, .inr (7, [.ref tx_signsA, .int tx_length, .int w18, .int w10, .int w11])), (tx_signsA, .inl (κ 0, 240, .inl tx_signs))]) := hD
            refine lv_if_eq (tgt := 61) hx hb dX7_readBids_54 (by decide) (fun c20 => ?_) (fun c20 => ?_)
            · replace hres := og_t c20 hres
              exact L61 v3 w18 w10 w11 w13 w14 _ _ _ (hP.sub [5, 6, 0, 1, 2, 3, 4] rfl) (hD.sub [5, 6, 0, 1, 2, 3, 4] (by decide) rfl) hS (lv_sub hl [0, 1, 3] rfl) hres
            · replace hres := og_f c20 hres
              refine lv_iconst (v := 1) hx hb dX7_readBids_57 (by decide) ?_
              refine lv_goto (tgt := 62) hx hb dX7_readBids_58 (by decide) ?_
              exact L62 v3 1 w18 w10 w11 w13 w14 _ _ _ (hP.sub [5, 6, 0, 1, 2, 3, 4] rfl) (hD.sub [5, 6, 0, 1, 2, 3, 4] (by decide) rfl) hS (lv_sub hl [0, 1, 3] rfl) hres
  have L13 : ∀ (s0 : Int32) (H : Heap) (locs : List Loc) (ls : Array Slot), va_P D vwCl ([(txo, .inr (7, [.ref tx_signsA, .int tx_length, .int tx_at, .int tx_fault, .int tx_place])), (tx_signsA, .inl (κ 0, 240, .inl tx_signs)), (tlo, .inr (6, [.int tl_stands, .int tl_price, .int tl_death, .int tl_payers, .int tl_bids, .int tl_hostages, .int tl_bags, .int tl_bagMarks, .ref tl_goodsA, .ref tl_shyA, .ref tl_bidOfA, .ref tl_daysOfA])), (tl_goodsA, .inl (κ 0, 6, .inl tl_goods)), (tl_shyA, .inl (κ 0, 6, .inl tl_shy)), (tl_bidOfA, .inl (κ 0, 9, .inl tl_bidOf)), (tl_daysOfA, .inl (κ 0, 6, .inl tl_daysOf))]) H → va_D A ([(txo, .inr (7, [.ref tx_signsA, .int tx_length, .int tx_at, .int tx_fault, .int tx_place])), (tx_signsA, .inl (κ 0, 240, .inl tx_signs)), (tlo, .inr (6, [.int tl_stands, .int tl_price, .int tl_death, .int tl_payers, .int tl_bids, .int tl_hostages, .int tl_bags, .int tl_bagMarks, .ref tl_goodsA, .ref tl_shyA, .ref tl_bidOfA, .ref tl_daysOfA])), (tl_goodsA, .inl (κ 0, 6, .inl tl_goods)), (tl_shyA, .inl (κ 0, 6, .inl tl_shy)), (tl_bidOfA, .inl (κ 0, 9, .inl tl_bidOf)), (tl_daysOfA, .inl (κ 0, 6, .inl tl_daysOf))]) → va_S A s.heap H locs → lv_has ls 4 [(0, .ref txo), (1, .ref tlo)] → pX7_readBids_L13 N tx_signs tx_length tx_at tx_fault tx_place tl_bids tl_bidOf s0 = some (z_tx_at, z_tx_fault, z_tx_place, z_tl_bids, z_tl_bidOf) → W p l e { frames := 4, cells := 0, slots := 0, locals := 400 } s m args below meth c H locs 0 0 Q (F0 m 13 ls [.int s0, .ref txo]) := by
    intro s0 H locs ls hP hD hS hl hres
    unfold pX7_readBids_L13 at hres
    obtain ⟨w21, w22, w23, hc24, hres⟩ := kb3_s hres
    refine krV_V (As := [.int s0]) (rest := []) (wr := [(tlo, .inr (6, [.int tl_stands, .int tl_price, .int tl_death, .int tl_payers, .int tl_bids, .int tl_hostages, .int tl_bags, .int tl_bagMarks, .ref tl_goodsA, .ref tl_shyA, .ref tl_bidOfA, .ref tl_daysOfA])), (tl_goodsA, .inl (κ 0, 6, .inl tl_goods)), (tl_shyA, .inl (κ 0, 6, .inl tl_shy)), (tl_bidOfA, .inl (κ 0, 9, .inl tl_bidOf)), (tl_daysOfA, .inl (κ 0, 6, .inl tl_daysOf))]) ⟨hx, hb, hml, hown, hts⟩ hK (tX7_takeWord l D κ txo tx_signsA tx_signs tx_length tx_at tx_fault tx_place s0 w21 w22 w23 hc24) (cwV 1 hts gX7_readBids_X7_takeWord rfl rfl rfl (by decide +kernel) ⟨(Nat.le_of_ble_eq_true rfl), (Nat.le_of_ble_eq_true rfl)⟩) rfl rfl rfl hP hD hS hA [0, 1] [2, 3, 4, 5, 6] rfl rfl rfl rfl (by decide) rfl hl.1 rfl (Nat.le_of_ble_eq_true rfl) dX7_readBids_13 ⟨Nat.zero_le _, Nat.zero_le _⟩ (fun H locs hP hD hS => ?_)
    have hP : va_P D vwCl ([(tlo, .inr (6, [.int tl_stands, .int tl_price, .int tl_death, .int tl_payers, .int tl_bids, .int tl_hostages, .int tl_bags, .int tl_bagMarks, .ref tl_goodsA, .ref tl_shyA, .ref tl_bidOfA, .ref tl_daysOfA])), (tl_goodsA, .inl (κ 0, 6, .inl tl_goods)), (tl_shyA, .inl (κ 0, 6, .inl tl_shy)), (tl_bidOfA, .inl (κ 0, 9, .inl tl_bidOf)), (tl_daysOfA, .inl (κ 0, 6, .inl tl_daysOf)), (txo, .inr (7, [.ref tx_signsA, .int tx_length, .int w21, .int w22, .int w23])), (tx_signsA, .inl (κ 0, 240, .inl tx_signs))]) H := hP
    have hD : va_D A ([(tlo, .inr (6, [.int tl_stands, .int tl_price, .int tl_death, .int tl_payers, .int tl_bids, .int tl_hostages, .int tl_bags, .int tl_bagMarks, .ref tl_goodsA, .ref tl_shyA, .ref tl_bidOfA, .ref tl_daysOfA])), (tl_goodsA, .inl (κ 0, 6, .inl tl_goods)), (tl_shyA, .inl (κ 0, 6, .inl tl_shy)), (tl_bidOfA, .inl (κ 0, 9, .inl tl_bidOf)), (tl_daysOfA, .inl (κ 0, 6, .inl tl_daysOf)), (txo, .inr (7, [.ref tx_signsA, .int tx_length, .int w21, .int w22, .int w23])), (tx_signsA, .inl (κ 0, 240, .inl tx_signs))]) := hD
    refine lv_iconst (v := 1) hx hb dX7_readBids_16 (by decide) ?_
    refine lv_istore_n (lv' := [(2, .int 1), (0, .ref txo), (1, .ref tlo)]) hx hb dX7_readBids_17 rfl hl (by decide) rfl (fun ls hl => ?_)
    refine lv_iconst (v := 1) hx hb dX7_readBids_18 (by decide) ?_
    refine lv_istore_n (lv' := [(3, .int 1), (2, .int 1), (0, .ref txo), (1, .ref tlo)]) hx hb dX7_readBids_19 rfl hl (by decide) rfl (fun ls hl => ?_)
    exact L20 N 1 1 w21 w22 w23 tl_bids tl_bidOf _ _ _ (hP.sub [5, 6, 0, 1, 2, 3, 4] rfl) (hD.sub [5, 6, 0, 1, 2, 3, 4] (by decide) rfl) hS (lv_sub hl [2, 3, 1, 0] rfl) hres
  unfold pX7_readBids at hres
  refine lv_aload_n hx hb dX7_readBids_0 rfl (lv_at hl 0 rfl) ?_
  refine lv_aload_n hx hb dX7_readBids_1 rfl (lv_at hl 1 rfl) ?_
  refine va_getN (D := D) (ci := 6) (v := .int tl_bids) (C := RX6) (T := TX6) (N := 12) hx hb hts iw6 hown hK.1 hP 2 rfl rfl 4 (by decide) (hK.fl 14 rfl) (fun _ h9 => h9) rfl dX7_readBids_2 ?_
  refine lv_if_le (tgt := 12) hx hb dX7_readBids_5 (by decide) (fun c1 => ?_) (fun c1 => ?_)
  · replace hres := og_t c1 hres
    refine lv_iconst (v := 0) hx hb dX7_readBids_12 (by decide) ?_
    exact L13 0 _ _ _ hP hD hS (lv_sub hl [0, 1] rfl) hres
  · replace hres := og_f c1 hres
    refine lv_iconst (v := 1) hx hb dX7_readBids_8 (by decide) ?_
    refine lv_goto (tgt := 13) hx hb dX7_readBids_9 (by decide) ?_
    exact L13 1 _ _ _ hP hD hS (lv_sub hl [0, 1] rfl) hres

def pX7_readHostage_L15 (N : Nat) (tx_signs : Nat → Int32) (tx_length : Int32) (tx_at : Int32) (tx_fault : Int32) (tx_place : Int32) (tl_hostages : Int32) (tl_daysOf : Nat → Int32) (s0 : Int32) : Option (Int32 × Int32 × Int32 × Int32 × (Nat → Int32)) :=
    kb3 (pX7_takeWord s0 tx_at tx_fault tx_place) fun w2 w3 w4 =>
    kb4 (pX7_number N 1 99 tx_signs tx_length w2 w3 w4) fun r6 w7 w8 w9 =>
    kb2 (pX6_addHostage r6 tl_hostages tl_daysOf) fun w11 w12 =>
    kb3 (pX7_close N tx_signs tx_length w7 w8 w9) fun w14 w15 w16 =>
    some (w14, w15, w16, w11, w12)
def pX7_readHostage (N : Nat) (tx_signs : Nat → Int32) (tx_length : Int32) (tx_at : Int32) (tx_fault : Int32) (tx_place : Int32) (tl_hostages : Int32) (tl_daysOf : Nat → Int32) : Option (Int32 × Int32 × Int32 × Int32 × (Nat → Int32)) :=
    (if tl_hostages < 6 then
    pX7_readHostage_L15 N tx_signs tx_length tx_at tx_fault tx_place tl_hostages tl_daysOf 0
    else
    pX7_readHostage_L15 N tx_signs tx_length tx_at tx_fault tx_place tl_hostages tl_daysOf 1)
set_option maxHeartbeats 8000000 in
set_option maxRecDepth 100000 in
theorem tX7_readHostage (l : Launch) (D : va_G) (κ : Nat → ClassId) (txo : Nat) (tx_signsA : Nat) (tlo : Nat) (tl_goodsA : Nat) (tl_shyA : Nat) (tl_bidOfA : Nat) (tl_daysOfA : Nat) (N : Nat) (tx_signs : Nat → Int32) (tx_length : Int32) (tx_at : Int32) (tx_fault : Int32) (tx_place : Int32) (tl_stands : Int32) (tl_price : Int32) (tl_death : Int32) (tl_payers : Int32) (tl_bids : Int32) (tl_hostages : Int32) (tl_bags : Int32) (tl_bagMarks : Int32) (tl_goods : Nat → Int32) (tl_shy : Nat → Int32) (tl_bidOf : Nat → Int32) (tl_daysOf : Nat → Int32) (z_tx_at : Int32) (z_tx_fault : Int32) (z_tx_place : Int32) (z_tl_hostages : Int32) (z_tl_daysOf : Nat → Int32) (hres : pX7_readHostage N tx_signs tx_length tx_at tx_fault tx_place tl_hostages tl_daysOf = some (z_tx_at, z_tx_fault, z_tx_place, z_tl_hostages, z_tl_daysOf)) : krV l yX7_readHostage wsX7_readHostage { frames := 4, cells := 0, slots := 0, locals := 400 } D κ [.ref txo, .ref tlo] ([(txo, .inr (7, [.ref tx_signsA, .int tx_length, .int tx_at, .int tx_fault, .int tx_place])), (tx_signsA, .inl (κ 0, 240, .inl tx_signs)), (tlo, .inr (6, [.int tl_stands, .int tl_price, .int tl_death, .int tl_payers, .int tl_bids, .int tl_hostages, .int tl_bags, .int tl_bagMarks, .ref tl_goodsA, .ref tl_shyA, .ref tl_bidOfA, .ref tl_daysOfA])), (tl_goodsA, .inl (κ 0, 6, .inl tl_goods)), (tl_shyA, .inl (κ 0, 6, .inl tl_shy)), (tl_bidOfA, .inl (κ 0, 9, .inl tl_bidOf)), (tl_daysOfA, .inl (κ 0, 6, .inl tl_daysOf))]) ([(txo, .inr (7, [.ref tx_signsA, .int tx_length, .int z_tx_at, .int z_tx_fault, .int z_tx_place])), (tx_signsA, .inl (κ 0, 240, .inl tx_signs)), (tlo, .inr (6, [.int tl_stands, .int tl_price, .int tl_death, .int tl_payers, .int tl_bids, .int z_tl_hostages, .int tl_bags, .int tl_bagMarks, .ref tl_goodsA, .ref tl_shyA, .ref tl_bidOfA, .ref tl_daysOfA])), (tl_goodsA, .inl (κ 0, 6, .inl tl_goods)), (tl_shyA, .inl (κ 0, 6, .inl tl_shy)), (tl_bidOfA, .inl (κ 0, 9, .inl tl_bidOf)), (tl_daysOfA, .inl (κ 0, 6, .inl z_tl_daysOf))]) := by
  refine krV_of (cc := cX7_readHostage) (maxL := 2) (by decide) rfl (Nat.le_of_ble_eq_true rfl) ?_
  intro p e s m args below meth c A Q ls hx hb hml hown hts hK hA hret hP hD hS hl
  have hown : s.vm.findClass RX7 = some m.cls := hown
  have hl : lv_has ls 2 [(0, .ref txo), (1, .ref tlo)] := hl
  have iw6 : ∀ w ∈ u_ws RX6 TX6 12, w ∈ wsX7_readHostage := (fun _ h => List.mem_cons_of_mem _ (List.mem_append_left _ (List.mem_append_right _ h)))
  have k0 : (Cond.initialized RX6).before args s = true := hts _ (List.mem_of_getElem? (i := 31) rfl)
  have k1 : (Cond.instanceMethod yX6_addHostage).before args s = true := hts _ (List.mem_of_getElem? (i := 30) rfl)
  have k2 : (Cond.selects RX6 yX6_addHostage yX6_addHostage).before args s = true := hts _ (List.mem_of_getElem? (i := 32) rfl)
  have L15 : ∀ (s0 : Int32) (H : Heap) (locs : List Loc) (ls : Array Slot), va_P D vwCl ([(txo, .inr (7, [.ref tx_signsA, .int tx_length, .int tx_at, .int tx_fault, .int tx_place])), (tx_signsA, .inl (κ 0, 240, .inl tx_signs)), (tlo, .inr (6, [.int tl_stands, .int tl_price, .int tl_death, .int tl_payers, .int tl_bids, .int tl_hostages, .int tl_bags, .int tl_bagMarks, .ref tl_goodsA, .ref tl_shyA, .ref tl_bidOfA, .ref tl_daysOfA])), (tl_goodsA, .inl (κ 0, 6, .inl tl_goods)), (tl_shyA, .inl (κ 0, 6, .inl tl_shy)), (tl_bidOfA, .inl (κ 0, 9, .inl tl_bidOf)), (tl_daysOfA, .inl (κ 0, 6, .inl tl_daysOf))]) H → va_D A ([(txo, .inr (7, [.ref tx_signsA, .int tx_length, .int tx_at, .int tx_fault, .int tx_place])), (tx_signsA, .inl (κ 0, 240, .inl tx_signs)), (tlo, .inr (6, [.int tl_stands, .int tl_price, .int tl_death, .int tl_payers, .int tl_bids, .int tl_hostages, .int tl_bags, .int tl_bagMarks, .ref tl_goodsA, .ref tl_shyA, .ref tl_bidOfA, .ref tl_daysOfA])), (tl_goodsA, .inl (κ 0, 6, .inl tl_goods)), (tl_shyA, .inl (κ 0, 6, .inl tl_shy)), (tl_bidOfA, .inl (κ 0, 9, .inl tl_bidOf)), (tl_daysOfA, .inl (κ 0, 6, .inl tl_daysOf))]) → va_S A s.heap H locs → lv_has ls 2 [(0, .ref txo), (1, .ref tlo)] → pX7_readHostage_L15 N tx_signs tx_length tx_at tx_fault tx_place tl_hostages tl_daysOf s0 = some (z_tx_at, z_tx_fault, z_tx_place, z_tl_hostages, z_tl_daysOf) → W p l e { frames := 4, cells := 0, slots := 0, locals := 400 } s m args below meth c H locs 0 0 Q (F0 m 15 ls [.int s0, .ref txo]) := by
    intro s0 H locs ls hP hD hS hl hres
    unfold pX7_readHostage_L15 at hres
    obtain ⟨w2, w3, w4, hc5, hres⟩ := kb3_s hres
    refine krV_V (As := [.int s0]) (rest := []) (wr := [(tlo, .inr (6, [.int tl_stands, .int tl_price, .int tl_death, .int tl_payers, .int tl_bids, .int tl_hostages, .int tl_bags, .int tl_bagMarks, .ref tl_goodsA, .ref tl_shyA, .ref tl_bidOfA, .ref tl_daysOfA])), (tl_goodsA, .inl (κ 0, 6, .inl tl_goods)), (tl_shyA, .inl (κ 0, 6, .inl tl_shy)), (tl_bidOfA, .inl (κ 0, 9, .inl tl_bidOf)), (tl_daysOfA, .inl (κ 0, 6, .inl tl_daysOf))]) ⟨hx, hb, hml, hown, hts⟩ hK (tX7_takeWord l D κ txo tx_signsA tx_signs tx_length tx_at tx_fault tx_place s0 w2 w3 w4 hc5) (cwV 1 hts gX7_readHostage_X7_takeWord rfl rfl rfl (by decide +kernel) ⟨(Nat.le_of_ble_eq_true rfl), (Nat.le_of_ble_eq_true rfl)⟩) rfl rfl rfl hP hD hS hA [0, 1] [2, 3, 4, 5, 6] rfl rfl rfl rfl (by decide) rfl hl.1 rfl (Nat.le_of_ble_eq_true rfl) dX7_readHostage_15 ⟨Nat.zero_le _, Nat.zero_le _⟩ (fun H locs hP hD hS => ?_)
    have hP : va_P D vwCl ([(tlo, .inr (6, [.int tl_stands, .int tl_price, .int tl_death, .int tl_payers, .int tl_bids, .int tl_hostages, .int tl_bags, .int tl_bagMarks, .ref tl_goodsA, .ref tl_shyA, .ref tl_bidOfA, .ref tl_daysOfA])), (tl_goodsA, .inl (κ 0, 6, .inl tl_goods)), (tl_shyA, .inl (κ 0, 6, .inl tl_shy)), (tl_bidOfA, .inl (κ 0, 9, .inl tl_bidOf)), (tl_daysOfA, .inl (κ 0, 6, .inl tl_daysOf)), (txo, .inr (7, [.ref tx_signsA, .int tx_length, .int w2, .int w3, .int w4])), (tx_signsA, .inl (κ 0, 240, .inl tx_signs))]) H := hP
    have hD : va_D A ([(tlo, .inr (6, [.int tl_stands, .int tl_price, .int tl_death, .int tl_payers, .int tl_bids, .int tl_hostages, .int tl_bags, .int tl_bagMarks, .ref tl_goodsA, .ref tl_shyA, .ref tl_bidOfA, .ref tl_daysOfA])), (tl_goodsA, .inl (κ 0, 6, .inl tl_goods)), (tl_shyA, .inl (κ 0, 6, .inl tl_shy)), (tl_bidOfA, .inl (κ 0, 9, .inl tl_bidOf)), (tl_daysOfA, .inl (κ 0, 6, .inl tl_daysOf)), (txo, .inr (7, [.ref tx_signsA, .int tx_length, .int w2, .int w3, .int w4])), (tx_signsA, .inl (κ 0, 240, .inl tx_signs))]) := hD
    refine lv_aload_n hx hb dX7_readHostage_18 rfl (lv_at hl 1 rfl) ?_
    refine lv_aload_n hx hb dX7_readHostage_19 rfl (lv_at hl 0 rfl) ?_
    refine lv_iconst (v := 1) hx hb dX7_readHostage_20 (by decide) ?_
    refine lv_bipush (v := 99) hx hb dX7_readHostage_21 (by decide) ?_
    obtain ⟨r6, w7, w8, w9, hc10, hres⟩ := kb4_s hres
    refine krI_V (As := [.int 1, .int 99]) (rest := [.ref tlo]) (wr := [(tlo, .inr (6, [.int tl_stands, .int tl_price, .int tl_death, .int tl_payers, .int tl_bids, .int tl_hostages, .int tl_bags, .int tl_bagMarks, .ref tl_goodsA, .ref tl_shyA, .ref tl_bidOfA, .ref tl_daysOfA])), (tl_goodsA, .inl (κ 0, 6, .inl tl_goods)), (tl_shyA, .inl (κ 0, 6, .inl tl_shy)), (tl_bidOfA, .inl (κ 0, 9, .inl tl_bidOf)), (tl_daysOfA, .inl (κ 0, 6, .inl tl_daysOf))]) ⟨hx, hb, hml, hown, hts⟩ hK (tX7_number l D κ txo tx_signsA N tx_signs tx_length w2 w3 w4 1 99 r6 w7 w8 w9 hc10) (cwV 2 hts gX7_readHostage_X7_number rfl rfl rfl (by decide +kernel) ⟨(Nat.le_of_ble_eq_true rfl), (Nat.le_of_ble_eq_true rfl)⟩) rfl rfl rfl hP hD hS hA [5, 6] [0, 1, 2, 3, 4] rfl rfl rfl rfl (by decide) rfl hl.1 rfl (Nat.le_of_ble_eq_true rfl) dX7_readHostage_23 ⟨Nat.zero_le _, Nat.zero_le _⟩ (fun H locs hP hD hS => ?_)
    have hP : va_P D vwCl ([(tlo, .inr (6, [.int tl_stands, .int tl_price, .int tl_death, .int tl_payers, .int tl_bids, .int tl_hostages, .int tl_bags, .int tl_bagMarks, .ref tl_goodsA, .ref tl_shyA, .ref tl_bidOfA, .ref tl_daysOfA])), (tl_goodsA, .inl (κ 0, 6, .inl tl_goods)), (tl_shyA, .inl (κ 0, 6, .inl tl_shy)), (tl_bidOfA, .inl (κ 0, 9, .inl tl_bidOf)), (tl_daysOfA, .inl (κ 0, 6, .inl tl_daysOf)), (txo, .inr (7, [.ref tx_signsA, .int tx_length, .int w7, .int w8, .int w9])), (tx_signsA, .inl (κ 0, 240, .inl tx_signs))]) H := hP
    have hD : va_D A ([(tlo, .inr (6, [.int tl_stands, .int tl_price, .int tl_death, .int tl_payers, .int tl_bids, .int tl_hostages, .int tl_bags, .int tl_bagMarks, .ref tl_goodsA, .ref tl_shyA, .ref tl_bidOfA, .ref tl_daysOfA])), (tl_goodsA, .inl (κ 0, 6, .inl tl_goods)), (tl_shyA, .inl (κ 0, 6, .inl tl_shy)), (tl_bidOfA, .inl (κ 0, 9, .inl tl_bidOf)), (tl_daysOfA, .inl (κ 0, 6, .inl tl_daysOf)), (txo, .inr (7, [.ref tx_signsA, .int tx_length, .int w7, .int w8, .int w9])), (tx_signsA, .inl (κ 0, 240, .inl tx_signs))]) := hD
    obtain ⟨w11, w12, hc13, hres⟩ := kb2_s hres
    refine krV_VN (As := [.int r6]) (rest := []) (wr := [(txo, .inr (7, [.ref tx_signsA, .int tx_length, .int w7, .int w8, .int w9])), (tx_signsA, .inl (κ 0, 240, .inl tx_signs))]) ⟨hx, hb, hml, hown, hts⟩ hK (tX6_addHostage l D κ tlo tl_goodsA tl_shyA tl_bidOfA tl_daysOfA tl_stands tl_price tl_death tl_payers tl_bids tl_hostages tl_bags tl_bagMarks tl_goods tl_shy tl_bidOf tl_daysOf r6 w11 w12 hc13) ⟨va_cnB 1 hts gX7_readHostage_X6_addHostage_n104 rfl rfl rfl (hK.ml 15 rfl) k0 (by decide +kernel) ⟨(Nat.le_of_ble_eq_true rfl), (Nat.le_of_ble_eq_true rfl)⟩, k1, k2⟩ rfl rfl rfl hP hD hS hA [0, 1, 2, 3, 4] [5, 6] rfl rfl rfl rfl (by decide) rfl hl.1 rfl (Nat.le_of_ble_eq_true rfl) dX7_readHostage_26 ⟨Nat.zero_le _, Nat.zero_le _⟩ (fun H locs hP hD hS => ?_)
    have hP : va_P D vwCl ([(txo, .inr (7, [.ref tx_signsA, .int tx_length, .int w7, .int w8, .int w9])), (tx_signsA, .inl (κ 0, 240, .inl tx_signs)), (tlo, .inr (6, [.int tl_stands, .int tl_price, .int tl_death, .int tl_payers, .int tl_bids, .int w11, .int tl_bags, .int tl_bagMarks, .ref tl_goodsA, .ref tl_shyA, .ref tl_bidOfA, .ref tl_daysOfA])), (tl_goodsA, .inl (κ 0, 6, .inl tl_goods)), (tl_shyA, .inl (κ 0, 6, .inl tl_shy)), (tl_bidOfA, .inl (κ 0, 9, .inl tl_bidOf)), (tl_daysOfA, .inl (κ 0, 6, .inl w12))]) H := hP
    have hD : va_D A ([(txo, .inr (7, [.ref tx_signsA, .int tx_length, .int w7, .int w8, .int w9])), (tx_signsA, .inl (κ 0, 240, .inl tx_signs)), (tlo, .inr (6, [.int tl_stands, .int tl_price, .int tl_death, .int tl_payers, .int tl_bids, .int w11, .int tl_bags, .int tl_bagMarks, .ref tl_goodsA, .ref tl_shyA, .ref tl_bidOfA, .ref tl_daysOfA])), (tl_goodsA, .inl (κ 0, 6, .inl tl_goods)), (tl_shyA, .inl (κ 0, 6, .inl tl_shy)), (tl_bidOfA, .inl (κ 0, 9, .inl tl_bidOf)), (tl_daysOfA, .inl (κ 0, 6, .inl w12))]) := hD
    refine lv_aload_n hx hb dX7_readHostage_29 rfl (lv_at hl 0 rfl) ?_
    obtain ⟨w14, w15, w16, hc17, hres⟩ := kb3_s hres
    refine krV_V (As := []) (rest := []) (wr := [(tlo, .inr (6, [.int tl_stands, .int tl_price, .int tl_death, .int tl_payers, .int tl_bids, .int w11, .int tl_bags, .int tl_bagMarks, .ref tl_goodsA, .ref tl_shyA, .ref tl_bidOfA, .ref tl_daysOfA])), (tl_goodsA, .inl (κ 0, 6, .inl tl_goods)), (tl_shyA, .inl (κ 0, 6, .inl tl_shy)), (tl_bidOfA, .inl (κ 0, 9, .inl tl_bidOf)), (tl_daysOfA, .inl (κ 0, 6, .inl w12))]) ⟨hx, hb, hml, hown, hts⟩ hK (tX7_close l D κ txo tx_signsA N tx_signs tx_length w7 w8 w9 w14 w15 w16 hc17) (cwV 0 hts gX7_readHostage_X7_close rfl rfl rfl (by decide +kernel) ⟨(Nat.le_of_ble_eq_true rfl), (Nat.le_of_ble_eq_true rfl)⟩) rfl rfl rfl hP hD hS hA [0, 1] [2, 3, 4, 5, 6] rfl rfl rfl rfl (by decide) rfl hl.1 rfl (Nat.le_of_ble_eq_true rfl) dX7_readHostage_30 ⟨Nat.zero_le _, Nat.zero_le _⟩ (fun H locs hP hD hS => ?_)
    have hP : va_P D vwCl ([(tlo, .inr (6, [.int tl_stands, .int tl_price, .int tl_death, .int tl_payers, .int tl_bids, .int w11, .int tl_bags, .int tl_bagMarks, .ref tl_goodsA, .ref tl_shyA, .ref tl_bidOfA, .ref tl_daysOfA])), (tl_goodsA, .inl (κ 0, 6, .inl tl_goods)), (tl_shyA, .inl (κ 0, 6, .inl tl_shy)), (tl_bidOfA, .inl (κ 0, 9, .inl tl_bidOf)), (tl_daysOfA, .inl (κ 0, 6, .inl w12)), (txo, .inr (7, [.ref tx_signsA, .int tx_length, .int w14, .int w15, .int w16])), (tx_signsA, .inl (κ 0, 240, .inl tx_signs))]) H := hP
    have hD : va_D A ([(tlo, .inr (6, [.int tl_stands, .int tl_price, .int tl_death, .int tl_payers, .int tl_bids, .int w11, .int tl_bags, .int tl_bagMarks, .ref tl_goodsA, .ref tl_shyA, .ref tl_bidOfA, .ref tl_daysOfA])), (tl_goodsA, .inl (κ 0, 6, .inl tl_goods)), (tl_shyA, .inl (κ 0, 6, .inl tl_shy)), (tl_bidOfA, .inl (κ 0, 9, .inl tl_bidOf)), (tl_daysOfA, .inl (κ 0, 6, .inl w12)), (txo, .inr (7, [.ref tx_signsA, .int tx_length, .int w14, .int w15, .int w16])), (tx_signsA, .inl (κ 0, 240, .inl tx_signs))]) := hD
    have hres := Option.some.inj hres
    have h0 := (Prod.mk.inj hres).1
    replace hres := (Prod.mk.inj hres).2
    have h1 := (Prod.mk.inj hres).1
    replace hres := (Prod.mk.inj hres).2
    have h2 := (Prod.mk.inj hres).1
    replace hres := (Prod.mk.inj hres).2
    have h3 := (Prod.mk.inj hres).1
    replace hres := (Prod.mk.inj hres).2
    have h4 := hres
    subst h0
    subst h1
    subst h2
    subst h3
    subst h4
    exact hret _ _ _ _ (hP.sub [5, 6, 0, 1, 2, 3, 4] rfl) (hD.sub [5, 6, 0, 1, 2, 3, 4] (by decide) rfl) hS dX7_readHostage_33
  unfold pX7_readHostage at hres
  refine lv_aload_n hx hb dX7_readHostage_0 rfl (lv_at hl 0 rfl) ?_
  refine lv_aload_n hx hb dX7_readHostage_1 rfl (lv_at hl 1 rfl) ?_
  refine va_getN (D := D) (ci := 6) (v := .int tl_hostages) (C := RX6) (T := TX6) (N := 12) hx hb hts iw6 hown hK.1 hP 2 rfl rfl 5 (by decide) (hK.fl 16 rfl) (fun _ h9 => h9) rfl dX7_readHostage_2 ?_
  refine lv_bipush (v := 6) hx hb dX7_readHostage_5 (by decide) ?_
  refine lv_icmp_lt (tgt := 14) hx hb dX7_readHostage_7 (by decide) (fun c1 => ?_) (fun c1 => ?_)
  · replace hres := og_t c1 hres
    refine lv_iconst (v := 0) hx hb dX7_readHostage_14 (by decide) ?_
    exact L15 0 _ _ _ hP hD hS (lv_sub hl [0, 1] rfl) hres
  · replace hres := og_f c1 hres
    refine lv_iconst (v := 1) hx hb dX7_readHostage_10 (by decide) ?_
    refine lv_goto (tgt := 15) hx hb dX7_readHostage_11 (by decide) ?_
    exact L15 1 _ _ _ hP hD hS (lv_sub hl [0, 1] rfl) hres

def pX7_readBags_L13 (N : Nat) (tx_signs : Nat → Int32) (tx_length : Int32) (tx_at : Int32) (tx_fault : Int32) (tx_place : Int32) (s0 : Int32) : Option (Int32 × Int32 × Int32 × Int32 × Int32) :=
    kb3 (pX7_takeWord s0 tx_at tx_fault tx_place) fun w2 w3 w4 =>
    kb4 (pX7_number N 1 99 tx_signs tx_length w2 w3 w4) fun r6 w7 w8 w9 =>
    kb4 (pX7_number N 1 8 tx_signs tx_length w7 w8 w9) fun r11 w12 w13 w14 =>
    kb3 (pX7_close N tx_signs tx_length w12 w13 w14) fun w16 w17 w18 =>
    some (w16, w17, w18, r11, r6)
def pX7_readBags (N : Nat) (tx_signs : Nat → Int32) (tx_length : Int32) (tx_at : Int32) (tx_fault : Int32) (tx_place : Int32) (tl_bags : Int32) : Option (Int32 × Int32 × Int32 × Int32 × Int32) :=
    (if tl_bags ≤ 0 then
    pX7_readBags_L13 N tx_signs tx_length tx_at tx_fault tx_place 0
    else
    pX7_readBags_L13 N tx_signs tx_length tx_at tx_fault tx_place 1)
set_option maxHeartbeats 8000000 in
set_option maxRecDepth 100000 in
theorem tX7_readBags (l : Launch) (D : va_G) (κ : Nat → ClassId) (txo : Nat) (tx_signsA : Nat) (tlo : Nat) (tl_goodsA : Nat) (tl_shyA : Nat) (tl_bidOfA : Nat) (tl_daysOfA : Nat) (N : Nat) (tx_signs : Nat → Int32) (tx_length : Int32) (tx_at : Int32) (tx_fault : Int32) (tx_place : Int32) (tl_stands : Int32) (tl_price : Int32) (tl_death : Int32) (tl_payers : Int32) (tl_bids : Int32) (tl_hostages : Int32) (tl_bags : Int32) (tl_bagMarks : Int32) (tl_goods : Nat → Int32) (tl_shy : Nat → Int32) (tl_bidOf : Nat → Int32) (tl_daysOf : Nat → Int32) (z_tx_at : Int32) (z_tx_fault : Int32) (z_tx_place : Int32) (z_tl_bags : Int32) (z_tl_bagMarks : Int32) (hres : pX7_readBags N tx_signs tx_length tx_at tx_fault tx_place tl_bags = some (z_tx_at, z_tx_fault, z_tx_place, z_tl_bags, z_tl_bagMarks)) : krV l yX7_readBags wsX7_readBags { frames := 4, cells := 0, slots := 0, locals := 400 } D κ [.ref txo, .ref tlo] ([(txo, .inr (7, [.ref tx_signsA, .int tx_length, .int tx_at, .int tx_fault, .int tx_place])), (tx_signsA, .inl (κ 0, 240, .inl tx_signs)), (tlo, .inr (6, [.int tl_stands, .int tl_price, .int tl_death, .int tl_payers, .int tl_bids, .int tl_hostages, .int tl_bags, .int tl_bagMarks, .ref tl_goodsA, .ref tl_shyA, .ref tl_bidOfA, .ref tl_daysOfA])), (tl_goodsA, .inl (κ 0, 6, .inl tl_goods)), (tl_shyA, .inl (κ 0, 6, .inl tl_shy)), (tl_bidOfA, .inl (κ 0, 9, .inl tl_bidOf)), (tl_daysOfA, .inl (κ 0, 6, .inl tl_daysOf))]) ([(txo, .inr (7, [.ref tx_signsA, .int tx_length, .int z_tx_at, .int z_tx_fault, .int z_tx_place])), (tx_signsA, .inl (κ 0, 240, .inl tx_signs)), (tlo, .inr (6, [.int tl_stands, .int tl_price, .int tl_death, .int tl_payers, .int tl_bids, .int tl_hostages, .int z_tl_bags, .int z_tl_bagMarks, .ref tl_goodsA, .ref tl_shyA, .ref tl_bidOfA, .ref tl_daysOfA])), (tl_goodsA, .inl (κ 0, 6, .inl tl_goods)), (tl_shyA, .inl (κ 0, 6, .inl tl_shy)), (tl_bidOfA, .inl (κ 0, 9, .inl tl_bidOf)), (tl_daysOfA, .inl (κ 0, 6, .inl tl_daysOf))]) := by
  refine krV_of (cc := cX7_readBags) (maxL := 2) (by decide) rfl (Nat.le_of_ble_eq_true rfl) ?_
  intro p e s m args below meth c A Q ls hx hb hml hown hts hK hA hret hP hD hS hl
  have hown : s.vm.findClass RX7 = some m.cls := hown
  have hl : lv_has ls 2 [(0, .ref txo), (1, .ref tlo)] := hl
  have iw6 : ∀ w ∈ u_ws RX6 TX6 12, w ∈ wsX7_readBags := (fun _ h => List.mem_cons_of_mem _ (List.mem_append_left _ (List.mem_append_right _ h)))
  have L13 : ∀ (s0 : Int32) (H : Heap) (locs : List Loc) (ls : Array Slot), va_P D vwCl ([(txo, .inr (7, [.ref tx_signsA, .int tx_length, .int tx_at, .int tx_fault, .int tx_place])), (tx_signsA, .inl (κ 0, 240, .inl tx_signs)), (tlo, .inr (6, [.int tl_stands, .int tl_price, .int tl_death, .int tl_payers, .int tl_bids, .int tl_hostages, .int tl_bags, .int tl_bagMarks, .ref tl_goodsA, .ref tl_shyA, .ref tl_bidOfA, .ref tl_daysOfA])), (tl_goodsA, .inl (κ 0, 6, .inl tl_goods)), (tl_shyA, .inl (κ 0, 6, .inl tl_shy)), (tl_bidOfA, .inl (κ 0, 9, .inl tl_bidOf)), (tl_daysOfA, .inl (κ 0, 6, .inl tl_daysOf))]) H → va_D A ([(txo, .inr (7, [.ref tx_signsA, .int tx_length, .int tx_at, .int tx_fault, .int tx_place])), (tx_signsA, .inl (κ 0, 240, .inl tx_signs)), (tlo, .inr (6, [.int tl_stands, .int tl_price, .int tl_death, .int tl_payers, .int tl_bids, .int tl_hostages, .int tl_bags, .int tl_bagMarks, .ref tl_goodsA, .ref tl_shyA, .ref tl_bidOfA, .ref tl_daysOfA])), (tl_goodsA, .inl (κ 0, 6, .inl tl_goods)), (tl_shyA, .inl (κ 0, 6, .inl tl_shy)), (tl_bidOfA, .inl (κ 0, 9, .inl tl_bidOf)), (tl_daysOfA, .inl (κ 0, 6, .inl tl_daysOf))]) → va_S A s.heap H locs → lv_has ls 2 [(0, .ref txo), (1, .ref tlo)] → pX7_readBags_L13 N tx_signs tx_length tx_at tx_fault tx_place s0 = some (z_tx_at, z_tx_fault, z_tx_place, z_tl_bags, z_tl_bagMarks) → W p l e { frames := 4, cells := 0, slots := 0, locals := 400 } s m args below meth c H locs 0 0 Q (F0 m 13 ls [.int s0, .ref txo]) := by
    intro s0 H locs ls hP hD hS hl hres
    unfold pX7_readBags_L13 at hres
    obtain ⟨w2, w3, w4, hc5, hres⟩ := kb3_s hres
    refine krV_V (As := [.int s0]) (rest := []) (wr := [(tlo, .inr (6, [.int tl_stands, .int tl_price, .int tl_death, .int tl_payers, .int tl_bids, .int tl_hostages, .int tl_bags, .int tl_bagMarks, .ref tl_goodsA, .ref tl_shyA, .ref tl_bidOfA, .ref tl_daysOfA])), (tl_goodsA, .inl (κ 0, 6, .inl tl_goods)), (tl_shyA, .inl (κ 0, 6, .inl tl_shy)), (tl_bidOfA, .inl (κ 0, 9, .inl tl_bidOf)), (tl_daysOfA, .inl (κ 0, 6, .inl tl_daysOf))]) ⟨hx, hb, hml, hown, hts⟩ hK (tX7_takeWord l D κ txo tx_signsA tx_signs tx_length tx_at tx_fault tx_place s0 w2 w3 w4 hc5) (cwV 1 hts gX7_readBags_X7_takeWord rfl rfl rfl (by decide +kernel) ⟨(Nat.le_of_ble_eq_true rfl), (Nat.le_of_ble_eq_true rfl)⟩) rfl rfl rfl hP hD hS hA [0, 1] [2, 3, 4, 5, 6] rfl rfl rfl rfl (by decide) rfl hl.1 rfl (Nat.le_of_ble_eq_true rfl) dX7_readBags_13 ⟨Nat.zero_le _, Nat.zero_le _⟩ (fun H locs hP hD hS => ?_)
    have hP : va_P D vwCl ([(tlo, .inr (6, [.int tl_stands, .int tl_price, .int tl_death, .int tl_payers, .int tl_bids, .int tl_hostages, .int tl_bags, .int tl_bagMarks, .ref tl_goodsA, .ref tl_shyA, .ref tl_bidOfA, .ref tl_daysOfA])), (tl_goodsA, .inl (κ 0, 6, .inl tl_goods)), (tl_shyA, .inl (κ 0, 6, .inl tl_shy)), (tl_bidOfA, .inl (κ 0, 9, .inl tl_bidOf)), (tl_daysOfA, .inl (κ 0, 6, .inl tl_daysOf)), (txo, .inr (7, [.ref tx_signsA, .int tx_length, .int w2, .int w3, .int w4])), (tx_signsA, .inl (κ 0, 240, .inl tx_signs))]) H := hP
    have hD : va_D A ([(tlo, .inr (6, [.int tl_stands, .int tl_price, .int tl_death, .int tl_payers, .int tl_bids, .int tl_hostages, .int tl_bags, .int tl_bagMarks, .ref tl_goodsA, .ref tl_shyA, .ref tl_bidOfA, .ref tl_daysOfA])), (tl_goodsA, .inl (κ 0, 6, .inl tl_goods)), (tl_shyA, .inl (κ 0, 6, .inl tl_shy)), (tl_bidOfA, .inl (κ 0, 9, .inl tl_bidOf)), (tl_daysOfA, .inl (κ 0, 6, .inl tl_daysOf)), (txo, .inr (7, [.ref tx_signsA, .int tx_length, .int w2, .int w3, .int w4])), (tx_signsA, .inl (κ 0, 240, .inl tx_signs))]) := hD
    refine lv_aload_n hx hb dX7_readBags_16 rfl (lv_at hl 1 rfl) ?_
    refine lv_aload_n hx hb dX7_readBags_17 rfl (lv_at hl 0 rfl) ?_
    refine lv_iconst (v := 1) hx hb dX7_readBags_18 (by decide) ?_
    refine lv_bipush (v := 99) hx hb dX7_readBags_19 (by decide) ?_
    obtain ⟨r6, w7, w8, w9, hc10, hres⟩ := kb4_s hres
    refine krI_V (As := [.int 1, .int 99]) (rest := [.ref tlo]) (wr := [(tlo, .inr (6, [.int tl_stands, .int tl_price, .int tl_death, .int tl_payers, .int tl_bids, .int tl_hostages, .int tl_bags, .int tl_bagMarks, .ref tl_goodsA, .ref tl_shyA, .ref tl_bidOfA, .ref tl_daysOfA])), (tl_goodsA, .inl (κ 0, 6, .inl tl_goods)), (tl_shyA, .inl (κ 0, 6, .inl tl_shy)), (tl_bidOfA, .inl (κ 0, 9, .inl tl_bidOf)), (tl_daysOfA, .inl (κ 0, 6, .inl tl_daysOf))]) ⟨hx, hb, hml, hown, hts⟩ hK (tX7_number l D κ txo tx_signsA N tx_signs tx_length w2 w3 w4 1 99 r6 w7 w8 w9 hc10) (cwV 2 hts gX7_readBags_X7_number rfl rfl rfl (by decide +kernel) ⟨(Nat.le_of_ble_eq_true rfl), (Nat.le_of_ble_eq_true rfl)⟩) rfl rfl rfl hP hD hS hA [5, 6] [0, 1, 2, 3, 4] rfl rfl rfl rfl (by decide) rfl hl.1 rfl (Nat.le_of_ble_eq_true rfl) dX7_readBags_21 ⟨Nat.zero_le _, Nat.zero_le _⟩ (fun H locs hP hD hS => ?_)
    have hP : va_P D vwCl ([(tlo, .inr (6, [.int tl_stands, .int tl_price, .int tl_death, .int tl_payers, .int tl_bids, .int tl_hostages, .int tl_bags, .int tl_bagMarks, .ref tl_goodsA, .ref tl_shyA, .ref tl_bidOfA, .ref tl_daysOfA])), (tl_goodsA, .inl (κ 0, 6, .inl tl_goods)), (tl_shyA, .inl (κ 0, 6, .inl tl_shy)), (tl_bidOfA, .inl (κ 0, 9, .inl tl_bidOf)), (tl_daysOfA, .inl (κ 0, 6, .inl tl_daysOf)), (txo, .inr (7, [.ref tx_signsA, .int tx_length, .int w7, .int w8, .int w9])), (tx_signsA, .inl (κ 0, 240, .inl tx_signs))]) H := hP
    have hD : va_D A ([(tlo, .inr (6, [.int tl_stands, .int tl_price, .int tl_death, .int tl_payers, .int tl_bids, .int tl_hostages, .int tl_bags, .int tl_bagMarks, .ref tl_goodsA, .ref tl_shyA, .ref tl_bidOfA, .ref tl_daysOfA])), (tl_goodsA, .inl (κ 0, 6, .inl tl_goods)), (tl_shyA, .inl (κ 0, 6, .inl tl_shy)), (tl_bidOfA, .inl (κ 0, 9, .inl tl_bidOf)), (tl_daysOfA, .inl (κ 0, 6, .inl tl_daysOf)), (txo, .inr (7, [.ref tx_signsA, .int tx_length, .int w7, .int w8, .int w9])), (tx_signsA, .inl (κ 0, 240, .inl tx_signs))]) := hD
    refine va_putN (D := D) (ci := 6) (v := .int r6) (ty := .int) (C := RX6) (T := TX6) (N := 12) hx hb hts iw6 tyX6 tyX6_ok nmX6 hown hK.1 hP hD hS 0 rfl rfl 7 (by decide) (hK.fl 22 rfl) (fun _ h9 => h9) rfl (tyX6_ok 7 (by decide)) rfl rfl (Nat.le_of_ble_eq_true rfl) dX7_readBags_24 (fun H locs hP hD hS => ?_)
    have hP : va_P D vwCl ([(tlo, .inr (6, [.int tl_stands, .int tl_price, .int tl_death, .int tl_payers, .int tl_bids, .int tl_hostages, .int tl_bags, .int r6, .ref tl_goodsA, .ref tl_shyA, .ref tl_bidOfA, .ref tl_daysOfA])), (tl_goodsA, .inl (κ 0, 6, .inl tl_goods)), (tl_shyA, .inl (κ 0, 6, .inl tl_shy)), (tl_bidOfA, .inl (κ 0, 9, .inl tl_bidOf)), (tl_daysOfA, .inl (κ 0, 6, .inl tl_daysOf)), (txo, .inr (7, [.ref tx_signsA, .int tx_length, .int w7, .int w8, .int w9])), (tx_signsA, .inl (κ 0, 240, .inl tx_signs))]) H := hP
    have hD : va_D A ([(tlo, .inr (6, [.int tl_stands, .int tl_price, .int tl_death, .int tl_payers, .int tl_bids, .int tl_hostages, .int tl_bags, .int r6, .ref tl_goodsA, .ref tl_shyA, .ref tl_bidOfA, .ref tl_daysOfA])), (tl_goodsA, .inl (κ 0, 6, .inl tl_goods)), (tl_shyA, .inl (κ 0, 6, .inl tl_shy)), (tl_bidOfA, .inl (κ 0, 9, .inl tl_bidOf)), (tl_daysOfA, .inl (κ 0, 6, .inl tl_daysOf)), (txo, .inr (7, [.ref tx_signsA, .int tx_length, .int w7, .int w8, .int w9])), (tx_signsA, .inl (κ 0, 240, .inl tx_signs))]) := hD
    refine lv_aload_n hx hb dX7_readBags_27 rfl (lv_at hl 1 rfl) ?_
    refine lv_aload_n hx hb dX7_readBags_28 rfl (lv_at hl 0 rfl) ?_
    refine lv_iconst (v := 1) hx hb dX7_readBags_29 (by decide) ?_
    refine lv_bipush (v := 8) hx hb dX7_readBags_30 (by decide) ?_
    obtain ⟨r11, w12, w13, w14, hc15, hres⟩ := kb4_s hres
    refine krI_V (As := [.int 1, .int 8]) (rest := [.ref tlo]) (wr := [(tlo, .inr (6, [.int tl_stands, .int tl_price, .int tl_death, .int tl_payers, .int tl_bids, .int tl_hostages, .int tl_bags, .int r6, .ref tl_goodsA, .ref tl_shyA, .ref tl_bidOfA, .ref tl_daysOfA])), (tl_goodsA, .inl (κ 0, 6, .inl tl_goods)), (tl_shyA, .inl (κ 0, 6, .inl tl_shy)), (tl_bidOfA, .inl (κ 0, 9, .inl tl_bidOf)), (tl_daysOfA, .inl (κ 0, 6, .inl tl_daysOf))]) ⟨hx, hb, hml, hown, hts⟩ hK (tX7_number l D κ txo tx_signsA N tx_signs tx_length w7 w8 w9 1 8 r11 w12 w13 w14 hc15) (cwV 2 hts gX7_readBags_X7_number rfl rfl rfl (by decide +kernel) ⟨(Nat.le_of_ble_eq_true rfl), (Nat.le_of_ble_eq_true rfl)⟩) rfl rfl rfl hP hD hS hA [5, 6] [0, 1, 2, 3, 4] rfl rfl rfl rfl (by decide) rfl hl.1 rfl (Nat.le_of_ble_eq_true rfl) dX7_readBags_32 ⟨Nat.zero_le _, Nat.zero_le _⟩ (fun H locs hP hD hS => ?_)
    have hP : va_P D vwCl ([(tlo, .inr (6, [.int tl_stands, .int tl_price, .int tl_death, .int tl_payers, .int tl_bids, .int tl_hostages, .int tl_bags, .int r6, .ref tl_goodsA, .ref tl_shyA, .ref tl_bidOfA, .ref tl_daysOfA])), (tl_goodsA, .inl (κ 0, 6, .inl tl_goods)), (tl_shyA, .inl (κ 0, 6, .inl tl_shy)), (tl_bidOfA, .inl (κ 0, 9, .inl tl_bidOf)), (tl_daysOfA, .inl (κ 0, 6, .inl tl_daysOf)), (txo, .inr (7, [.ref tx_signsA, .int tx_length, .int w12, .int w13, .int w14])), (tx_signsA, .inl (κ 0, 240, .inl tx_signs))]) H := hP
    have hD : va_D A ([(tlo, .inr (6, [.int tl_stands, .int tl_price, .int tl_death, .int tl_payers, .int tl_bids, .int tl_hostages, .int tl_bags, .int r6, .ref tl_goodsA, .ref tl_shyA, .ref tl_bidOfA, .ref tl_daysOfA])), (tl_goodsA, .inl (κ 0, 6, .inl tl_goods)), (tl_shyA, .inl (κ 0, 6, .inl tl_shy)), (tl_bidOfA, .inl (κ 0, 9, .inl tl_bidOf)), (tl_daysOfA, .inl (κ 0, 6, .inl tl_daysOf)), (txo, .inr (7, [.ref tx_signsA, .int tx_length, .int w12, .int w13, .int w14])), (tx_signsA, .inl (κ 0, 240, .inl tx_signs))]) := hD
    refine va_putN (D := D) (ci := 6) (v := .int r11) (ty := .int) (C := RX6) (T := TX6) (N := 12) hx hb hts iw6 tyX6 tyX6_ok nmX6 hown hK.1 hP hD hS 0 rfl rfl 6 (by decide) (hK.fl 19 rfl) (fun _ h9 => h9) rfl (tyX6_ok 6 (by decide)) rfl rfl (Nat.le_of_ble_eq_true rfl) dX7_readBags_35 (fun H locs hP hD hS => ?_)
    have hP : va_P D vwCl ([(tlo, .inr (6, [.int tl_stands, .int tl_price, .int tl_death, .int tl_payers, .int tl_bids, .int tl_hostages, .int r11, .int r6, .ref tl_goodsA, .ref tl_shyA, .ref tl_bidOfA, .ref tl_daysOfA])), (tl_goodsA, .inl (κ 0, 6, .inl tl_goods)), (tl_shyA, .inl (κ 0, 6, .inl tl_shy)), (tl_bidOfA, .inl (κ 0, 9, .inl tl_bidOf)), (tl_daysOfA, .inl (κ 0, 6, .inl tl_daysOf)), (txo, .inr (7, [.ref tx_signsA, .int tx_length, .int w12, .int w13, .int w14])), (tx_signsA, .inl (κ 0, 240, .inl tx_signs))]) H := hP
    have hD : va_D A ([(tlo, .inr (6, [.int tl_stands, .int tl_price, .int tl_death, .int tl_payers, .int tl_bids, .int tl_hostages, .int r11, .int r6, .ref tl_goodsA, .ref tl_shyA, .ref tl_bidOfA, .ref tl_daysOfA])), (tl_goodsA, .inl (κ 0, 6, .inl tl_goods)), (tl_shyA, .inl (κ 0, 6, .inl tl_shy)), (tl_bidOfA, .inl (κ 0, 9, .inl tl_bidOf)), (tl_daysOfA, .inl (κ 0, 6, .inl tl_daysOf)), (txo, .inr (7, [.ref tx_signsA, .int tx_length, .int w12, .int w13, .int w14])), (tx_signsA, .inl (κ 0, 240, .inl tx_signs))]) := hD
    refine lv_aload_n hx hb dX7_readBags_38 rfl (lv_at hl 0 rfl) ?_
    obtain ⟨w16, w17, w18, hc19, hres⟩ := kb3_s hres
    refine krV_V (As := []) (rest := []) (wr := [(tlo, .inr (6, [.int tl_stands, .int tl_price, .int tl_death, .int tl_payers, .int tl_bids, .int tl_hostages, .int r11, .int r6, .ref tl_goodsA, .ref tl_shyA, .ref tl_bidOfA, .ref tl_daysOfA])), (tl_goodsA, .inl (κ 0, 6, .inl tl_goods)), (tl_shyA, .inl (κ 0, 6, .inl tl_shy)), (tl_bidOfA, .inl (κ 0, 9, .inl tl_bidOf)), (tl_daysOfA, .inl (κ 0, 6, .inl tl_daysOf))]) ⟨hx, hb, hml, hown, hts⟩ hK (tX7_close l D κ txo tx_signsA N tx_signs tx_length w12 w13 w14 w16 w17 w18 hc19) (cwV 0 hts gX7_readBags_X7_close rfl rfl rfl (by decide +kernel) ⟨(Nat.le_of_ble_eq_true rfl), (Nat.le_of_ble_eq_true rfl)⟩) rfl rfl rfl hP hD hS hA [5, 6] [0, 1, 2, 3, 4] rfl rfl rfl rfl (by decide) rfl hl.1 rfl (Nat.le_of_ble_eq_true rfl) dX7_readBags_39 ⟨Nat.zero_le _, Nat.zero_le _⟩ (fun H locs hP hD hS => ?_)
    have hP : va_P D vwCl ([(tlo, .inr (6, [.int tl_stands, .int tl_price, .int tl_death, .int tl_payers, .int tl_bids, .int tl_hostages, .int r11, .int r6, .ref tl_goodsA, .ref tl_shyA, .ref tl_bidOfA, .ref tl_daysOfA])), (tl_goodsA, .inl (κ 0, 6, .inl tl_goods)), (tl_shyA, .inl (κ 0, 6, .inl tl_shy)), (tl_bidOfA, .inl (κ 0, 9, .inl tl_bidOf)), (tl_daysOfA, .inl (κ 0, 6, .inl tl_daysOf)), (txo, .inr (7, [.ref tx_signsA, .int tx_length, .int w16, .int w17, .int w18])), (tx_signsA, .inl (κ 0, 240, .inl tx_signs))]) H := hP
    have hD : va_D A ([(tlo, .inr (6, [.int tl_stands, .int tl_price, .int tl_death, .int tl_payers, .int tl_bids, .int tl_hostages, .int r11, .int r6, .ref tl_goodsA, .ref tl_shyA, .ref tl_bidOfA, .ref tl_daysOfA])), (tl_goodsA, .inl (κ 0, 6, .inl tl_goods)), (tl_shyA, .inl (κ 0, 6, .inl tl_shy)), (tl_bidOfA, .inl (κ 0, 9, .inl tl_bidOf)), (tl_daysOfA, .inl (κ 0, 6, .inl tl_daysOf)), (txo, .inr (7, [.ref tx_signsA, .int tx_length, .int w16, .int w17, .int w18])), (tx_signsA, .inl (κ 0, 240, .inl tx_signs))]) := hD
    have hres := Option.some.inj hres
    have h0 := (Prod.mk.inj hres).1
    replace hres := (Prod.mk.inj hres).2
    have h1 := (Prod.mk.inj hres).1
    replace hres := (Prod.mk.inj hres).2
    have h2 := (Prod.mk.inj hres).1
    replace hres := (Prod.mk.inj hres).2
    have h3 := (Prod.mk.inj hres).1
    replace hres := (Prod.mk.inj hres).2
    have h4 := hres
    subst h0
    subst h1
    subst h2
    subst h3
    subst h4
    exact hret _ _ _ _ (hP.sub [5, 6, 0, 1, 2, 3, 4] rfl) (hD.sub [5, 6, 0, 1, 2, 3, 4] (by decide) rfl) hS dX7_readBags_42
  unfold pX7_readBags at hres
  refine lv_aload_n hx hb dX7_readBags_0 rfl (lv_at hl 0 rfl) ?_
  refine lv_aload_n hx hb dX7_readBags_1 rfl (lv_at hl 1 rfl) ?_
  refine va_getN (D := D) (ci := 6) (v := .int tl_bags) (C := RX6) (T := TX6) (N := 12) hx hb hts iw6 hown hK.1 hP 2 rfl rfl 6 (by decide) (hK.fl 19 rfl) (fun _ h9 => h9) rfl dX7_readBags_2 ?_
  refine lv_if_le (tgt := 12) hx hb dX7_readBags_5 (by decide) (fun c1 => ?_) (fun c1 => ?_)
  · replace hres := og_t c1 hres
    refine lv_iconst (v := 0) hx hb dX7_readBags_12 (by decide) ?_
    exact L13 0 _ _ _ hP hD hS (lv_sub hl [0, 1] rfl) hres
  · replace hres := og_f c1 hres
    refine lv_iconst (v := 1) hx hb dX7_readBags_8 (by decide) ?_
    refine lv_goto (tgt := 13) hx hb dX7_readBags_9 (by decide) ?_
    exact L13 1 _ _ _ hP hD hS (lv_sub hl [0, 1] rfl) hres

def pX7_readClause_L28 (N : Nat) (tx_signs : Nat → Int32) (tx_length : Int32) (tx_at : Int32) (tx_fault : Int32) (tx_place : Int32) (tl_stands : Int32) (tl_price : Int32) (tl_death : Int32) (tl_payers : Int32) (tl_bids : Int32) (tl_hostages : Int32) (tl_bags : Int32) (tl_bagMarks : Int32) (tl_goods : Nat → Int32) (tl_shy : Nat → Int32) (tl_bidOf : Nat → Int32) (tl_daysOf : Nat → Int32) (v2 : Int32) : Option (Int32 × Int32 × Int32 × Int32 × Int32 × Int32 × Int32 × Int32 × Int32 × Int32 × Int32 × (Nat → Int32) × (Nat → Int32) × (Nat → Int32) × (Nat → Int32)) :=
    (if v2 = 98 then
    kb5 (pX7_readBids N tx_signs tx_length tx_at tx_fault tx_place tl_bids tl_bidOf) fun w8 w9 w10 w11 w12 =>
    some (w8, w9, w10, tl_stands, tl_price, tl_death, tl_payers, w11, tl_hostages, tl_bags, tl_bagMarks, tl_goods, tl_shy, w12, tl_daysOf)
    else
    (if v2 = 104 then
    kb5 (pX7_readHostage N tx_signs tx_length tx_at tx_fault tx_place tl_hostages tl_daysOf) fun w14 w15 w16 w17 w18 =>
    some (w14, w15, w16, tl_stands, tl_price, tl_death, tl_payers, tl_bids, w17, tl_bags, tl_bagMarks, tl_goods, tl_shy, tl_bidOf, w18)
    else
    (if v2 = 107 then
    kb6 (pX7_readKing N tx_signs tx_length tx_at tx_fault tx_place tl_stands) fun w20 w21 w22 w23 w24 w25 =>
    some (w20, w21, w22, w23, w24, w25, tl_payers, tl_bids, tl_hostages, tl_bags, tl_bagMarks, tl_goods, tl_shy, tl_bidOf, tl_daysOf)
    else
    (if v2 = 112 then
    kb6 (pX7_readPayer N tx_signs tx_length tx_at tx_fault tx_place tl_payers tl_goods tl_shy) fun w27 w28 w29 w30 w31 w32 =>
    some (w27, w28, w29, tl_stands, tl_price, tl_death, w30, tl_bids, tl_hostages, tl_bags, tl_bagMarks, w31, w32, tl_bidOf, tl_daysOf)
    else
    (if v2 = 119 then
    kb5 (pX7_readBags N tx_signs tx_length tx_at tx_fault tx_place tl_bags) fun w34 w35 w36 w37 w38 =>
    some (w34, w35, w36, tl_stands, tl_price, tl_death, tl_payers, tl_bids, tl_hostages, w37, w38, tl_goods, tl_shy, tl_bidOf, tl_daysOf)
    else
    kb2 (pX7_fail 1 tx_at tx_fault tx_place) fun w40 w41 =>
    some (tx_at, w40, w41, tl_stands, tl_price, tl_death, tl_payers, tl_bids, tl_hostages, tl_bags, tl_bagMarks, tl_goods, tl_shy, tl_bidOf, tl_daysOf))))))
def pX7_readClause (N : Nat) (tx_signs : Nat → Int32) (tx_length : Int32) (tx_at : Int32) (tx_fault : Int32) (tx_place : Int32) (tl_stands : Int32) (tl_price : Int32) (tl_death : Int32) (tl_payers : Int32) (tl_bids : Int32) (tl_hostages : Int32) (tl_bags : Int32) (tl_bagMarks : Int32) (tl_goods : Nat → Int32) (tl_shy : Nat → Int32) (tl_bidOf : Nat → Int32) (tl_daysOf : Nat → Int32) : Option (Int32 × Int32 × Int32 × Int32 × Int32 × Int32 × Int32 × Int32 × Int32 × Int32 × Int32 × (Nat → Int32) × (Nat → Int32) × (Nat → Int32) × (Nat → Int32)) :=
    kb1 (pX7_here tx_signs tx_length tx_at) fun r1 =>
    (if tl_stands = 0 then
    (if r1 = 107 then
    pX7_readClause_L28 N tx_signs tx_length tx_at tx_fault tx_place tl_stands tl_price tl_death tl_payers tl_bids tl_hostages tl_bags tl_bagMarks tl_goods tl_shy tl_bidOf tl_daysOf r1
    else
    kb2 (pX7_fail 1 tx_at tx_fault tx_place) fun w5 w6 =>
    some (tx_at, w5, w6, tl_stands, tl_price, tl_death, tl_payers, tl_bids, tl_hostages, tl_bags, tl_bagMarks, tl_goods, tl_shy, tl_bidOf, tl_daysOf))
    else
    pX7_readClause_L28 N tx_signs tx_length tx_at tx_fault tx_place tl_stands tl_price tl_death tl_payers tl_bids tl_hostages tl_bags tl_bagMarks tl_goods tl_shy tl_bidOf tl_daysOf r1)
set_option maxHeartbeats 8000000 in
set_option maxRecDepth 100000 in
theorem tX7_readClause (l : Launch) (D : va_G) (κ : Nat → ClassId) (txo : Nat) (tx_signsA : Nat) (tlo : Nat) (tl_goodsA : Nat) (tl_shyA : Nat) (tl_bidOfA : Nat) (tl_daysOfA : Nat) (N : Nat) (tx_signs : Nat → Int32) (tx_length : Int32) (tx_at : Int32) (tx_fault : Int32) (tx_place : Int32) (tl_stands : Int32) (tl_price : Int32) (tl_death : Int32) (tl_payers : Int32) (tl_bids : Int32) (tl_hostages : Int32) (tl_bags : Int32) (tl_bagMarks : Int32) (tl_goods : Nat → Int32) (tl_shy : Nat → Int32) (tl_bidOf : Nat → Int32) (tl_daysOf : Nat → Int32) (z_tx_at : Int32) (z_tx_fault : Int32) (z_tx_place : Int32) (z_tl_stands : Int32) (z_tl_price : Int32) (z_tl_death : Int32) (z_tl_payers : Int32) (z_tl_bids : Int32) (z_tl_hostages : Int32) (z_tl_bags : Int32) (z_tl_bagMarks : Int32) (z_tl_goods : Nat → Int32) (z_tl_shy : Nat → Int32) (z_tl_bidOf : Nat → Int32) (z_tl_daysOf : Nat → Int32) (hres : pX7_readClause N tx_signs tx_length tx_at tx_fault tx_place tl_stands tl_price tl_death tl_payers tl_bids tl_hostages tl_bags tl_bagMarks tl_goods tl_shy tl_bidOf tl_daysOf = some (z_tx_at, z_tx_fault, z_tx_place, z_tl_stands, z_tl_price, z_tl_death, z_tl_payers, z_tl_bids, z_tl_hostages, z_tl_bags, z_tl_bagMarks, z_tl_goods, z_tl_shy, z_tl_bidOf, z_tl_daysOf)) : krV l yX7_readClause wsX7_readClause { frames := 5, cells := 0, slots := 0, locals := 500 } D κ [.ref txo, .ref tlo] ([(txo, .inr (7, [.ref tx_signsA, .int tx_length, .int tx_at, .int tx_fault, .int tx_place])), (tx_signsA, .inl (κ 0, 240, .inl tx_signs)), (tlo, .inr (6, [.int tl_stands, .int tl_price, .int tl_death, .int tl_payers, .int tl_bids, .int tl_hostages, .int tl_bags, .int tl_bagMarks, .ref tl_goodsA, .ref tl_shyA, .ref tl_bidOfA, .ref tl_daysOfA])), (tl_goodsA, .inl (κ 0, 6, .inl tl_goods)), (tl_shyA, .inl (κ 0, 6, .inl tl_shy)), (tl_bidOfA, .inl (κ 0, 9, .inl tl_bidOf)), (tl_daysOfA, .inl (κ 0, 6, .inl tl_daysOf))]) ([(txo, .inr (7, [.ref tx_signsA, .int tx_length, .int z_tx_at, .int z_tx_fault, .int z_tx_place])), (tx_signsA, .inl (κ 0, 240, .inl tx_signs)), (tlo, .inr (6, [.int z_tl_stands, .int z_tl_price, .int z_tl_death, .int z_tl_payers, .int z_tl_bids, .int z_tl_hostages, .int z_tl_bags, .int z_tl_bagMarks, .ref tl_goodsA, .ref tl_shyA, .ref tl_bidOfA, .ref tl_daysOfA])), (tl_goodsA, .inl (κ 0, 6, .inl z_tl_goods)), (tl_shyA, .inl (κ 0, 6, .inl z_tl_shy)), (tl_bidOfA, .inl (κ 0, 9, .inl z_tl_bidOf)), (tl_daysOfA, .inl (κ 0, 6, .inl z_tl_daysOf))]) := by
  refine krV_of (cc := cX7_readClause) (maxL := 3) (by decide) rfl (Nat.le_of_ble_eq_true rfl) ?_
  intro p e s m args below meth c A Q ls hx hb hml hown hts hK hA hret hP hD hS hl
  have hown : s.vm.findClass RX7 = some m.cls := hown
  have hl : lv_has ls 3 [(0, .ref txo), (1, .ref tlo)] := hl
  have iw6 : ∀ w ∈ u_ws RX6 TX6 12, w ∈ wsX7_readClause := (fun _ h => List.mem_cons_of_mem _ (List.mem_append_left _ (List.mem_append_right _ h)))
  have iw7 : ∀ w ∈ u_ws RX7 TX7 5, w ∈ wsX7_readClause := (fun _ h => List.mem_cons_of_mem _ (List.mem_append_right _ h))
  have k0 : (Cond.fieldLink RX7 27 "KingRansom$Text" "at" "I").before args s = true := hts _ (List.mem_of_getElem? (i := 1) rfl)
  have L28 : ∀ (v2 : Int32) (H : Heap) (locs : List Loc) (ls : Array Slot), va_P D vwCl ([(txo, .inr (7, [.ref tx_signsA, .int tx_length, .int tx_at, .int tx_fault, .int tx_place])), (tx_signsA, .inl (κ 0, 240, .inl tx_signs)), (tlo, .inr (6, [.int tl_stands, .int tl_price, .int tl_death, .int tl_payers, .int tl_bids, .int tl_hostages, .int tl_bags, .int tl_bagMarks, .ref tl_goodsA, .ref tl_shyA, .ref tl_bidOfA, .ref tl_daysOfA])), (tl_goodsA, .inl (κ 0, 6, .inl tl_goods)), (tl_shyA, .inl (κ 0, 6, .inl tl_shy)), (tl_bidOfA, .inl (κ 0, 9, .inl tl_bidOf)), (tl_daysOfA, .inl (κ 0, 6, .inl tl_daysOf))]) H → va_D A ([(txo, .inr (7, [.ref tx_signsA, .int tx_length, .int tx_at, .int tx_fault, .int tx_place])), (tx_signsA, .inl (κ 0, 240, .inl tx_signs)), (tlo, .inr (6, [.int tl_stands, .int tl_price, .int tl_death, .int tl_payers, .int tl_bids, .int tl_hostages, .int tl_bags, .int tl_bagMarks, .ref tl_goodsA, .ref tl_shyA, .ref tl_bidOfA, .ref tl_daysOfA])), (tl_goodsA, .inl (κ 0, 6, .inl tl_goods)), (tl_shyA, .inl (κ 0, 6, .inl tl_shy)), (tl_bidOfA, .inl (κ 0, 9, .inl tl_bidOf)), (tl_daysOfA, .inl (κ 0, 6, .inl tl_daysOf))]) → va_S A s.heap H locs → lv_has ls 3 [(0, .ref txo), (1, .ref tlo), (2, .int v2)] → pX7_readClause_L28 N tx_signs tx_length tx_at tx_fault tx_place tl_stands tl_price tl_death tl_payers tl_bids tl_hostages tl_bags tl_bagMarks tl_goods tl_shy tl_bidOf tl_daysOf v2 = some (z_tx_at, z_tx_fault, z_tx_place, z_tl_stands, z_tl_price, z_tl_death, z_tl_payers, z_tl_bids, z_tl_hostages, z_tl_bags, z_tl_bagMarks, z_tl_goods, z_tl_shy, z_tl_bidOf, z_tl_daysOf) → W p l e { frames := 5, cells := 0, slots := 0, locals := 500 } s m args below meth c H locs 0 0 Q (F0 m 28 ls []) := by
    intro v2 H locs ls hP hD hS hl hres
    unfold pX7_readClause_L28 at hres
    refine lv_iload_n hx hb dX7_readClause_28 rfl (lv_at hl 2 rfl) ?_
    by_cases u98 : v2 = 98
    · refine lv_lookup (off := 67) (tgt := 96) hx hb dX7_readClause_29 (by decide) (by rw [u98]; rfl) (by decide) ?_
      replace hres := og_t u98 hres
      refine lv_aload_n hx hb dX7_readClause_96 rfl (lv_at hl 0 rfl) ?_
      refine lv_aload_n hx hb dX7_readClause_97 rfl (lv_at hl 1 rfl) ?_
      obtain ⟨w8, w9, w10, w11, w12, hc13, hres⟩ := kb5_s hres
      refine krV_V (As := [.ref tlo]) (rest := []) (wr := []) ⟨hx, hb, hml, hown, hts⟩ hK (tX7_readBids l D κ txo tx_signsA tlo tl_goodsA tl_shyA tl_bidOfA tl_daysOfA N tx_signs tx_length tx_at tx_fault tx_place tl_stands tl_price tl_death tl_payers tl_bids tl_hostages tl_bags tl_bagMarks tl_goods tl_shy tl_bidOf tl_daysOf w8 w9 w10 w11 w12 hc13) (cwV 1 hts gX7_readClause_X7_readBids rfl rfl rfl (by decide +kernel) ⟨(Nat.le_of_ble_eq_true rfl), (Nat.le_of_ble_eq_true rfl)⟩) rfl rfl rfl hP hD hS hA [0, 1, 2, 3, 4, 5, 6] [] rfl rfl rfl rfl (by decide) rfl hl.1 rfl (Nat.le_of_ble_eq_true rfl) dX7_readClause_98 ⟨Nat.zero_le _, Nat.zero_le _⟩ (fun H locs hP hD hS => ?_)
      have hP : va_P D vwCl ([(txo, .inr (7, [.ref tx_signsA, .int tx_length, .int w8, .int w9, .int w10])), (tx_signsA, .inl (κ 0, 240, .inl tx_signs)), (tlo, .inr (6, [.int tl_stands, .int tl_price, .int tl_death, .int tl_payers, .int w11, .int tl_hostages, .int tl_bags, .int tl_bagMarks, .ref tl_goodsA, .ref tl_shyA, .ref tl_bidOfA, .ref tl_daysOfA])), (tl_goodsA, .inl (κ 0, 6, .inl tl_goods)), (tl_shyA, .inl (κ 0, 6, .inl tl_shy)), (tl_bidOfA, .inl (κ 0, 9, .inl w12)), (tl_daysOfA, .inl (κ 0, 6, .inl tl_daysOf))]) H := hP
      have hD : va_D A ([(txo, .inr (7, [.ref tx_signsA, .int tx_length, .int w8, .int w9, .int w10])), (tx_signsA, .inl (κ 0, 240, .inl tx_signs)), (tlo, .inr (6, [.int tl_stands, .int tl_price, .int tl_death, .int tl_payers, .int w11, .int tl_hostages, .int tl_bags, .int tl_bagMarks, .ref tl_goodsA, .ref tl_shyA, .ref tl_bidOfA, .ref tl_daysOfA])), (tl_goodsA, .inl (κ 0, 6, .inl tl_goods)), (tl_shyA, .inl (κ 0, 6, .inl tl_shy)), (tl_bidOfA, .inl (κ 0, 9, .inl w12)), (tl_daysOfA, .inl (κ 0, 6, .inl tl_daysOf))]) := hD
      refine lv_goto (tgt := 129) hx hb dX7_readClause_101 (by decide) ?_
      have hres := Option.some.inj hres
      have h0 := (Prod.mk.inj hres).1
      replace hres := (Prod.mk.inj hres).2
      have h1 := (Prod.mk.inj hres).1
      replace hres := (Prod.mk.inj hres).2
      have h2 := (Prod.mk.inj hres).1
      replace hres := (Prod.mk.inj hres).2
      have h3 := (Prod.mk.inj hres).1
      replace hres := (Prod.mk.inj hres).2
      have h4 := (Prod.mk.inj hres).1
      replace hres := (Prod.mk.inj hres).2
      have h5 := (Prod.mk.inj hres).1
      replace hres := (Prod.mk.inj hres).2
      have h6 := (Prod.mk.inj hres).1
      replace hres := (Prod.mk.inj hres).2
      have h7 := (Prod.mk.inj hres).1
      replace hres := (Prod.mk.inj hres).2
      have h8 := (Prod.mk.inj hres).1
      replace hres := (Prod.mk.inj hres).2
      have h9 := (Prod.mk.inj hres).1
      replace hres := (Prod.mk.inj hres).2
      have h10 := (Prod.mk.inj hres).1
      replace hres := (Prod.mk.inj hres).2
      have h11 := (Prod.mk.inj hres).1
      replace hres := (Prod.mk.inj hres).2
      have h12 := (Prod.mk.inj hres).1
      replace hres := (Prod.mk.inj hres).2
      have h13 := (Prod.mk.inj hres).1
      replace hres := (Prod.mk.inj hres).2
      have h14 := hres
      subst h0
      subst h1
      subst h2
      subst h3
      subst h4
      subst h5
      subst h6
      subst h7
      subst h8
      subst h9
      subst h10
      subst h11
      subst h12
      subst h13
      subst h14
      exact hret _ _ _ _ hP hD hS dX7_readClause_129
    replace hres := og_f u98 hres
    by_cases u104 : v2 = 104
    · refine lv_lookup (off := 75) (tgt := 104) hx hb dX7_readClause_29 (by decide) (by rw [u104]; rfl) (by decide) ?_
      replace hres := og_t u104 hres
      refine lv_aload_n hx hb dX7_readClause_104 rfl (lv_at hl 0 rfl) ?_
      refine lv_aload_n hx hb dX7_readClause_105 rfl (lv_at hl 1 rfl) ?_
      obtain ⟨w14, w15, w16, w17, w18, hc19, hres⟩ := kb5_s hres
      refine krV_V (As := [.ref tlo]) (rest := []) (wr := []) ⟨hx, hb, hml, hown, hts⟩ hK (tX7_readHostage l D κ txo tx_signsA tlo tl_goodsA tl_shyA tl_bidOfA tl_daysOfA N tx_signs tx_length tx_at tx_fault tx_place tl_stands tl_price tl_death tl_payers tl_bids tl_hostages tl_bags tl_bagMarks tl_goods tl_shy tl_bidOf tl_daysOf w14 w15 w16 w17 w18 hc19) (cwV 1 hts gX7_readClause_X7_readHostage rfl rfl rfl (by decide +kernel) ⟨(Nat.le_of_ble_eq_true rfl), (Nat.le_of_ble_eq_true rfl)⟩) rfl rfl rfl hP hD hS hA [0, 1, 2, 3, 4, 5, 6] [] rfl rfl rfl rfl (by decide) rfl hl.1 rfl (Nat.le_of_ble_eq_true rfl) dX7_readClause_106 ⟨Nat.zero_le _, Nat.zero_le _⟩ (fun H locs hP hD hS => ?_)
      have hP : va_P D vwCl ([(txo, .inr (7, [.ref tx_signsA, .int tx_length, .int w14, .int w15, .int w16])), (tx_signsA, .inl (κ 0, 240, .inl tx_signs)), (tlo, .inr (6, [.int tl_stands, .int tl_price, .int tl_death, .int tl_payers, .int tl_bids, .int w17, .int tl_bags, .int tl_bagMarks, .ref tl_goodsA, .ref tl_shyA, .ref tl_bidOfA, .ref tl_daysOfA])), (tl_goodsA, .inl (κ 0, 6, .inl tl_goods)), (tl_shyA, .inl (κ 0, 6, .inl tl_shy)), (tl_bidOfA, .inl (κ 0, 9, .inl tl_bidOf)), (tl_daysOfA, .inl (κ 0, 6, .inl w18))]) H := hP
      have hD : va_D A ([(txo, .inr (7, [.ref tx_signsA, .int tx_length, .int w14, .int w15, .int w16])), (tx_signsA, .inl (κ 0, 240, .inl tx_signs)), (tlo, .inr (6, [.int tl_stands, .int tl_price, .int tl_death, .int tl_payers, .int tl_bids, .int w17, .int tl_bags, .int tl_bagMarks, .ref tl_goodsA, .ref tl_shyA, .ref tl_bidOfA, .ref tl_daysOfA])), (tl_goodsA, .inl (κ 0, 6, .inl tl_goods)), (tl_shyA, .inl (κ 0, 6, .inl tl_shy)), (tl_bidOfA, .inl (κ 0, 9, .inl tl_bidOf)), (tl_daysOfA, .inl (κ 0, 6, .inl w18))]) := hD
      refine lv_goto (tgt := 129) hx hb dX7_readClause_109 (by decide) ?_
      have hres := Option.some.inj hres
      have h0 := (Prod.mk.inj hres).1
      replace hres := (Prod.mk.inj hres).2
      have h1 := (Prod.mk.inj hres).1
      replace hres := (Prod.mk.inj hres).2
      have h2 := (Prod.mk.inj hres).1
      replace hres := (Prod.mk.inj hres).2
      have h3 := (Prod.mk.inj hres).1
      replace hres := (Prod.mk.inj hres).2
      have h4 := (Prod.mk.inj hres).1
      replace hres := (Prod.mk.inj hres).2
      have h5 := (Prod.mk.inj hres).1
      replace hres := (Prod.mk.inj hres).2
      have h6 := (Prod.mk.inj hres).1
      replace hres := (Prod.mk.inj hres).2
      have h7 := (Prod.mk.inj hres).1
      replace hres := (Prod.mk.inj hres).2
      have h8 := (Prod.mk.inj hres).1
      replace hres := (Prod.mk.inj hres).2
      have h9 := (Prod.mk.inj hres).1
      replace hres := (Prod.mk.inj hres).2
      have h10 := (Prod.mk.inj hres).1
      replace hres := (Prod.mk.inj hres).2
      have h11 := (Prod.mk.inj hres).1
      replace hres := (Prod.mk.inj hres).2
      have h12 := (Prod.mk.inj hres).1
      replace hres := (Prod.mk.inj hres).2
      have h13 := (Prod.mk.inj hres).1
      replace hres := (Prod.mk.inj hres).2
      have h14 := hres
      subst h0
      subst h1
      subst h2
      subst h3
      subst h4
      subst h5
      subst h6
      subst h7
      subst h8
      subst h9
      subst h10
      subst h11
      subst h12
      subst h13
      subst h14
      exact hret _ _ _ _ hP hD hS dX7_readClause_129
    replace hres := og_f u104 hres
    by_cases u107 : v2 = 107
    · refine lv_lookup (off := 51) (tgt := 80) hx hb dX7_readClause_29 (by decide) (by rw [u107]; rfl) (by decide) ?_
      replace hres := og_t u107 hres
      refine lv_aload_n hx hb dX7_readClause_80 rfl (lv_at hl 0 rfl) ?_
      refine lv_aload_n hx hb dX7_readClause_81 rfl (lv_at hl 1 rfl) ?_
      obtain ⟨w20, w21, w22, w23, w24, w25, hc26, hres⟩ := kb6_s hres
      refine krV_V (As := [.ref tlo]) (rest := []) (wr := []) ⟨hx, hb, hml, hown, hts⟩ hK (tX7_readKing l D κ txo tx_signsA tlo tl_goodsA tl_shyA tl_bidOfA tl_daysOfA N tx_signs tx_length tx_at tx_fault tx_place tl_stands tl_price tl_death tl_payers tl_bids tl_hostages tl_bags tl_bagMarks tl_goods tl_shy tl_bidOf tl_daysOf w20 w21 w22 w23 w24 w25 hc26) (cwV 1 hts gX7_readClause_X7_readKing rfl rfl rfl (by decide +kernel) ⟨(Nat.le_of_ble_eq_true rfl), (Nat.le_of_ble_eq_true rfl)⟩) rfl rfl rfl hP hD hS hA [0, 1, 2, 3, 4, 5, 6] [] rfl rfl rfl rfl (by decide) rfl hl.1 rfl (Nat.le_of_ble_eq_true rfl) dX7_readClause_82 ⟨Nat.zero_le _, Nat.zero_le _⟩ (fun H locs hP hD hS => ?_)
      have hP : va_P D vwCl ([(txo, .inr (7, [.ref tx_signsA, .int tx_length, .int w20, .int w21, .int w22])), (tx_signsA, .inl (κ 0, 240, .inl tx_signs)), (tlo, .inr (6, [.int w23, .int w24, .int w25, .int tl_payers, .int tl_bids, .int tl_hostages, .int tl_bags, .int tl_bagMarks, .ref tl_goodsA, .ref tl_shyA, .ref tl_bidOfA, .ref tl_daysOfA])), (tl_goodsA, .inl (κ 0, 6, .inl tl_goods)), (tl_shyA, .inl (κ 0, 6, .inl tl_shy)), (tl_bidOfA, .inl (κ 0, 9, .inl tl_bidOf)), (tl_daysOfA, .inl (κ 0, 6, .inl tl_daysOf))]) H := hP
      have hD : va_D A ([(txo, .inr (7, [.ref tx_signsA, .int tx_length, .int w20, .int w21, .int w22])), (tx_signsA, .inl (κ 0, 240, .inl tx_signs)), (tlo, .inr (6, [.int w23, .int w24, .int w25, .int tl_payers, .int tl_bids, .int tl_hostages, .int tl_bags, .int tl_bagMarks, .ref tl_goodsA, .ref tl_shyA, .ref tl_bidOfA, .ref tl_daysOfA])), (tl_goodsA, .inl (κ 0, 6, .inl tl_goods)), (tl_shyA, .inl (κ 0, 6, .inl tl_shy)), (tl_bidOfA, .inl (κ 0, 9, .inl tl_bidOf)), (tl_daysOfA, .inl (κ 0, 6, .inl tl_daysOf))]) := hD
      refine lv_goto (tgt := 129) hx hb dX7_readClause_85 (by decide) ?_
      have hres := Option.some.inj hres
      have h0 := (Prod.mk.inj hres).1
      replace hres := (Prod.mk.inj hres).2
      have h1 := (Prod.mk.inj hres).1
      replace hres := (Prod.mk.inj hres).2
      have h2 := (Prod.mk.inj hres).1
      replace hres := (Prod.mk.inj hres).2
      have h3 := (Prod.mk.inj hres).1
      replace hres := (Prod.mk.inj hres).2
      have h4 := (Prod.mk.inj hres).1
      replace hres := (Prod.mk.inj hres).2
      have h5 := (Prod.mk.inj hres).1
      replace hres := (Prod.mk.inj hres).2
      have h6 := (Prod.mk.inj hres).1
      replace hres := (Prod.mk.inj hres).2
      have h7 := (Prod.mk.inj hres).1
      replace hres := (Prod.mk.inj hres).2
      have h8 := (Prod.mk.inj hres).1
      replace hres := (Prod.mk.inj hres).2
      have h9 := (Prod.mk.inj hres).1
      replace hres := (Prod.mk.inj hres).2
      have h10 := (Prod.mk.inj hres).1
      replace hres := (Prod.mk.inj hres).2
      have h11 := (Prod.mk.inj hres).1
      replace hres := (Prod.mk.inj hres).2
      have h12 := (Prod.mk.inj hres).1
      replace hres := (Prod.mk.inj hres).2
      have h13 := (Prod.mk.inj hres).1
      replace hres := (Prod.mk.inj hres).2
      have h14 := hres
      subst h0
      subst h1
      subst h2
      subst h3
      subst h4
      subst h5
      subst h6
      subst h7
      subst h8
      subst h9
      subst h10
      subst h11
      subst h12
      subst h13
      subst h14
      exact hret _ _ _ _ hP hD hS dX7_readClause_129
    replace hres := og_f u107 hres
    by_cases u112 : v2 = 112
    · refine lv_lookup (off := 59) (tgt := 88) hx hb dX7_readClause_29 (by decide) (by rw [u112]; rfl) (by decide) ?_
      replace hres := og_t u112 hres
      refine lv_aload_n hx hb dX7_readClause_88 rfl (lv_at hl 0 rfl) ?_
      refine lv_aload_n hx hb dX7_readClause_89 rfl (lv_at hl 1 rfl) ?_
      obtain ⟨w27, w28, w29, w30, w31, w32, hc33, hres⟩ := kb6_s hres
      refine krV_V (As := [.ref tlo]) (rest := []) (wr := []) ⟨hx, hb, hml, hown, hts⟩ hK (tX7_readPayer l D κ txo tx_signsA tlo tl_goodsA tl_shyA tl_bidOfA tl_daysOfA N tx_signs tx_length tx_at tx_fault tx_place tl_stands tl_price tl_death tl_payers tl_bids tl_hostages tl_bags tl_bagMarks tl_goods tl_shy tl_bidOf tl_daysOf w27 w28 w29 w30 w31 w32 hc33) (cwV 1 hts gX7_readClause_X7_readPayer rfl rfl rfl (by decide +kernel) ⟨(Nat.le_of_ble_eq_true rfl), (Nat.le_of_ble_eq_true rfl)⟩) rfl rfl rfl hP hD hS hA [0, 1, 2, 3, 4, 5, 6] [] rfl rfl rfl rfl (by decide) rfl hl.1 rfl (Nat.le_of_ble_eq_true rfl) dX7_readClause_90 ⟨Nat.zero_le _, Nat.zero_le _⟩ (fun H locs hP hD hS => ?_)
      have hP : va_P D vwCl ([(txo, .inr (7, [.ref tx_signsA, .int tx_length, .int w27, .int w28, .int w29])), (tx_signsA, .inl (κ 0, 240, .inl tx_signs)), (tlo, .inr (6, [.int tl_stands, .int tl_price, .int tl_death, .int w30, .int tl_bids, .int tl_hostages, .int tl_bags, .int tl_bagMarks, .ref tl_goodsA, .ref tl_shyA, .ref tl_bidOfA, .ref tl_daysOfA])), (tl_goodsA, .inl (κ 0, 6, .inl w31)), (tl_shyA, .inl (κ 0, 6, .inl w32)), (tl_bidOfA, .inl (κ 0, 9, .inl tl_bidOf)), (tl_daysOfA, .inl (κ 0, 6, .inl tl_daysOf))]) H := hP
      have hD : va_D A ([(txo, .inr (7, [.ref tx_signsA, .int tx_length, .int w27, .int w28, .int w29])), (tx_signsA, .inl (κ 0, 240, .inl tx_signs)), (tlo, .inr (6, [.int tl_stands, .int tl_price, .int tl_death, .int w30, .int tl_bids, .int tl_hostages, .int tl_bags, .int tl_bagMarks, .ref tl_goodsA, .ref tl_shyA, .ref tl_bidOfA, .ref tl_daysOfA])), (tl_goodsA, .inl (κ 0, 6, .inl w31)), (tl_shyA, .inl (κ 0, 6, .inl w32)), (tl_bidOfA, .inl (κ 0, 9, .inl tl_bidOf)), (tl_daysOfA, .inl (κ 0, 6, .inl tl_daysOf))]) := hD
      refine lv_goto (tgt := 129) hx hb dX7_readClause_93 (by decide) ?_
      have hres := Option.some.inj hres
      have h0 := (Prod.mk.inj hres).1
      replace hres := (Prod.mk.inj hres).2
      have h1 := (Prod.mk.inj hres).1
      replace hres := (Prod.mk.inj hres).2
      have h2 := (Prod.mk.inj hres).1
      replace hres := (Prod.mk.inj hres).2
      have h3 := (Prod.mk.inj hres).1
      replace hres := (Prod.mk.inj hres).2
      have h4 := (Prod.mk.inj hres).1
      replace hres := (Prod.mk.inj hres).2
      have h5 := (Prod.mk.inj hres).1
      replace hres := (Prod.mk.inj hres).2
      have h6 := (Prod.mk.inj hres).1
      replace hres := (Prod.mk.inj hres).2
      have h7 := (Prod.mk.inj hres).1
      replace hres := (Prod.mk.inj hres).2
      have h8 := (Prod.mk.inj hres).1
      replace hres := (Prod.mk.inj hres).2
      have h9 := (Prod.mk.inj hres).1
      replace hres := (Prod.mk.inj hres).2
      have h10 := (Prod.mk.inj hres).1
      replace hres := (Prod.mk.inj hres).2
      have h11 := (Prod.mk.inj hres).1
      replace hres := (Prod.mk.inj hres).2
      have h12 := (Prod.mk.inj hres).1
      replace hres := (Prod.mk.inj hres).2
      have h13 := (Prod.mk.inj hres).1
      replace hres := (Prod.mk.inj hres).2
      have h14 := hres
      subst h0
      subst h1
      subst h2
      subst h3
      subst h4
      subst h5
      subst h6
      subst h7
      subst h8
      subst h9
      subst h10
      subst h11
      subst h12
      subst h13
      subst h14
      exact hret _ _ _ _ hP hD hS dX7_readClause_129
    replace hres := og_f u112 hres
    by_cases u119 : v2 = 119
    · refine lv_lookup (off := 83) (tgt := 112) hx hb dX7_readClause_29 (by decide) (by rw [u119]; rfl) (by decide) ?_
      replace hres := og_t u119 hres
      refine lv_aload_n hx hb dX7_readClause_112 rfl (lv_at hl 0 rfl) ?_
      refine lv_aload_n hx hb dX7_readClause_113 rfl (lv_at hl 1 rfl) ?_
      obtain ⟨w34, w35, w36, w37, w38, hc39, hres⟩ := kb5_s hres
      refine krV_V (As := [.ref tlo]) (rest := []) (wr := []) ⟨hx, hb, hml, hown, hts⟩ hK (tX7_readBags l D κ txo tx_signsA tlo tl_goodsA tl_shyA tl_bidOfA tl_daysOfA N tx_signs tx_length tx_at tx_fault tx_place tl_stands tl_price tl_death tl_payers tl_bids tl_hostages tl_bags tl_bagMarks tl_goods tl_shy tl_bidOf tl_daysOf w34 w35 w36 w37 w38 hc39) (cwV 1 hts gX7_readClause_X7_readBags rfl rfl rfl (by decide +kernel) ⟨(Nat.le_of_ble_eq_true rfl), (Nat.le_of_ble_eq_true rfl)⟩) rfl rfl rfl hP hD hS hA [0, 1, 2, 3, 4, 5, 6] [] rfl rfl rfl rfl (by decide) rfl hl.1 rfl (Nat.le_of_ble_eq_true rfl) dX7_readClause_114 ⟨Nat.zero_le _, Nat.zero_le _⟩ (fun H locs hP hD hS => ?_)
      have hP : va_P D vwCl ([(txo, .inr (7, [.ref tx_signsA, .int tx_length, .int w34, .int w35, .int w36])), (tx_signsA, .inl (κ 0, 240, .inl tx_signs)), (tlo, .inr (6, [.int tl_stands, .int tl_price, .int tl_death, .int tl_payers, .int tl_bids, .int tl_hostages, .int w37, .int w38, .ref tl_goodsA, .ref tl_shyA, .ref tl_bidOfA, .ref tl_daysOfA])), (tl_goodsA, .inl (κ 0, 6, .inl tl_goods)), (tl_shyA, .inl (κ 0, 6, .inl tl_shy)), (tl_bidOfA, .inl (κ 0, 9, .inl tl_bidOf)), (tl_daysOfA, .inl (κ 0, 6, .inl tl_daysOf))]) H := hP
      have hD : va_D A ([(txo, .inr (7, [.ref tx_signsA, .int tx_length, .int w34, .int w35, .int w36])), (tx_signsA, .inl (κ 0, 240, .inl tx_signs)), (tlo, .inr (6, [.int tl_stands, .int tl_price, .int tl_death, .int tl_payers, .int tl_bids, .int tl_hostages, .int w37, .int w38, .ref tl_goodsA, .ref tl_shyA, .ref tl_bidOfA, .ref tl_daysOfA])), (tl_goodsA, .inl (κ 0, 6, .inl tl_goods)), (tl_shyA, .inl (κ 0, 6, .inl tl_shy)), (tl_bidOfA, .inl (κ 0, 9, .inl tl_bidOf)), (tl_daysOfA, .inl (κ 0, 6, .inl tl_daysOf))]) := hD
      refine lv_goto (tgt := 129) hx hb dX7_readClause_117 (by decide) ?_
      have hres := Option.some.inj hres
      have h0 := (Prod.mk.inj hres).1
      replace hres := (Prod.mk.inj hres).2
      have h1 := (Prod.mk.inj hres).1
      replace hres := (Prod.mk.inj hres).2
      have h2 := (Prod.mk.inj hres).1
      replace hres := (Prod.mk.inj hres).2
      have h3 := (Prod.mk.inj hres).1
      replace hres := (Prod.mk.inj hres).2
      have h4 := (Prod.mk.inj hres).1
      replace hres := (Prod.mk.inj hres).2
      have h5 := (Prod.mk.inj hres).1
      replace hres := (Prod.mk.inj hres).2
      have h6 := (Prod.mk.inj hres).1
      replace hres := (Prod.mk.inj hres).2
      have h7 := (Prod.mk.inj hres).1
      replace hres := (Prod.mk.inj hres).2
      have h8 := (Prod.mk.inj hres).1
      replace hres := (Prod.mk.inj hres).2
      have h9 := (Prod.mk.inj hres).1
      replace hres := (Prod.mk.inj hres).2
      have h10 := (Prod.mk.inj hres).1
      replace hres := (Prod.mk.inj hres).2
      have h11 := (Prod.mk.inj hres).1
      replace hres := (Prod.mk.inj hres).2
      have h12 := (Prod.mk.inj hres).1
      replace hres := (Prod.mk.inj hres).2
      have h13 := (Prod.mk.inj hres).1
      replace hres := (Prod.mk.inj hres).2
      have h14 := hres
      subst h0
      subst h1
      subst h2
      subst h3
      subst h4
      subst h5
      subst h6
      subst h7
      subst h8
      subst h9
      subst h10
      subst h11
      subst h12
      subst h13
      subst h14
      exact hret _ _ _ _ hP hD hS dX7_readClause_129
    replace hres := og_f u119 hres
    refine lv_lookup (off := 91) (tgt := 120) hx hb dX7_readClause_29 (by decide) (by rw [lv_osw u98 (by decide)]; rw [lv_osw u104 (by decide)]; rw [lv_osw u107 (by decide)]; rw [lv_osw u112 (by decide)]; rw [lv_osw u119 (by decide)]; rfl) (by decide) ?_
    refine lv_aload_n hx hb dX7_readClause_120 rfl (lv_at hl 0 rfl) ?_
    refine lv_iconst (v := 1) hx hb dX7_readClause_121 (by decide) ?_
    refine lv_aload_n hx hb dX7_readClause_122 rfl (lv_at hl 0 rfl) ?_
    refine va_get (D := D) (ci := 7) (v := .int tx_at) (C := RX7) (T := TX7) (N := 5) hx hb hts iw7 hown hK.1 hP 0 rfl rfl 2 (by decide) k0 (fun _ h9 => h9) rfl dX7_readClause_123 ?_
    obtain ⟨w40, w41, hc42, hres⟩ := kb2_s hres
    refine krV_V (As := [.int 1, .int tx_at]) (rest := []) (wr := [(tlo, .inr (6, [.int tl_stands, .int tl_price, .int tl_death, .int tl_payers, .int tl_bids, .int tl_hostages, .int tl_bags, .int tl_bagMarks, .ref tl_goodsA, .ref tl_shyA, .ref tl_bidOfA, .ref tl_daysOfA])), (tl_goodsA, .inl (κ 0, 6, .inl tl_goods)), (tl_shyA, .inl (κ 0, 6, .inl tl_shy)), (tl_bidOfA, .inl (κ 0, 9, .inl tl_bidOf)), (tl_daysOfA, .inl (κ 0, 6, .inl tl_daysOf))]) ⟨hx, hb, hml, hown, hts⟩ hK (tX7_fail l D κ txo tx_signsA tx_signs tx_length tx_at tx_fault tx_place 1 tx_at w40 w41 hc42) (cwV 2 hts gX7_readClause_X7_fail rfl rfl rfl (by decide +kernel) ⟨(Nat.le_of_ble_eq_true rfl), (Nat.le_of_ble_eq_true rfl)⟩) rfl rfl rfl hP hD hS hA [0, 1] [2, 3, 4, 5, 6] rfl rfl rfl rfl (by decide) rfl hl.1 rfl (Nat.le_of_ble_eq_true rfl) dX7_readClause_126 ⟨Nat.zero_le _, Nat.zero_le _⟩ (fun H locs hP hD hS => ?_)
    have hP : va_P D vwCl ([(tlo, .inr (6, [.int tl_stands, .int tl_price, .int tl_death, .int tl_payers, .int tl_bids, .int tl_hostages, .int tl_bags, .int tl_bagMarks, .ref tl_goodsA, .ref tl_shyA, .ref tl_bidOfA, .ref tl_daysOfA])), (tl_goodsA, .inl (κ 0, 6, .inl tl_goods)), (tl_shyA, .inl (κ 0, 6, .inl tl_shy)), (tl_bidOfA, .inl (κ 0, 9, .inl tl_bidOf)), (tl_daysOfA, .inl (κ 0, 6, .inl tl_daysOf)), (txo, .inr (7, [.ref tx_signsA, .int tx_length, .int tx_at, .int w40, .int w41])), (tx_signsA, .inl (κ 0, 240, .inl tx_signs))]) H := hP
    have hD : va_D A ([(tlo, .inr (6, [.int tl_stands, .int tl_price, .int tl_death, .int tl_payers, .int tl_bids, .int tl_hostages, .int tl_bags, .int tl_bagMarks, .ref tl_goodsA, .ref tl_shyA, .ref tl_bidOfA, .ref tl_daysOfA])), (tl_goodsA, .inl (κ 0, 6, .inl tl_goods)), (tl_shyA, .inl (κ 0, 6, .inl tl_shy)), (tl_bidOfA, .inl (κ 0, 9, .inl tl_bidOf)), (tl_daysOfA, .inl (κ 0, 6, .inl tl_daysOf)), (txo, .inr (7, [.ref tx_signsA, .int tx_length, .int tx_at, .int w40, .int w41])), (tx_signsA, .inl (κ 0, 240, .inl tx_signs))]) := hD
    have hres := Option.some.inj hres
    have h0 := (Prod.mk.inj hres).1
    replace hres := (Prod.mk.inj hres).2
    have h1 := (Prod.mk.inj hres).1
    replace hres := (Prod.mk.inj hres).2
    have h2 := (Prod.mk.inj hres).1
    replace hres := (Prod.mk.inj hres).2
    have h3 := (Prod.mk.inj hres).1
    replace hres := (Prod.mk.inj hres).2
    have h4 := (Prod.mk.inj hres).1
    replace hres := (Prod.mk.inj hres).2
    have h5 := (Prod.mk.inj hres).1
    replace hres := (Prod.mk.inj hres).2
    have h6 := (Prod.mk.inj hres).1
    replace hres := (Prod.mk.inj hres).2
    have h7 := (Prod.mk.inj hres).1
    replace hres := (Prod.mk.inj hres).2
    have h8 := (Prod.mk.inj hres).1
    replace hres := (Prod.mk.inj hres).2
    have h9 := (Prod.mk.inj hres).1
    replace hres := (Prod.mk.inj hres).2
    have h10 := (Prod.mk.inj hres).1
    replace hres := (Prod.mk.inj hres).2
    have h11 := (Prod.mk.inj hres).1
    replace hres := (Prod.mk.inj hres).2
    have h12 := (Prod.mk.inj hres).1
    replace hres := (Prod.mk.inj hres).2
    have h13 := (Prod.mk.inj hres).1
    replace hres := (Prod.mk.inj hres).2
    have h14 := hres
    subst h0
    subst h1
    subst h2
    subst h3
    subst h4
    subst h5
    subst h6
    subst h7
    subst h8
    subst h9
    subst h10
    subst h11
    subst h12
    subst h13
    subst h14
    exact hret _ _ _ _ (hP.sub [5, 6, 0, 1, 2, 3, 4] rfl) (hD.sub [5, 6, 0, 1, 2, 3, 4] (by decide) rfl) hS dX7_readClause_129
  unfold pX7_readClause at hres
  refine lv_aload_n hx hb dX7_readClause_0 rfl (lv_at hl 0 rfl) ?_
  obtain ⟨r1, hc2, hres⟩ := kb1_s hres
  refine krI_V (As := []) (rest := []) (wr := [(tlo, .inr (6, [.int tl_stands, .int tl_price, .int tl_death, .int tl_payers, .int tl_bids, .int tl_hostages, .int tl_bags, .int tl_bagMarks, .ref tl_goodsA, .ref tl_shyA, .ref tl_bidOfA, .ref tl_daysOfA])), (tl_goodsA, .inl (κ 0, 6, .inl tl_goods)), (tl_shyA, .inl (κ 0, 6, .inl tl_shy)), (tl_bidOfA, .inl (κ 0, 9, .inl tl_bidOf)), (tl_daysOfA, .inl (κ 0, 6, .inl tl_daysOf))]) ⟨hx, hb, hml, hown, hts⟩ hK (tX7_here l D κ txo tx_signsA tx_signs tx_length tx_at tx_fault tx_place r1 hc2) (cwV 0 hts gX7_readClause_X7_here rfl rfl rfl (by decide +kernel) ⟨(Nat.le_of_ble_eq_true rfl), (Nat.le_of_ble_eq_true rfl)⟩) rfl rfl rfl hP hD hS hA [0, 1] [2, 3, 4, 5, 6] rfl rfl rfl rfl (by decide) rfl hl.1 rfl (Nat.le_of_ble_eq_true rfl) dX7_readClause_1 ⟨Nat.zero_le _, Nat.zero_le _⟩ (fun H locs hP hD hS => ?_)
  have hP : va_P D vwCl ([(tlo, .inr (6, [.int tl_stands, .int tl_price, .int tl_death, .int tl_payers, .int tl_bids, .int tl_hostages, .int tl_bags, .int tl_bagMarks, .ref tl_goodsA, .ref tl_shyA, .ref tl_bidOfA, .ref tl_daysOfA])), (tl_goodsA, .inl (κ 0, 6, .inl tl_goods)), (tl_shyA, .inl (κ 0, 6, .inl tl_shy)), (tl_bidOfA, .inl (κ 0, 9, .inl tl_bidOf)), (tl_daysOfA, .inl (κ 0, 6, .inl tl_daysOf)), (txo, .inr (7, [.ref tx_signsA, .int tx_length, .int tx_at, .int tx_fault, .int tx_place])), (tx_signsA, .inl (κ 0, 240, .inl tx_signs))]) H := hP
  have hD : va_D A ([(tlo, .inr (6, [.int tl_stands, .int tl_price, .int tl_death, .int tl_payers, .int tl_bids, .int tl_hostages, .int tl_bags, .int tl_bagMarks, .ref tl_goodsA, .ref tl_shyA, .ref tl_bidOfA, .ref tl_daysOfA])), (tl_goodsA, .inl (κ 0, 6, .inl tl_goods)), (tl_shyA, .inl (κ 0, 6, .inl tl_shy)), (tl_bidOfA, .inl (κ 0, 9, .inl tl_bidOf)), (tl_daysOfA, .inl (κ 0, 6, .inl tl_daysOf)), (txo, .inr (7, [.ref tx_signsA, .int tx_length, .int tx_at, .int tx_fault, .int tx_place])), (tx_signsA, .inl (κ 0, 240, .inl tx_signs))]) := hD
  refine lv_istore_n (lv' := [(2, .int r1), (0, .ref txo), (1, .ref tlo)]) hx hb dX7_readClause_4 rfl hl (by decide) rfl (fun ls hl => ?_)
  refine lv_aload_n hx hb dX7_readClause_5 rfl (lv_at hl 2 rfl) ?_
  refine va_getN (D := D) (ci := 6) (v := .int tl_stands) (C := RX6) (T := TX6) (N := 12) hx hb hts iw6 hown hK.1 hP 0 rfl rfl 0 (by decide) (hK.fl 3 rfl) (fun _ h9 => h9) rfl dX7_readClause_6 ?_
  refine lv_if_ne (tgt := 28) hx hb dX7_readClause_9 (by decide) (fun c3 => ?_) (fun c3 => ?_)
  · replace hres := og_f c3 hres
    exact L28 r1 _ _ _ (hP.sub [5, 6, 0, 1, 2, 3, 4] rfl) (hD.sub [5, 6, 0, 1, 2, 3, 4] (by decide) rfl) hS (lv_sub hl [1, 2, 0] rfl) hres
  · replace hres := og_t c3 hres
    refine lv_iload_n hx hb dX7_readClause_12 rfl (lv_at hl 0 rfl) ?_
    refine lv_bipush (v := 107) hx hb dX7_readClause_13 (by decide) ?_
    refine lv_icmp_eq (tgt := 28) hx hb dX7_readClause_15 (by decide) (fun c4 => ?_) (fun c4 => ?_)
    · replace hres := og_t c4 hres
      exact L28 r1 _ _ _ (hP.sub [5, 6, 0, 1, 2, 3, 4] rfl) (hD.sub [5, 6, 0, 1, 2, 3, 4] (by decide) rfl) hS (lv_sub hl [1, 2, 0] rfl) hres
    · replace hres := og_f c4 hres
      refine lv_aload_n hx hb dX7_readClause_18 rfl (lv_at hl 1 rfl) ?_
      refine lv_iconst (v := 1) hx hb dX7_readClause_19 (by decide) ?_
      refine lv_aload_n hx hb dX7_readClause_20 rfl (lv_at hl 1 rfl) ?_
      refine va_get (D := D) (ci := 7) (v := .int tx_at) (C := RX7) (T := TX7) (N := 5) hx hb hts iw7 hown hK.1 hP 5 rfl rfl 2 (by decide) k0 (fun _ h9 => h9) rfl dX7_readClause_21 ?_
      obtain ⟨w5, w6, hc7, hres⟩ := kb2_s hres
      refine krV_V (As := [.int 1, .int tx_at]) (rest := []) (wr := [(tlo, .inr (6, [.int tl_stands, .int tl_price, .int tl_death, .int tl_payers, .int tl_bids, .int tl_hostages, .int tl_bags, .int tl_bagMarks, .ref tl_goodsA, .ref tl_shyA, .ref tl_bidOfA, .ref tl_daysOfA])), (tl_goodsA, .inl (κ 0, 6, .inl tl_goods)), (tl_shyA, .inl (κ 0, 6, .inl tl_shy)), (tl_bidOfA, .inl (κ 0, 9, .inl tl_bidOf)), (tl_daysOfA, .inl (κ 0, 6, .inl tl_daysOf))]) ⟨hx, hb, hml, hown, hts⟩ hK (tX7_fail l D κ txo tx_signsA tx_signs tx_length tx_at tx_fault tx_place 1 tx_at w5 w6 hc7) (cwV 2 hts gX7_readClause_X7_fail rfl rfl rfl (by decide +kernel) ⟨(Nat.le_of_ble_eq_true rfl), (Nat.le_of_ble_eq_true rfl)⟩) rfl rfl rfl hP hD hS hA [5, 6] [0, 1, 2, 3, 4] rfl rfl rfl rfl (by decide) rfl hl.1 rfl (Nat.le_of_ble_eq_true rfl) dX7_readClause_24 ⟨Nat.zero_le _, Nat.zero_le _⟩ (fun H locs hP hD hS => ?_)
      have hP : va_P D vwCl ([(tlo, .inr (6, [.int tl_stands, .int tl_price, .int tl_death, .int tl_payers, .int tl_bids, .int tl_hostages, .int tl_bags, .int tl_bagMarks, .ref tl_goodsA, .ref tl_shyA, .ref tl_bidOfA, .ref tl_daysOfA])), (tl_goodsA, .inl (κ 0, 6, .inl tl_goods)), (tl_shyA, .inl (κ 0, 6, .inl tl_shy)), (tl_bidOfA, .inl (κ 0, 9, .inl tl_bidOf)), (tl_daysOfA, .inl (κ 0, 6, .inl tl_daysOf)), (txo, .inr (7, [.ref tx_signsA, .int tx_length, .int tx_at, .int w5, .int w6])), (tx_signsA, .inl (κ 0, 240, .inl tx_signs))]) H := hP
      have hD : va_D A ([(tlo, .inr (6, [.int tl_stands, .int tl_price, .int tl_death, .int tl_payers, .int tl_bids, .int tl_hostages, .int tl_bags, .int tl_bagMarks, .ref tl_goodsA, .ref tl_shyA, .ref tl_bidOfA, .ref tl_daysOfA])), (tl_goodsA, .inl (κ 0, 6, .inl tl_goods)), (tl_shyA, .inl (κ 0, 6, .inl tl_shy)), (tl_bidOfA, .inl (κ 0, 9, .inl tl_bidOf)), (tl_daysOfA, .inl (κ 0, 6, .inl tl_daysOf)), (txo, .inr (7, [.ref tx_signsA, .int tx_length, .int tx_at, .int w5, .int w6])), (tx_signsA, .inl (κ 0, 240, .inl tx_signs))]) := hD
      have hres := Option.some.inj hres
      have h0 := (Prod.mk.inj hres).1
      replace hres := (Prod.mk.inj hres).2
      have h1 := (Prod.mk.inj hres).1
      replace hres := (Prod.mk.inj hres).2
      have h2 := (Prod.mk.inj hres).1
      replace hres := (Prod.mk.inj hres).2
      have h3 := (Prod.mk.inj hres).1
      replace hres := (Prod.mk.inj hres).2
      have h4 := (Prod.mk.inj hres).1
      replace hres := (Prod.mk.inj hres).2
      have h5 := (Prod.mk.inj hres).1
      replace hres := (Prod.mk.inj hres).2
      have h6 := (Prod.mk.inj hres).1
      replace hres := (Prod.mk.inj hres).2
      have h7 := (Prod.mk.inj hres).1
      replace hres := (Prod.mk.inj hres).2
      have h8 := (Prod.mk.inj hres).1
      replace hres := (Prod.mk.inj hres).2
      have h9 := (Prod.mk.inj hres).1
      replace hres := (Prod.mk.inj hres).2
      have h10 := (Prod.mk.inj hres).1
      replace hres := (Prod.mk.inj hres).2
      have h11 := (Prod.mk.inj hres).1
      replace hres := (Prod.mk.inj hres).2
      have h12 := (Prod.mk.inj hres).1
      replace hres := (Prod.mk.inj hres).2
      have h13 := (Prod.mk.inj hres).1
      replace hres := (Prod.mk.inj hres).2
      have h14 := hres
      subst h0
      subst h1
      subst h2
      subst h3
      subst h4
      subst h5
      subst h6
      subst h7
      subst h8
      subst h9
      subst h10
      subst h11
      subst h12
      subst h13
      subst h14
      exact hret _ _ _ _ (hP.sub [5, 6, 0, 1, 2, 3, 4] rfl) (hD.sub [5, 6, 0, 1, 2, 3, 4] (by decide) rfl) hS dX7_readClause_27

def pX7_readInto_L65 (w_tx_at : Int32) (w_tx_fault : Int32) (w_tx_place : Int32) (w_tl_stands : Int32) (w_tl_price : Int32) (w_tl_death : Int32) (w_tl_payers : Int32) (w_tl_bids : Int32) (w_tl_hostages : Int32) (w_tl_bags : Int32) (w_tl_bagMarks : Int32) (w_tl_goods : Nat → Int32) (w_tl_shy : Nat → Int32) (w_tl_bidOf : Nat → Int32) (w_tl_daysOf : Nat → Int32) : Option (Int32 × Int32 × Int32 × Int32 × Int32 × Int32 × Int32 × Int32 × Int32 × Int32 × Int32 × Int32 × (Nat → Int32) × (Nat → Int32) × (Nat → Int32) × (Nat → Int32)) :=
    some (0, w_tx_at, w_tx_fault, w_tx_place, w_tl_stands, w_tl_price, w_tl_death, w_tl_payers, w_tl_bids, w_tl_hostages, w_tl_bags, w_tl_bagMarks, w_tl_goods, w_tl_shy, w_tl_bidOf, w_tl_daysOf)
def pX7_readInto_L25 (N : Nat) (tx_signs : Nat → Int32) (tx_length : Int32) : Nat → Int32 → Int32 → Int32 → Int32 → Int32 → Int32 → Int32 → Int32 → Int32 → Int32 → Int32 → Int32 → (Nat → Int32) → (Nat → Int32) → (Nat → Int32) → (Nat → Int32) → Option (Int32 × Int32 × Int32 × Int32 × Int32 × Int32 × Int32 × Int32 × Int32 × Int32 × Int32 × Int32 × (Nat → Int32) × (Nat → Int32) × (Nat → Int32) × (Nat → Int32))
  | 0, _, _, _, _, _, _, _, _, _, _, _, _, _, _, _, _ => none
  | n25 + 1, v2, w_tx_at, w_tx_fault, w_tx_place, w_tl_stands, w_tl_price, w_tl_death, w_tl_payers, w_tl_bids, w_tl_hostages, w_tl_bags, w_tl_bagMarks, w_tl_goods, w_tl_shy, w_tl_bidOf, w_tl_daysOf =>
    (if 240 ≤ v2 then
    pX7_readInto_L65 w_tx_at w_tx_fault w_tx_place w_tl_stands w_tl_price w_tl_death w_tl_payers w_tl_bids w_tl_hostages w_tl_bags w_tl_bagMarks w_tl_goods w_tl_shy w_tl_bidOf w_tl_daysOf
    else
    (if tx_length ≤ w_tx_at then
    pX7_readInto_L65 w_tx_at w_tx_fault w_tx_place w_tl_stands w_tl_price w_tl_death w_tl_payers w_tl_bids w_tl_hostages w_tl_bags w_tl_bagMarks w_tl_goods w_tl_shy w_tl_bidOf w_tl_daysOf
    else
    (if w_tx_fault = 0 then
    kb15 (pX7_readClause N tx_signs tx_length w_tx_at w_tx_fault w_tx_place w_tl_stands w_tl_price w_tl_death w_tl_payers w_tl_bids w_tl_hostages w_tl_bags w_tl_bagMarks w_tl_goods w_tl_shy w_tl_bidOf w_tl_daysOf) fun w15 w16 w17 w18 w19 w20 w21 w22 w23 w24 w25 w26 w27 w28 w29 =>
    kb1 (pX7_skipBlanks N tx_signs tx_length w15) fun w31 =>
    pX7_readInto_L25 N tx_signs tx_length n25 (v2 + 1) w31 w16 w17 w18 w19 w20 w21 w22 w23 w24 w25 w26 w27 w28 w29
    else
    pX7_readInto_L65 w_tx_at w_tx_fault w_tx_place w_tl_stands w_tl_price w_tl_death w_tl_payers w_tl_bids w_tl_hostages w_tl_bags w_tl_bagMarks w_tl_goods w_tl_shy w_tl_bidOf w_tl_daysOf)))
def pX7_readInto (N : Nat) (tx_signs : Nat → Int32) (tx_length : Int32) (tl_goods : Nat → Int32) (tl_shy : Nat → Int32) (tl_bidOf : Nat → Int32) (tl_daysOf : Nat → Int32) : Option (Int32 × Int32 × Int32 × Int32 × Int32 × Int32 × Int32 × Int32 × Int32 × Int32 × Int32 × Int32 × (Nat → Int32) × (Nat → Int32) × (Nat → Int32) × (Nat → Int32)) :=
    kb8 (pX6_clear) fun w1 w2 w3 w4 w5 w6 w7 w8 =>
    kb1 (pX7_skipBlanks N tx_signs tx_length 0) fun w10 =>
    pX7_readInto_L25 N tx_signs tx_length N 0 w10 0 (-1) w1 w2 w3 w4 w5 w6 w7 w8 tl_goods tl_shy tl_bidOf tl_daysOf
set_option maxHeartbeats 8000000 in
set_option maxRecDepth 100000 in
theorem tX7_readInto (l : Launch) (D : va_G) (κ : Nat → ClassId) (txo : Nat) (tx_signsA : Nat) (tlo : Nat) (tl_goodsA : Nat) (tl_shyA : Nat) (tl_bidOfA : Nat) (tl_daysOfA : Nat) (N : Nat) (tx_signs : Nat → Int32) (tx_length : Int32) (tx_at : Int32) (tx_fault : Int32) (tx_place : Int32) (tl_stands : Int32) (tl_price : Int32) (tl_death : Int32) (tl_payers : Int32) (tl_bids : Int32) (tl_hostages : Int32) (tl_bags : Int32) (tl_bagMarks : Int32) (tl_goods : Nat → Int32) (tl_shy : Nat → Int32) (tl_bidOf : Nat → Int32) (tl_daysOf : Nat → Int32) (z_tx_length : Int32) (z_tx_at : Int32) (z_tx_fault : Int32) (z_tx_place : Int32) (z_tl_stands : Int32) (z_tl_price : Int32) (z_tl_death : Int32) (z_tl_payers : Int32) (z_tl_bids : Int32) (z_tl_hostages : Int32) (z_tl_bags : Int32) (z_tl_bagMarks : Int32) (z_tl_goods : Nat → Int32) (z_tl_shy : Nat → Int32) (z_tl_bidOf : Nat → Int32) (z_tl_daysOf : Nat → Int32) (hres : pX7_readInto N tx_signs tx_length tl_goods tl_shy tl_bidOf tl_daysOf = some (z_tx_length, z_tx_at, z_tx_fault, z_tx_place, z_tl_stands, z_tl_price, z_tl_death, z_tl_payers, z_tl_bids, z_tl_hostages, z_tl_bags, z_tl_bagMarks, z_tl_goods, z_tl_shy, z_tl_bidOf, z_tl_daysOf)) : krV l yX7_readInto wsX7_readInto { frames := 6, cells := 0, slots := 0, locals := 600 } D κ [.ref txo, .ref tlo] ([(txo, .inr (7, [.ref tx_signsA, .int tx_length, .int tx_at, .int tx_fault, .int tx_place])), (tx_signsA, .inl (κ 0, 240, .inl tx_signs)), (tlo, .inr (6, [.int tl_stands, .int tl_price, .int tl_death, .int tl_payers, .int tl_bids, .int tl_hostages, .int tl_bags, .int tl_bagMarks, .ref tl_goodsA, .ref tl_shyA, .ref tl_bidOfA, .ref tl_daysOfA])), (tl_goodsA, .inl (κ 0, 6, .inl tl_goods)), (tl_shyA, .inl (κ 0, 6, .inl tl_shy)), (tl_bidOfA, .inl (κ 0, 9, .inl tl_bidOf)), (tl_daysOfA, .inl (κ 0, 6, .inl tl_daysOf))]) ([(txo, .inr (7, [.ref tx_signsA, .int z_tx_length, .int z_tx_at, .int z_tx_fault, .int z_tx_place])), (tx_signsA, .inl (κ 0, 240, .inl tx_signs)), (tlo, .inr (6, [.int z_tl_stands, .int z_tl_price, .int z_tl_death, .int z_tl_payers, .int z_tl_bids, .int z_tl_hostages, .int z_tl_bags, .int z_tl_bagMarks, .ref tl_goodsA, .ref tl_shyA, .ref tl_bidOfA, .ref tl_daysOfA])), (tl_goodsA, .inl (κ 0, 6, .inl z_tl_goods)), (tl_shyA, .inl (κ 0, 6, .inl z_tl_shy)), (tl_bidOfA, .inl (κ 0, 9, .inl z_tl_bidOf)), (tl_daysOfA, .inl (κ 0, 6, .inl z_tl_daysOf))]) := by
  refine krV_of (cc := cX7_readInto) (maxL := 3) (by decide) rfl (Nat.le_of_ble_eq_true rfl) ?_
  intro p e s m args below meth c A Q ls hx hb hml hown hts hK hA hret hP hD hS hl
  have hown : s.vm.findClass RX7 = some m.cls := hown
  have hl : lv_has ls 3 [(0, .ref txo), (1, .ref tlo)] := hl
  have iw7 : ∀ w ∈ u_ws RX7 TX7 5, w ∈ wsX7_readInto := (fun _ h => List.mem_cons_of_mem _ (List.mem_append_left _ (List.mem_append_right _ h)))
  have k0 : (Cond.initialized RX6).before args s = true := hts _ (List.mem_of_getElem? (i := 6) rfl)
  have k1 : (Cond.instanceMethod yX6_clear).before args s = true := hts _ (List.mem_of_getElem? (i := 5) rfl)
  have k2 : (Cond.selects RX6 yX6_clear yX6_clear).before args s = true := hts _ (List.mem_of_getElem? (i := 7) rfl)
  have k3 : (Cond.fieldLink RX7 27 "KingRansom$Text" "at" "I").before args s = true := hts _ (List.mem_of_getElem? (i := 1) rfl)
  have k4 : (Cond.fieldLink RX7 30 "KingRansom$Text" "fault" "I").before args s = true := hts _ (List.mem_of_getElem? (i := 2) rfl)
  have k5 : (Cond.fieldLink RX7 15 "KingRansom$Text" "place" "I").before args s = true := hts _ (List.mem_of_getElem? (i := 3) rfl)
  have k6 : (Cond.fieldLink RX7 19 "KingRansom$Text" "length" "I").before args s = true := hts _ (List.mem_of_getElem? (i := 4) rfl)
  have L65 : ∀ (w_tx_at : Int32) (w_tx_fault : Int32) (w_tx_place : Int32) (w_tl_stands : Int32) (w_tl_price : Int32) (w_tl_death : Int32) (w_tl_payers : Int32) (w_tl_bids : Int32) (w_tl_hostages : Int32) (w_tl_bags : Int32) (w_tl_bagMarks : Int32) (w_tl_goods : Nat → Int32) (w_tl_shy : Nat → Int32) (w_tl_bidOf : Nat → Int32) (w_tl_daysOf : Nat → Int32) (H : Heap) (locs : List Loc) (ls : Array Slot), va_P D vwCl ([(txo, .inr (7, [.ref tx_signsA, .int tx_length, .int w_tx_at, .int w_tx_fault, .int w_tx_place])), (tx_signsA, .inl (κ 0, 240, .inl tx_signs)), (tlo, .inr (6, [.int w_tl_stands, .int w_tl_price, .int w_tl_death, .int w_tl_payers, .int w_tl_bids, .int w_tl_hostages, .int w_tl_bags, .int w_tl_bagMarks, .ref tl_goodsA, .ref tl_shyA, .ref tl_bidOfA, .ref tl_daysOfA])), (tl_goodsA, .inl (κ 0, 6, .inl w_tl_goods)), (tl_shyA, .inl (κ 0, 6, .inl w_tl_shy)), (tl_bidOfA, .inl (κ 0, 9, .inl w_tl_bidOf)), (tl_daysOfA, .inl (κ 0, 6, .inl w_tl_daysOf))]) H → va_D A ([(txo, .inr (7, [.ref tx_signsA, .int tx_length, .int w_tx_at, .int w_tx_fault, .int w_tx_place])), (tx_signsA, .inl (κ 0, 240, .inl tx_signs)), (tlo, .inr (6, [.int w_tl_stands, .int w_tl_price, .int w_tl_death, .int w_tl_payers, .int w_tl_bids, .int w_tl_hostages, .int w_tl_bags, .int w_tl_bagMarks, .ref tl_goodsA, .ref tl_shyA, .ref tl_bidOfA, .ref tl_daysOfA])), (tl_goodsA, .inl (κ 0, 6, .inl w_tl_goods)), (tl_shyA, .inl (κ 0, 6, .inl w_tl_shy)), (tl_bidOfA, .inl (κ 0, 9, .inl w_tl_bidOf)), (tl_daysOfA, .inl (κ 0, 6, .inl w_tl_daysOf))]) → va_S A s.heap H locs → lv_has ls 3 [(0, .ref txo)] → pX7_readInto_L65 w_tx_at w_tx_fault w_tx_place w_tl_stands w_tl_price w_tl_death w_tl_payers w_tl_bids w_tl_hostages w_tl_bags w_tl_bagMarks w_tl_goods w_tl_shy w_tl_bidOf w_tl_daysOf = some (z_tx_length, z_tx_at, z_tx_fault, z_tx_place, z_tl_stands, z_tl_price, z_tl_death, z_tl_payers, z_tl_bids, z_tl_hostages, z_tl_bags, z_tl_bagMarks, z_tl_goods, z_tl_shy, z_tl_bidOf, z_tl_daysOf) → W p l e { frames := 6, cells := 0, slots := 0, locals := 600 } s m args below meth c H locs 0 0 Q (F0 m 65 ls []) := by
    intro w_tx_at w_tx_fault w_tx_place w_tl_stands w_tl_price w_tl_death w_tl_payers w_tl_bids w_tl_hostages w_tl_bags w_tl_bagMarks w_tl_goods w_tl_shy w_tl_bidOf w_tl_daysOf H locs ls hP hD hS hl hres
    unfold pX7_readInto_L65 at hres
    refine lv_aload_n hx hb dX7_readInto_65 rfl (lv_at hl 0 rfl) ?_
    refine lv_iconst (v := 0) hx hb dX7_readInto_66 (by decide) ?_
    refine va_put (D := D) (ci := 7) (v := .int 0) (ty := .int) (C := RX7) (T := TX7) (N := 5) hx hb hts iw7 tyX7 tyX7_ok nmX7 hown hK.1 hP hD hS 0 rfl rfl 1 (by decide) k6 (fun _ h9 => h9) rfl (tyX7_ok 1 (by decide)) rfl rfl (Nat.le_of_ble_eq_true rfl) dX7_readInto_67 (fun H locs hP hD hS => ?_)
    have hP : va_P D vwCl ([(txo, .inr (7, [.ref tx_signsA, .int 0, .int w_tx_at, .int w_tx_fault, .int w_tx_place])), (tx_signsA, .inl (κ 0, 240, .inl tx_signs)), (tlo, .inr (6, [.int w_tl_stands, .int w_tl_price, .int w_tl_death, .int w_tl_payers, .int w_tl_bids, .int w_tl_hostages, .int w_tl_bags, .int w_tl_bagMarks, .ref tl_goodsA, .ref tl_shyA, .ref tl_bidOfA, .ref tl_daysOfA])), (tl_goodsA, .inl (κ 0, 6, .inl w_tl_goods)), (tl_shyA, .inl (κ 0, 6, .inl w_tl_shy)), (tl_bidOfA, .inl (κ 0, 9, .inl w_tl_bidOf)), (tl_daysOfA, .inl (κ 0, 6, .inl w_tl_daysOf))]) H := hP
    have hD : va_D A ([(txo, .inr (7, [.ref tx_signsA, .int 0, .int w_tx_at, .int w_tx_fault, .int w_tx_place])), (tx_signsA, .inl (κ 0, 240, .inl tx_signs)), (tlo, .inr (6, [.int w_tl_stands, .int w_tl_price, .int w_tl_death, .int w_tl_payers, .int w_tl_bids, .int w_tl_hostages, .int w_tl_bags, .int w_tl_bagMarks, .ref tl_goodsA, .ref tl_shyA, .ref tl_bidOfA, .ref tl_daysOfA])), (tl_goodsA, .inl (κ 0, 6, .inl w_tl_goods)), (tl_shyA, .inl (κ 0, 6, .inl w_tl_shy)), (tl_bidOfA, .inl (κ 0, 9, .inl w_tl_bidOf)), (tl_daysOfA, .inl (κ 0, 6, .inl w_tl_daysOf))]) := hD
    have hres := Option.some.inj hres
    have h0 := (Prod.mk.inj hres).1
    replace hres := (Prod.mk.inj hres).2
    have h1 := (Prod.mk.inj hres).1
    replace hres := (Prod.mk.inj hres).2
    have h2 := (Prod.mk.inj hres).1
    replace hres := (Prod.mk.inj hres).2
    have h3 := (Prod.mk.inj hres).1
    replace hres := (Prod.mk.inj hres).2
    have h4 := (Prod.mk.inj hres).1
    replace hres := (Prod.mk.inj hres).2
    have h5 := (Prod.mk.inj hres).1
    replace hres := (Prod.mk.inj hres).2
    have h6 := (Prod.mk.inj hres).1
    replace hres := (Prod.mk.inj hres).2
    have h7 := (Prod.mk.inj hres).1
    replace hres := (Prod.mk.inj hres).2
    have h8 := (Prod.mk.inj hres).1
    replace hres := (Prod.mk.inj hres).2
    have h9 := (Prod.mk.inj hres).1
    replace hres := (Prod.mk.inj hres).2
    have h10 := (Prod.mk.inj hres).1
    replace hres := (Prod.mk.inj hres).2
    have h11 := (Prod.mk.inj hres).1
    replace hres := (Prod.mk.inj hres).2
    have h12 := (Prod.mk.inj hres).1
    replace hres := (Prod.mk.inj hres).2
    have h13 := (Prod.mk.inj hres).1
    replace hres := (Prod.mk.inj hres).2
    have h14 := (Prod.mk.inj hres).1
    replace hres := (Prod.mk.inj hres).2
    have h15 := hres
    subst h0
    subst h1
    subst h2
    subst h3
    subst h4
    subst h5
    subst h6
    subst h7
    subst h8
    subst h9
    subst h10
    subst h11
    subst h12
    subst h13
    subst h14
    subst h15
    exact hret _ _ _ _ hP hD hS dX7_readInto_70
  have L25 : ∀ (n25 : Nat) (v2 : Int32) (w_tx_at : Int32) (w_tx_fault : Int32) (w_tx_place : Int32) (w_tl_stands : Int32) (w_tl_price : Int32) (w_tl_death : Int32) (w_tl_payers : Int32) (w_tl_bids : Int32) (w_tl_hostages : Int32) (w_tl_bags : Int32) (w_tl_bagMarks : Int32) (w_tl_goods : Nat → Int32) (w_tl_shy : Nat → Int32) (w_tl_bidOf : Nat → Int32) (w_tl_daysOf : Nat → Int32) (H : Heap) (locs : List Loc) (ls : Array Slot), va_P D vwCl ([(txo, .inr (7, [.ref tx_signsA, .int tx_length, .int w_tx_at, .int w_tx_fault, .int w_tx_place])), (tx_signsA, .inl (κ 0, 240, .inl tx_signs)), (tlo, .inr (6, [.int w_tl_stands, .int w_tl_price, .int w_tl_death, .int w_tl_payers, .int w_tl_bids, .int w_tl_hostages, .int w_tl_bags, .int w_tl_bagMarks, .ref tl_goodsA, .ref tl_shyA, .ref tl_bidOfA, .ref tl_daysOfA])), (tl_goodsA, .inl (κ 0, 6, .inl w_tl_goods)), (tl_shyA, .inl (κ 0, 6, .inl w_tl_shy)), (tl_bidOfA, .inl (κ 0, 9, .inl w_tl_bidOf)), (tl_daysOfA, .inl (κ 0, 6, .inl w_tl_daysOf))]) H → va_D A ([(txo, .inr (7, [.ref tx_signsA, .int tx_length, .int w_tx_at, .int w_tx_fault, .int w_tx_place])), (tx_signsA, .inl (κ 0, 240, .inl tx_signs)), (tlo, .inr (6, [.int w_tl_stands, .int w_tl_price, .int w_tl_death, .int w_tl_payers, .int w_tl_bids, .int w_tl_hostages, .int w_tl_bags, .int w_tl_bagMarks, .ref tl_goodsA, .ref tl_shyA, .ref tl_bidOfA, .ref tl_daysOfA])), (tl_goodsA, .inl (κ 0, 6, .inl w_tl_goods)), (tl_shyA, .inl (κ 0, 6, .inl w_tl_shy)), (tl_bidOfA, .inl (κ 0, 9, .inl w_tl_bidOf)), (tl_daysOfA, .inl (κ 0, 6, .inl w_tl_daysOf))]) → va_S A s.heap H locs → lv_has ls 3 [(0, .ref txo), (1, .ref tlo), (2, .int v2)] → pX7_readInto_L25 N tx_signs tx_length n25 v2 w_tx_at w_tx_fault w_tx_place w_tl_stands w_tl_price w_tl_death w_tl_payers w_tl_bids w_tl_hostages w_tl_bags w_tl_bagMarks w_tl_goods w_tl_shy w_tl_bidOf w_tl_daysOf = some (z_tx_length, z_tx_at, z_tx_fault, z_tx_place, z_tl_stands, z_tl_price, z_tl_death, z_tl_payers, z_tl_bids, z_tl_hostages, z_tl_bags, z_tl_bagMarks, z_tl_goods, z_tl_shy, z_tl_bidOf, z_tl_daysOf) → W p l e { frames := 6, cells := 0, slots := 0, locals := 600 } s m args below meth c H locs 0 0 Q (F0 m 25 ls []) := by
    intro n25
    induction n25 with
    | zero =>
      intro v2 w_tx_at w_tx_fault w_tx_place w_tl_stands w_tl_price w_tl_death w_tl_payers w_tl_bids w_tl_hostages w_tl_bags w_tl_bagMarks w_tl_goods w_tl_shy w_tl_bidOf w_tl_daysOf H locs ls hP hD hS hl hres
      exact absurd (show none = some _ from hres) (by simp)
    | succ n25 ih25 =>
      intro v2 w_tx_at w_tx_fault w_tx_place w_tl_stands w_tl_price w_tl_death w_tl_payers w_tl_bids w_tl_hostages w_tl_bags w_tl_bagMarks w_tl_goods w_tl_shy w_tl_bidOf w_tl_daysOf H locs ls hP hD hS hl hres
      rw [pX7_readInto_L25] at hres
      refine lv_iload_n hx hb dX7_readInto_25 rfl (lv_at hl 2 rfl) ?_
      refine lv_sipush (v := 240) hx hb dX7_readInto_26 (by decide) ?_
      refine lv_icmp_ge (tgt := 65) hx hb dX7_readInto_29 (by decide) (fun c12 => ?_) (fun c12 => ?_)
      · replace hres := og_t c12 hres
        exact L65 w_tx_at w_tx_fault w_tx_place w_tl_stands w_tl_price w_tl_death w_tl_payers w_tl_bids w_tl_hostages w_tl_bags w_tl_bagMarks w_tl_goods w_tl_shy w_tl_bidOf w_tl_daysOf _ _ _ hP hD hS (lv_sub hl [0] rfl) hres
      · replace hres := og_f c12 hres
        refine lv_aload_n hx hb dX7_readInto_32 rfl (lv_at hl 0 rfl) ?_
        refine va_get (D := D) (ci := 7) (v := .int w_tx_at) (C := RX7) (T := TX7) (N := 5) hx hb hts iw7 hown hK.1 hP 0 rfl rfl 2 (by decide) k3 (fun _ h9 => h9) rfl dX7_readInto_33 ?_
        refine lv_aload_n hx hb dX7_readInto_36 rfl (lv_at hl 0 rfl) ?_
        refine va_get (D := D) (ci := 7) (v := .int tx_length) (C := RX7) (T := TX7) (N := 5) hx hb hts iw7 hown hK.1 hP 0 rfl rfl 1 (by decide) k6 (fun _ h9 => h9) rfl dX7_readInto_37 ?_
        refine lv_icmp_ge (tgt := 65) hx hb dX7_readInto_40 (by decide) (fun c13 => ?_) (fun c13 => ?_)
        · replace hres := og_t c13 hres
          exact L65 w_tx_at w_tx_fault w_tx_place w_tl_stands w_tl_price w_tl_death w_tl_payers w_tl_bids w_tl_hostages w_tl_bags w_tl_bagMarks w_tl_goods w_tl_shy w_tl_bidOf w_tl_daysOf _ _ _ hP hD hS (lv_sub hl [0] rfl) hres
        · replace hres := og_f c13 hres
          refine lv_aload_n hx hb dX7_readInto_43 rfl (lv_at hl 0 rfl) ?_
          refine va_get (D := D) (ci := 7) (v := .int w_tx_fault) (C := RX7) (T := TX7) (N := 5) hx hb hts iw7 hown hK.1 hP 0 rfl rfl 3 (by decide) k4 (fun _ h9 => h9) rfl dX7_readInto_44 ?_
          refine lv_if_ne (tgt := 65) hx hb dX7_readInto_47 (by decide) (fun c14 => ?_) (fun c14 => ?_)
          · replace hres := og_f c14 hres
            exact L65 w_tx_at w_tx_fault w_tx_place w_tl_stands w_tl_price w_tl_death w_tl_payers w_tl_bids w_tl_hostages w_tl_bags w_tl_bagMarks w_tl_goods w_tl_shy w_tl_bidOf w_tl_daysOf _ _ _ hP hD hS (lv_sub hl [0] rfl) hres
          · replace hres := og_t c14 hres
            refine lv_aload_n hx hb dX7_readInto_50 rfl (lv_at hl 0 rfl) ?_
            refine lv_aload_n hx hb dX7_readInto_51 rfl (lv_at hl 1 rfl) ?_
            obtain ⟨w15, w16, w17, w18, w19, w20, w21, w22, w23, w24, w25, w26, w27, w28, w29, hc30, hres⟩ := kb15_s hres
            refine krV_V (As := [.ref tlo]) (rest := []) (wr := []) ⟨hx, hb, hml, hown, hts⟩ hK (tX7_readClause l D κ txo tx_signsA tlo tl_goodsA tl_shyA tl_bidOfA tl_daysOfA N tx_signs tx_length w_tx_at w_tx_fault w_tx_place w_tl_stands w_tl_price w_tl_death w_tl_payers w_tl_bids w_tl_hostages w_tl_bags w_tl_bagMarks w_tl_goods w_tl_shy w_tl_bidOf w_tl_daysOf w15 w16 w17 w18 w19 w20 w21 w22 w23 w24 w25 w26 w27 w28 w29 hc30) (cwV 1 hts gX7_readInto_X7_readClause rfl rfl rfl (by decide +kernel) ⟨(Nat.le_of_ble_eq_true rfl), (Nat.le_of_ble_eq_true rfl)⟩) rfl rfl rfl hP hD hS hA [0, 1, 2, 3, 4, 5, 6] [] rfl rfl rfl rfl (by decide) rfl hl.1 rfl (Nat.le_of_ble_eq_true rfl) dX7_readInto_52 ⟨Nat.zero_le _, Nat.zero_le _⟩ (fun H locs hP hD hS => ?_)
            have hP : va_P D vwCl ([(txo, .inr (7, [.ref tx_signsA, .int tx_length, .int w15, .int w16, .int w17])), (tx_signsA, .inl (κ 0, 240, .inl tx_signs)), (tlo, .inr (6, [.int w18, .int w19, .int w20, .int w21, .int w22, .int w23, .int w24, .int w25, .ref tl_goodsA, .ref tl_shyA, .ref tl_bidOfA, .ref tl_daysOfA])), (tl_goodsA, .inl (κ 0, 6, .inl w26)), (tl_shyA, .inl (κ 0, 6, .inl w27)), (tl_bidOfA, .inl (κ 0, 9, .inl w28)), (tl_daysOfA, .inl (κ 0, 6, .inl w29))]) H := hP
            have hD : va_D A ([(txo, .inr (7, [.ref tx_signsA, .int tx_length, .int w15, .int w16, .int w17])), (tx_signsA, .inl (κ 0, 240, .inl tx_signs)), (tlo, .inr (6, [.int w18, .int w19, .int w20, .int w21, .int w22, .int w23, .int w24, .int w25, .ref tl_goodsA, .ref tl_shyA, .ref tl_bidOfA, .ref tl_daysOfA])), (tl_goodsA, .inl (κ 0, 6, .inl w26)), (tl_shyA, .inl (κ 0, 6, .inl w27)), (tl_bidOfA, .inl (κ 0, 9, .inl w28)), (tl_daysOfA, .inl (κ 0, 6, .inl w29))]) := hD
            refine lv_aload_n hx hb dX7_readInto_55 rfl (lv_at hl 0 rfl) ?_
            obtain ⟨w31, hc32, hres⟩ := kb1_s hres
            refine krV_V (As := []) (rest := []) (wr := [(tlo, .inr (6, [.int w18, .int w19, .int w20, .int w21, .int w22, .int w23, .int w24, .int w25, .ref tl_goodsA, .ref tl_shyA, .ref tl_bidOfA, .ref tl_daysOfA])), (tl_goodsA, .inl (κ 0, 6, .inl w26)), (tl_shyA, .inl (κ 0, 6, .inl w27)), (tl_bidOfA, .inl (κ 0, 9, .inl w28)), (tl_daysOfA, .inl (κ 0, 6, .inl w29))]) ⟨hx, hb, hml, hown, hts⟩ hK (tX7_skipBlanks l D κ txo tx_signsA N tx_signs tx_length w15 w16 w17 w31 hc32) (cwV 0 hts gX7_readInto_X7_skipBlanks rfl rfl rfl (by decide +kernel) ⟨(Nat.le_of_ble_eq_true rfl), (Nat.le_of_ble_eq_true rfl)⟩) rfl rfl rfl hP hD hS hA [0, 1] [2, 3, 4, 5, 6] rfl rfl rfl rfl (by decide) rfl hl.1 rfl (Nat.le_of_ble_eq_true rfl) dX7_readInto_56 ⟨Nat.zero_le _, Nat.zero_le _⟩ (fun H locs hP hD hS => ?_)
            have hP : va_P D vwCl ([(tlo, .inr (6, [.int w18, .int w19, .int w20, .int w21, .int w22, .int w23, .int w24, .int w25, .ref tl_goodsA, .ref tl_shyA, .ref tl_bidOfA, .ref tl_daysOfA])), (tl_goodsA, .inl (κ 0, 6, .inl w26)), (tl_shyA, .inl (κ 0, 6, .inl w27)), (tl_bidOfA, .inl (κ 0, 9, .inl w28)), (tl_daysOfA, .inl (κ 0, 6, .inl w29)), (txo, .inr (7, [.ref tx_signsA, .int tx_length, .int w31, .int w16, .int w17])), (tx_signsA, .inl (κ 0, 240, .inl tx_signs))]) H := hP
            have hD : va_D A ([(tlo, .inr (6, [.int w18, .int w19, .int w20, .int w21, .int w22, .int w23, .int w24, .int w25, .ref tl_goodsA, .ref tl_shyA, .ref tl_bidOfA, .ref tl_daysOfA])), (tl_goodsA, .inl (κ 0, 6, .inl w26)), (tl_shyA, .inl (κ 0, 6, .inl w27)), (tl_bidOfA, .inl (κ 0, 9, .inl w28)), (tl_daysOfA, .inl (κ 0, 6, .inl w29)), (txo, .inr (7, [.ref tx_signsA, .int tx_length, .int w31, .int w16, .int w17])), (tx_signsA, .inl (κ 0, 240, .inl tx_signs))]) := hD
            refine lv_iinc (v := (v2 + 1)) (lv' := [(2, .int (v2 + 1)), (0, .ref txo), (1, .ref tlo)]) hx hb dX7_readInto_59 hl (k := 2) rfl rfl (by decide) rfl (fun ls hl => ?_)
            refine lv_goto (tgt := 25) hx hb dX7_readInto_62 (by decide) ?_
            exact ih25 (v2 + 1) w31 w16 w17 w18 w19 w20 w21 w22 w23 w24 w25 w26 w27 w28 w29 _ _ _ (hP.sub [5, 6, 0, 1, 2, 3, 4] rfl) (hD.sub [5, 6, 0, 1, 2, 3, 4] (by decide) rfl) hS (lv_sub hl [1, 2, 0] rfl) hres
  unfold pX7_readInto at hres
  refine lv_aload_n hx hb dX7_readInto_0 rfl (lv_at hl 1 rfl) ?_
  obtain ⟨w1, w2, w3, w4, w5, w6, w7, w8, hc9, hres⟩ := kb8_s hres
  refine krV_VN (As := []) (rest := []) (wr := [(txo, .inr (7, [.ref tx_signsA, .int tx_length, .int tx_at, .int tx_fault, .int tx_place])), (tx_signsA, .inl (κ 0, 240, .inl tx_signs))]) ⟨hx, hb, hml, hown, hts⟩ hK (tX6_clear l D κ tlo tl_goodsA tl_shyA tl_bidOfA tl_daysOfA tl_stands tl_price tl_death tl_payers tl_bids tl_hostages tl_bags tl_bagMarks tl_goods tl_shy tl_bidOf tl_daysOf w1 w2 w3 w4 w5 w6 w7 w8 hc9) ⟨va_cnB 0 hts gX7_readInto_X6_clear_n22 rfl rfl rfl (hK.ml 12 rfl) k0 (by decide +kernel) ⟨(Nat.le_of_ble_eq_true rfl), (Nat.le_of_ble_eq_true rfl)⟩, k1, k2⟩ rfl rfl rfl hP hD hS hA [2, 3, 4, 5, 6] [0, 1] rfl rfl rfl rfl (by decide) rfl hl.1 rfl (Nat.le_of_ble_eq_true rfl) dX7_readInto_1 ⟨Nat.zero_le _, Nat.zero_le _⟩ (fun H locs hP hD hS => ?_)
  have hP : va_P D vwCl ([(txo, .inr (7, [.ref tx_signsA, .int tx_length, .int tx_at, .int tx_fault, .int tx_place])), (tx_signsA, .inl (κ 0, 240, .inl tx_signs)), (tlo, .inr (6, [.int w1, .int w2, .int w3, .int w4, .int w5, .int w6, .int w7, .int w8, .ref tl_goodsA, .ref tl_shyA, .ref tl_bidOfA, .ref tl_daysOfA])), (tl_goodsA, .inl (κ 0, 6, .inl tl_goods)), (tl_shyA, .inl (κ 0, 6, .inl tl_shy)), (tl_bidOfA, .inl (κ 0, 9, .inl tl_bidOf)), (tl_daysOfA, .inl (κ 0, 6, .inl tl_daysOf))]) H := hP
  have hD : va_D A ([(txo, .inr (7, [.ref tx_signsA, .int tx_length, .int tx_at, .int tx_fault, .int tx_place])), (tx_signsA, .inl (κ 0, 240, .inl tx_signs)), (tlo, .inr (6, [.int w1, .int w2, .int w3, .int w4, .int w5, .int w6, .int w7, .int w8, .ref tl_goodsA, .ref tl_shyA, .ref tl_bidOfA, .ref tl_daysOfA])), (tl_goodsA, .inl (κ 0, 6, .inl tl_goods)), (tl_shyA, .inl (κ 0, 6, .inl tl_shy)), (tl_bidOfA, .inl (κ 0, 9, .inl tl_bidOf)), (tl_daysOfA, .inl (κ 0, 6, .inl tl_daysOf))]) := hD
  refine lv_aload_n hx hb dX7_readInto_4 rfl (lv_at hl 0 rfl) ?_
  refine lv_iconst (v := 0) hx hb dX7_readInto_5 (by decide) ?_
  refine va_put (D := D) (ci := 7) (v := .int 0) (ty := .int) (C := RX7) (T := TX7) (N := 5) hx hb hts iw7 tyX7 tyX7_ok nmX7 hown hK.1 hP hD hS 0 rfl rfl 2 (by decide) k3 (fun _ h9 => h9) rfl (tyX7_ok 2 (by decide)) rfl rfl (Nat.le_of_ble_eq_true rfl) dX7_readInto_6 (fun H locs hP hD hS => ?_)
  have hP : va_P D vwCl ([(txo, .inr (7, [.ref tx_signsA, .int tx_length, .int 0, .int tx_fault, .int tx_place])), (tx_signsA, .inl (κ 0, 240, .inl tx_signs)), (tlo, .inr (6, [.int w1, .int w2, .int w3, .int w4, .int w5, .int w6, .int w7, .int w8, .ref tl_goodsA, .ref tl_shyA, .ref tl_bidOfA, .ref tl_daysOfA])), (tl_goodsA, .inl (κ 0, 6, .inl tl_goods)), (tl_shyA, .inl (κ 0, 6, .inl tl_shy)), (tl_bidOfA, .inl (κ 0, 9, .inl tl_bidOf)), (tl_daysOfA, .inl (κ 0, 6, .inl tl_daysOf))]) H := hP
  have hD : va_D A ([(txo, .inr (7, [.ref tx_signsA, .int tx_length, .int 0, .int tx_fault, .int tx_place])), (tx_signsA, .inl (κ 0, 240, .inl tx_signs)), (tlo, .inr (6, [.int w1, .int w2, .int w3, .int w4, .int w5, .int w6, .int w7, .int w8, .ref tl_goodsA, .ref tl_shyA, .ref tl_bidOfA, .ref tl_daysOfA])), (tl_goodsA, .inl (κ 0, 6, .inl tl_goods)), (tl_shyA, .inl (κ 0, 6, .inl tl_shy)), (tl_bidOfA, .inl (κ 0, 9, .inl tl_bidOf)), (tl_daysOfA, .inl (κ 0, 6, .inl tl_daysOf))]) := hD
  refine lv_aload_n hx hb dX7_readInto_9 rfl (lv_at hl 0 rfl) ?_
  refine lv_iconst (v := 0) hx hb dX7_readInto_10 (by decide) ?_
  refine va_put (D := D) (ci := 7) (v := .int 0) (ty := .int) (C := RX7) (T := TX7) (N := 5) hx hb hts iw7 tyX7 tyX7_ok nmX7 hown hK.1 hP hD hS 0 rfl rfl 3 (by decide) k4 (fun _ h9 => h9) rfl (tyX7_ok 3 (by decide)) rfl rfl (Nat.le_of_ble_eq_true rfl) dX7_readInto_11 (fun H locs hP hD hS => ?_)
  have hP : va_P D vwCl ([(txo, .inr (7, [.ref tx_signsA, .int tx_length, .int 0, .int 0, .int tx_place])), (tx_signsA, .inl (κ 0, 240, .inl tx_signs)), (tlo, .inr (6, [.int w1, .int w2, .int w3, .int w4, .int w5, .int w6, .int w7, .int w8, .ref tl_goodsA, .ref tl_shyA, .ref tl_bidOfA, .ref tl_daysOfA])), (tl_goodsA, .inl (κ 0, 6, .inl tl_goods)), (tl_shyA, .inl (κ 0, 6, .inl tl_shy)), (tl_bidOfA, .inl (κ 0, 9, .inl tl_bidOf)), (tl_daysOfA, .inl (κ 0, 6, .inl tl_daysOf))]) H := hP
  have hD : va_D A ([(txo, .inr (7, [.ref tx_signsA, .int tx_length, .int 0, .int 0, .int tx_place])), (tx_signsA, .inl (κ 0, 240, .inl tx_signs)), (tlo, .inr (6, [.int w1, .int w2, .int w3, .int w4, .int w5, .int w6, .int w7, .int w8, .ref tl_goodsA, .ref tl_shyA, .ref tl_bidOfA, .ref tl_daysOfA])), (tl_goodsA, .inl (κ 0, 6, .inl tl_goods)), (tl_shyA, .inl (κ 0, 6, .inl tl_shy)), (tl_bidOfA, .inl (κ 0, 9, .inl tl_bidOf)), (tl_daysOfA, .inl (κ 0, 6, .inl tl_daysOf))]) := hD
  refine lv_aload_n hx hb dX7_readInto_14 rfl (lv_at hl 0 rfl) ?_
  refine lv_iconst (v := (-1)) hx hb dX7_readInto_15 (by decide) ?_
  refine va_put (D := D) (ci := 7) (v := .int (-1)) (ty := .int) (C := RX7) (T := TX7) (N := 5) hx hb hts iw7 tyX7 tyX7_ok nmX7 hown hK.1 hP hD hS 0 rfl rfl 4 (by decide) k5 (fun _ h9 => h9) rfl (tyX7_ok 4 (by decide)) rfl rfl (Nat.le_of_ble_eq_true rfl) dX7_readInto_16 (fun H locs hP hD hS => ?_)
  have hP : va_P D vwCl ([(txo, .inr (7, [.ref tx_signsA, .int tx_length, .int 0, .int 0, .int (-1)])), (tx_signsA, .inl (κ 0, 240, .inl tx_signs)), (tlo, .inr (6, [.int w1, .int w2, .int w3, .int w4, .int w5, .int w6, .int w7, .int w8, .ref tl_goodsA, .ref tl_shyA, .ref tl_bidOfA, .ref tl_daysOfA])), (tl_goodsA, .inl (κ 0, 6, .inl tl_goods)), (tl_shyA, .inl (κ 0, 6, .inl tl_shy)), (tl_bidOfA, .inl (κ 0, 9, .inl tl_bidOf)), (tl_daysOfA, .inl (κ 0, 6, .inl tl_daysOf))]) H := hP
  have hD : va_D A ([(txo, .inr (7, [.ref tx_signsA, .int tx_length, .int 0, .int 0, .int (-1)])), (tx_signsA, .inl (κ 0, 240, .inl tx_signs)), (tlo, .inr (6, [.int w1, .int w2, .int w3, .int w4, .int w5, .int w6, .int w7, .int w8, .ref tl_goodsA, .ref tl_shyA, .ref tl_bidOfA, .ref tl_daysOfA])), (tl_goodsA, .inl (κ 0, 6, .inl tl_goods)), (tl_shyA, .inl (κ 0, 6, .inl tl_shy)), (tl_bidOfA, .inl (κ 0, 9, .inl tl_bidOf)), (tl_daysOfA, .inl (κ 0, 6, .inl tl_daysOf))]) := hD
  refine lv_aload_n hx hb dX7_readInto_19 rfl (lv_at hl 0 rfl) ?_
  obtain ⟨w10, hc11, hres⟩ := kb1_s hres
  refine krV_V (As := []) (rest := []) (wr := [(tlo, .inr (6, [.int w1, .int w2, .int w3, .int w4, .int w5, .int w6, .int w7, .int w8, .ref tl_goodsA, .ref tl_shyA, .ref tl_bidOfA, .ref tl_daysOfA])), (tl_goodsA, .inl (κ 0, 6, .inl tl_goods)), (tl_shyA, .inl (κ 0, 6, .inl tl_shy)), (tl_bidOfA, .inl (κ 0, 9, .inl tl_bidOf)), (tl_daysOfA, .inl (κ 0, 6, .inl tl_daysOf))]) ⟨hx, hb, hml, hown, hts⟩ hK (tX7_skipBlanks l D κ txo tx_signsA N tx_signs tx_length 0 0 (-1) w10 hc11) (cwV 0 hts gX7_readInto_X7_skipBlanks rfl rfl rfl (by decide +kernel) ⟨(Nat.le_of_ble_eq_true rfl), (Nat.le_of_ble_eq_true rfl)⟩) rfl rfl rfl hP hD hS hA [0, 1] [2, 3, 4, 5, 6] rfl rfl rfl rfl (by decide) rfl hl.1 rfl (Nat.le_of_ble_eq_true rfl) dX7_readInto_20 ⟨Nat.zero_le _, Nat.zero_le _⟩ (fun H locs hP hD hS => ?_)
  have hP : va_P D vwCl ([(tlo, .inr (6, [.int w1, .int w2, .int w3, .int w4, .int w5, .int w6, .int w7, .int w8, .ref tl_goodsA, .ref tl_shyA, .ref tl_bidOfA, .ref tl_daysOfA])), (tl_goodsA, .inl (κ 0, 6, .inl tl_goods)), (tl_shyA, .inl (κ 0, 6, .inl tl_shy)), (tl_bidOfA, .inl (κ 0, 9, .inl tl_bidOf)), (tl_daysOfA, .inl (κ 0, 6, .inl tl_daysOf)), (txo, .inr (7, [.ref tx_signsA, .int tx_length, .int w10, .int 0, .int (-1)])), (tx_signsA, .inl (κ 0, 240, .inl tx_signs))]) H := hP
  have hD : va_D A ([(tlo, .inr (6, [.int w1, .int w2, .int w3, .int w4, .int w5, .int w6, .int w7, .int w8, .ref tl_goodsA, .ref tl_shyA, .ref tl_bidOfA, .ref tl_daysOfA])), (tl_goodsA, .inl (κ 0, 6, .inl tl_goods)), (tl_shyA, .inl (κ 0, 6, .inl tl_shy)), (tl_bidOfA, .inl (κ 0, 9, .inl tl_bidOf)), (tl_daysOfA, .inl (κ 0, 6, .inl tl_daysOf)), (txo, .inr (7, [.ref tx_signsA, .int tx_length, .int w10, .int 0, .int (-1)])), (tx_signsA, .inl (κ 0, 240, .inl tx_signs))]) := hD
  refine lv_iconst (v := 0) hx hb dX7_readInto_23 (by decide) ?_
  refine lv_istore_n (lv' := [(2, .int 0), (0, .ref txo), (1, .ref tlo)]) hx hb dX7_readInto_24 rfl hl (by decide) rfl (fun ls hl => ?_)
  exact L25 N 0 w10 0 (-1) w1 w2 w3 w4 w5 w6 w7 w8 tl_goods tl_shy tl_bidOf tl_daysOf _ _ _ (hP.sub [5, 6, 0, 1, 2, 3, 4] rfl) (hD.sub [5, 6, 0, 1, 2, 3, 4] (by decide) rfl) hS (lv_sub hl [1, 2, 0] rfl) hres
