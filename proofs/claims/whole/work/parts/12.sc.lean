def pX0_clear : Option (Int32) :=
    some (0)
set_option maxHeartbeats 8000000 in
set_option maxRecDepth 100000 in
theorem tX0_clear (l : Launch) (D : va_G) (κ : Nat → ClassId) (bko : Nat) (bk_whoseA : Nat) (bk_goodsA : Nat) (bk_whose : Nat → Int32) (bk_goods : Nat → Int32) (bk_count : Int32) (z_bk_count : Int32) (hres : pX0_clear = some (z_bk_count)) : krV l yX0_clear wsX0_clear { frames := 0, cells := 0, slots := 0, locals := 0 } D κ [.ref bko] ([(bko, .inr (0, [.ref bk_whoseA, .ref bk_goodsA, .int bk_count])), (bk_whoseA, .inl (κ 0, 15, .inl bk_whose)), (bk_goodsA, .inl (κ 0, 15, .inl bk_goods))]) ([(bko, .inr (0, [.ref bk_whoseA, .ref bk_goodsA, .int z_bk_count])), (bk_whoseA, .inl (κ 0, 15, .inl bk_whose)), (bk_goodsA, .inl (κ 0, 15, .inl bk_goods))]) := by
  refine krV_of (cc := cX0_clear) (maxL := 1) (by decide) rfl (Nat.le_of_ble_eq_true rfl) ?_
  intro p e s m args below meth c A Q ls hx hb hml hown hts hK hA hret hP hD hS hl
  have hown : s.vm.findClass RX0 = some m.cls := hown
  have hl : lv_has ls 1 [(0, .ref bko)] := hl
  have iw0 : ∀ w ∈ u_ws RX0 TX0 3, w ∈ wsX0_clear := (fun _ h => List.mem_cons_of_mem _ (List.mem_append_right _ h))
  have k0 : (Cond.fieldLink RX0 18 "KingRansom$Book" "count" "I").before args s = true := hts _ (List.mem_of_getElem? (i := 1) rfl)
  unfold pX0_clear at hres
  refine lv_aload_n hx hb dX0_clear_0 rfl (lv_at hl 0 rfl) ?_
  refine lv_iconst (v := 0) hx hb dX0_clear_1 (by decide) ?_
  refine va_put (D := D) (ci := 0) (v := .int 0) (ty := .int) (C := RX0) (T := TX0) (N := 3) hx hb hts iw0 tyX0 tyX0_ok nmX0 hown hK.1 hP hD hS 0 rfl rfl 2 (by decide) k0 (fun _ h9 => h9) rfl (tyX0_ok 2 (by decide)) rfl rfl (Nat.le_of_ble_eq_true rfl) dX0_clear_2 (fun H locs hP hD hS => ?_)
  have hP : va_P D vwCl ([(bko, .inr (0, [.ref bk_whoseA, .ref bk_goodsA, .int 0])), (bk_whoseA, .inl (κ 0, 15, .inl bk_whose)), (bk_goodsA, .inl (κ 0, 15, .inl bk_goods))]) H := hP
  have hD : va_D A ([(bko, .inr (0, [.ref bk_whoseA, .ref bk_goodsA, .int 0])), (bk_whoseA, .inl (κ 0, 15, .inl bk_whose)), (bk_goodsA, .inl (κ 0, 15, .inl bk_goods))]) := hD
  have hres := Option.some.inj hres
  have h0 := hres
  subst h0
  exact hret _ _ _ _ hP hD hS dX0_clear_5

def pX0_add (x1 : Int32) (x2 : Int32) (bk_whose : Nat → Int32) (bk_goods : Nat → Int32) (bk_count : Int32) : Option (Int32 × (Nat → Int32) × (Nat → Int32) × Int32) :=
    (if bk_count < 15 then
    if bk_count < 0 ∨ 15 ≤ bk_count.toNatClampNeg then none else
    some (1, (upd bk_whose bk_count.toNatClampNeg x1), (upd bk_goods bk_count.toNatClampNeg x2), (bk_count + 1))
    else
    some (0, bk_whose, bk_goods, bk_count))
set_option maxHeartbeats 8000000 in
set_option maxRecDepth 100000 in
theorem tX0_add (l : Launch) (D : va_G) (κ : Nat → ClassId) (bko : Nat) (bk_whoseA : Nat) (bk_goodsA : Nat) (bk_whose : Nat → Int32) (bk_goods : Nat → Int32) (bk_count : Int32) (x1 : Int32) (x2 : Int32) (r0 : Int32) (z_bk_whose : Nat → Int32) (z_bk_goods : Nat → Int32) (z_bk_count : Int32) (hres : pX0_add x1 x2 bk_whose bk_goods bk_count = some (r0, z_bk_whose, z_bk_goods, z_bk_count)) : krI l yX0_add wsX0_add { frames := 0, cells := 0, slots := 0, locals := 0 } D κ [.ref bko, .int x1, .int x2] ([(bko, .inr (0, [.ref bk_whoseA, .ref bk_goodsA, .int bk_count])), (bk_whoseA, .inl (κ 0, 15, .inl bk_whose)), (bk_goodsA, .inl (κ 0, 15, .inl bk_goods))]) ([(bko, .inr (0, [.ref bk_whoseA, .ref bk_goodsA, .int z_bk_count])), (bk_whoseA, .inl (κ 0, 15, .inl z_bk_whose)), (bk_goodsA, .inl (κ 0, 15, .inl z_bk_goods))]) r0 := by
  refine krI_of (cc := cX0_add) (maxL := 3) (rt := .boolean) (by decide) rfl (Nat.le_of_ble_eq_true rfl) ?_
  intro p e s m args below meth c A Q ls hx hb hml hown hts hK hA hret hP hD hS hl
  have hown : s.vm.findClass RX0 = some m.cls := hown
  have hl : lv_has ls 3 [(0, .ref bko), (1, .int x1), (2, .int x2)] := hl
  have iw0 : ∀ w ∈ u_ws RX0 TX0 3, w ∈ wsX0_add := (fun _ h => List.mem_cons_of_mem _ (List.mem_append_right _ h))
  have k0 : (Cond.fieldLink RX0 18 "KingRansom$Book" "count" "I").before args s = true := hts _ (List.mem_of_getElem? (i := 1) rfl)
  have k1 : (Cond.fieldLink RX0 9 "KingRansom$Book" "whose" "[I").before args s = true := hts _ (List.mem_of_getElem? (i := 2) rfl)
  have k2 : (Cond.fieldLink RX0 15 "KingRansom$Book" "goods" "[I").before args s = true := hts _ (List.mem_of_getElem? (i := 3) rfl)
  unfold pX0_add at hres
  refine lv_aload_n hx hb dX0_add_0 rfl (lv_at hl 0 rfl) ?_
  refine va_get (D := D) (ci := 0) (v := .int bk_count) (C := RX0) (T := TX0) (N := 3) hx hb hts iw0 hown hK.1 hP 0 rfl rfl 2 (by decide) k0 (fun _ h9 => h9) rfl dX0_add_1 ?_
  refine lv_bipush (v := 15) hx hb dX0_add_4 (by decide) ?_
  refine lv_icmp_lt (tgt := 11) hx hb dX0_add_6 (by decide) (fun c1 => ?_) (fun c1 => ?_)
  · replace hres := og_t c1 hres
    refine lv_aload_n hx hb dX0_add_11 rfl (lv_at hl 0 rfl) ?_
    refine va_get (D := D) (ci := 0) (v := .ref bk_whoseA) (C := RX0) (T := TX0) (N := 3) hx hb hts iw0 hown hK.1 hP 0 rfl rfl 0 (by decide) k1 (fun _ h9 => h9) rfl dX0_add_12 ?_
    refine lv_aload_n hx hb dX0_add_15 rfl (lv_at hl 0 rfl) ?_
    refine va_get (D := D) (ci := 0) (v := .int bk_count) (C := RX0) (T := TX0) (N := 3) hx hb hts iw0 hown hK.1 hP 0 rfl rfl 2 (by decide) k0 (fun _ h9 => h9) rfl dX0_add_16 ?_
    refine lv_iload_n hx hb dX0_add_19 rfl (lv_at hl 1 rfl) ?_
    obtain ⟨g2, hres⟩ := og_no hres
    refine kr_iast (f := bk_whose) (j := bk_count.toNatClampNeg) (x := x1) hx hb hK hP hD hS 1 rfl g2 rfl dX0_add_20 (fun H locs hP hD hS => ?_)
    have hP : va_P D vwCl ([(bko, .inr (0, [.ref bk_whoseA, .ref bk_goodsA, .int bk_count])), (bk_whoseA, .inl (κ 0, 15, .inl (upd bk_whose bk_count.toNatClampNeg x1))), (bk_goodsA, .inl (κ 0, 15, .inl bk_goods))]) H := hP
    have hD : va_D A ([(bko, .inr (0, [.ref bk_whoseA, .ref bk_goodsA, .int bk_count])), (bk_whoseA, .inl (κ 0, 15, .inl (upd bk_whose bk_count.toNatClampNeg x1))), (bk_goodsA, .inl (κ 0, 15, .inl bk_goods))]) := hD
    refine lv_aload_n hx hb dX0_add_21 rfl (lv_at hl 0 rfl) ?_
    refine va_get (D := D) (ci := 0) (v := .ref bk_goodsA) (C := RX0) (T := TX0) (N := 3) hx hb hts iw0 hown hK.1 hP 0 rfl rfl 1 (by decide) k2 (fun _ h9 => h9) rfl dX0_add_22 ?_
    refine lv_aload_n hx hb dX0_add_25 rfl (lv_at hl 0 rfl) ?_
    refine va_get (D := D) (ci := 0) (v := .int bk_count) (C := RX0) (T := TX0) (N := 3) hx hb hts iw0 hown hK.1 hP 0 rfl rfl 2 (by decide) k0 (fun _ h9 => h9) rfl dX0_add_26 ?_
    refine lv_iload_n hx hb dX0_add_29 rfl (lv_at hl 2 rfl) ?_
    refine kr_iast (f := bk_goods) (j := bk_count.toNatClampNeg) (x := x2) hx hb hK hP hD hS 2 rfl g2 rfl dX0_add_30 (fun H locs hP hD hS => ?_)
    have hP : va_P D vwCl ([(bko, .inr (0, [.ref bk_whoseA, .ref bk_goodsA, .int bk_count])), (bk_whoseA, .inl (κ 0, 15, .inl (upd bk_whose bk_count.toNatClampNeg x1))), (bk_goodsA, .inl (κ 0, 15, .inl (upd bk_goods bk_count.toNatClampNeg x2)))]) H := hP
    have hD : va_D A ([(bko, .inr (0, [.ref bk_whoseA, .ref bk_goodsA, .int bk_count])), (bk_whoseA, .inl (κ 0, 15, .inl (upd bk_whose bk_count.toNatClampNeg x1))), (bk_goodsA, .inl (κ 0, 15, .inl (upd bk_goods bk_count.toNatClampNeg x2)))]) := hD
    refine lv_aload_n hx hb dX0_add_31 rfl (lv_at hl 0 rfl) ?_
    refine lv_dup hx hb dX0_add_32 rfl ?_
    refine va_get (D := D) (ci := 0) (v := .int bk_count) (C := RX0) (T := TX0) (N := 3) hx hb hts iw0 hown hK.1 hP 0 rfl rfl 2 (by decide) k0 (fun _ h9 => h9) rfl dX0_add_33 ?_
    refine lv_iconst (v := 1) hx hb dX0_add_36 (by decide) ?_
    refine lv_iadd hx hb dX0_add_37 ?_
    refine va_put (D := D) (ci := 0) (v := .int (bk_count + 1)) (ty := .int) (C := RX0) (T := TX0) (N := 3) hx hb hts iw0 tyX0 tyX0_ok nmX0 hown hK.1 hP hD hS 0 rfl rfl 2 (by decide) k0 (fun _ h9 => h9) rfl (tyX0_ok 2 (by decide)) rfl rfl (Nat.le_of_ble_eq_true rfl) dX0_add_38 (fun H locs hP hD hS => ?_)
    have hP : va_P D vwCl ([(bko, .inr (0, [.ref bk_whoseA, .ref bk_goodsA, .int (bk_count + 1)])), (bk_whoseA, .inl (κ 0, 15, .inl (upd bk_whose bk_count.toNatClampNeg x1))), (bk_goodsA, .inl (κ 0, 15, .inl (upd bk_goods bk_count.toNatClampNeg x2)))]) H := hP
    have hD : va_D A ([(bko, .inr (0, [.ref bk_whoseA, .ref bk_goodsA, .int (bk_count + 1)])), (bk_whoseA, .inl (κ 0, 15, .inl (upd bk_whose bk_count.toNatClampNeg x1))), (bk_goodsA, .inl (κ 0, 15, .inl (upd bk_goods bk_count.toNatClampNeg x2)))]) := hD
    refine lv_iconst (v := 1) hx hb dX0_add_41 (by decide) ?_
    have hres := Option.some.inj hres
    have h0 := (Prod.mk.inj hres).1
    replace hres := (Prod.mk.inj hres).2
    have h1 := (Prod.mk.inj hres).1
    replace hres := (Prod.mk.inj hres).2
    have h2 := (Prod.mk.inj hres).1
    replace hres := (Prod.mk.inj hres).2
    have h3 := hres
    subst h0
    subst h1
    subst h2
    subst h3
    exact hret _ _ _ _ (by decide) hP hD hS dX0_add_42
  · replace hres := og_f c1 hres
    refine lv_iconst (v := 0) hx hb dX0_add_9 (by decide) ?_
    have hres := Option.some.inj hres
    have h0 := (Prod.mk.inj hres).1
    replace hres := (Prod.mk.inj hres).2
    have h1 := (Prod.mk.inj hres).1
    replace hres := (Prod.mk.inj hres).2
    have h2 := (Prod.mk.inj hres).1
    replace hres := (Prod.mk.inj hres).2
    have h3 := hres
    subst h0
    subst h1
    subst h2
    subst h3
    exact hret _ _ _ _ (by decide) hP hD hS dX0_add_10

def pX0_firstWrong_L2 (bk_whose : Nat → Int32) (bk_goods : Nat → Int32) (bk_count : Int32) (st_goods : Nat → Int32) : Nat → Int32 → Option (Int32)
  | 0, _ => none
  | n2 + 1, v2 =>
    (if bk_count ≤ v2 then
    some ((-1))
    else
    if v2 < 0 ∨ 15 ≤ v2.toNatClampNeg then none else
    if (bk_whose v2.toNatClampNeg) < 0 ∨ 6 ≤ (bk_whose v2.toNatClampNeg).toNatClampNeg then none else
    (if (st_goods ((bk_whose v2.toNatClampNeg).toNatClampNeg)) = (bk_goods v2.toNatClampNeg) then
    pX0_firstWrong_L2 bk_whose bk_goods bk_count st_goods n2 (v2 + 1)
    else
    some (v2)))
def pX0_firstWrong (N : Nat) (bk_whose : Nat → Int32) (bk_goods : Nat → Int32) (bk_count : Int32) (st_goods : Nat → Int32) : Option (Int32) :=
    pX0_firstWrong_L2 bk_whose bk_goods bk_count st_goods N 0
set_option maxHeartbeats 8000000 in
set_option maxRecDepth 100000 in
theorem tX0_firstWrong (l : Launch) (D : va_G) (κ : Nat → ClassId) (bko : Nat) (bk_whoseA : Nat) (bk_goodsA : Nat) (sto : Nat) (st_goodsA : Nat) (st_ratesA : Nat) (N : Nat) (bk_whose : Nat → Int32) (bk_goods : Nat → Int32) (bk_count : Int32) (st_price : Int32) (st_months : Int32) (st_chest : Int32) (st_given : Int32) (st_fate : Int32) (st_goods : Nat → Int32) (st_rates : Nat → Int32) (r0 : Int32) (hres : pX0_firstWrong N bk_whose bk_goods bk_count st_goods = some (r0)) : krI l yX0_firstWrong wsX0_firstWrong { frames := 0, cells := 0, slots := 0, locals := 0 } D κ [.ref bko, .ref sto] ([(bko, .inr (0, [.ref bk_whoseA, .ref bk_goodsA, .int bk_count])), (bk_whoseA, .inl (κ 0, 15, .inl bk_whose)), (bk_goodsA, .inl (κ 0, 15, .inl bk_goods)), (sto, .inr (5, [.int st_price, .int st_months, .int st_chest, .int st_given, .int st_fate, .ref st_goodsA, .ref st_ratesA])), (st_goodsA, .inl (κ 0, 6, .inl st_goods)), (st_ratesA, .inl (κ 0, 6, .inl st_rates))]) ([(bko, .inr (0, [.ref bk_whoseA, .ref bk_goodsA, .int bk_count])), (bk_whoseA, .inl (κ 0, 15, .inl bk_whose)), (bk_goodsA, .inl (κ 0, 15, .inl bk_goods)), (sto, .inr (5, [.int st_price, .int st_months, .int st_chest, .int st_given, .int st_fate, .ref st_goodsA, .ref st_ratesA])), (st_goodsA, .inl (κ 0, 6, .inl st_goods)), (st_ratesA, .inl (κ 0, 6, .inl st_rates))]) r0 := by
  refine krI_of (cc := cX0_firstWrong) (maxL := 3) (rt := .int) (by decide) rfl (Nat.le_of_ble_eq_true rfl) ?_
  intro p e s m args below meth c A Q ls hx hb hml hown hts hK hA hret hP hD hS hl
  have hown : s.vm.findClass RX0 = some m.cls := hown
  have hl : lv_has ls 3 [(0, .ref bko), (1, .ref sto)] := hl
  have iw0 : ∀ w ∈ u_ws RX0 TX0 3, w ∈ wsX0_firstWrong := (fun _ h => List.mem_cons_of_mem _ (List.mem_append_left _ (List.mem_append_right _ h)))
  have iw5 : ∀ w ∈ u_ws RX5 TX5 7, w ∈ wsX0_firstWrong := (fun _ h => List.mem_cons_of_mem _ (List.mem_append_right _ h))
  have k0 : (Cond.fieldLink RX0 18 "KingRansom$Book" "count" "I").before args s = true := hts _ (List.mem_of_getElem? (i := 1) rfl)
  have k1 : (Cond.fieldLink RX0 9 "KingRansom$Book" "whose" "[I").before args s = true := hts _ (List.mem_of_getElem? (i := 2) rfl)
  have k2 : (Cond.fieldLink RX0 15 "KingRansom$Book" "goods" "[I").before args s = true := hts _ (List.mem_of_getElem? (i := 3) rfl)
  have L2 : ∀ (n2 : Nat) (v2 : Int32) (H : Heap) (locs : List Loc) (ls : Array Slot), va_P D vwCl ([(bko, .inr (0, [.ref bk_whoseA, .ref bk_goodsA, .int bk_count])), (bk_whoseA, .inl (κ 0, 15, .inl bk_whose)), (bk_goodsA, .inl (κ 0, 15, .inl bk_goods)), (sto, .inr (5, [.int st_price, .int st_months, .int st_chest, .int st_given, .int st_fate, .ref st_goodsA, .ref st_ratesA])), (st_goodsA, .inl (κ 0, 6, .inl st_goods)), (st_ratesA, .inl (κ 0, 6, .inl st_rates))]) H → va_D A ([(bko, .inr (0, [.ref bk_whoseA, .ref bk_goodsA, .int bk_count])), (bk_whoseA, .inl (κ 0, 15, .inl bk_whose)), (bk_goodsA, .inl (κ 0, 15, .inl bk_goods)), (sto, .inr (5, [.int st_price, .int st_months, .int st_chest, .int st_given, .int st_fate, .ref st_goodsA, .ref st_ratesA])), (st_goodsA, .inl (κ 0, 6, .inl st_goods)), (st_ratesA, .inl (κ 0, 6, .inl st_rates))]) → va_S A s.heap H locs → lv_has ls 3 [(0, .ref bko), (1, .ref sto), (2, .int v2)] → pX0_firstWrong_L2 bk_whose bk_goods bk_count st_goods n2 v2 = some (r0) → W p l e { frames := 0, cells := 0, slots := 0, locals := 0 } s m args below meth c H locs 0 0 Q (F0 m 2 ls []) := by
    intro n2
    induction n2 with
    | zero =>
      intro v2 H locs ls hP hD hS hl hres
      exact absurd (show none = some _ from hres) (by simp)
    | succ n2 ih2 =>
      intro v2 H locs ls hP hD hS hl hres
      rw [pX0_firstWrong_L2] at hres
      refine lv_iload_n hx hb dX0_firstWrong_2 rfl (lv_at hl 2 rfl) ?_
      refine lv_aload_n hx hb dX0_firstWrong_3 rfl (lv_at hl 0 rfl) ?_
      refine va_get (D := D) (ci := 0) (v := .int bk_count) (C := RX0) (T := TX0) (N := 3) hx hb hts iw0 hown hK.1 hP 0 rfl rfl 2 (by decide) k0 (fun _ h9 => h9) rfl dX0_firstWrong_4 ?_
      refine lv_icmp_ge (tgt := 38) hx hb dX0_firstWrong_7 (by decide) (fun c1 => ?_) (fun c1 => ?_)
      · replace hres := og_t c1 hres
        refine lv_iconst (v := (-1)) hx hb dX0_firstWrong_38 (by decide) ?_
        have hres := Option.some.inj hres
        have h0 := hres
        subst h0
        exact hret _ _ _ _ (vp_nar_int _) hP hD hS dX0_firstWrong_39
      · replace hres := og_f c1 hres
        refine lv_aload_n hx hb dX0_firstWrong_10 rfl (lv_at hl 1 rfl) ?_
        refine va_getN (D := D) (ci := 5) (v := .ref st_goodsA) (C := RX5) (T := TX5) (N := 7) hx hb hts iw5 hown hK.1 hP 3 rfl rfl 5 (by decide) (hK.fl 35 rfl) (fun _ h9 => h9) rfl dX0_firstWrong_11 ?_
        refine lv_aload_n hx hb dX0_firstWrong_14 rfl (lv_at hl 0 rfl) ?_
        refine va_get (D := D) (ci := 0) (v := .ref bk_whoseA) (C := RX0) (T := TX0) (N := 3) hx hb hts iw0 hown hK.1 hP 0 rfl rfl 0 (by decide) k1 (fun _ h9 => h9) rfl dX0_firstWrong_15 ?_
        refine lv_iload_n hx hb dX0_firstWrong_18 rfl (lv_at hl 2 rfl) ?_
        obtain ⟨g2, hres⟩ := og_no hres
        refine kr_iald (f := bk_whose) (j := v2.toNatClampNeg) hx hb hK hP 1 rfl g2 rfl dX0_firstWrong_19 ?_
        obtain ⟨g3, hres⟩ := og_no hres
        refine kr_iald (f := st_goods) (j := (bk_whose v2.toNatClampNeg).toNatClampNeg) hx hb hK hP 4 rfl g3 rfl dX0_firstWrong_20 ?_
        refine lv_aload_n hx hb dX0_firstWrong_21 rfl (lv_at hl 0 rfl) ?_
        refine va_get (D := D) (ci := 0) (v := .ref bk_goodsA) (C := RX0) (T := TX0) (N := 3) hx hb hts iw0 hown hK.1 hP 0 rfl rfl 1 (by decide) k2 (fun _ h9 => h9) rfl dX0_firstWrong_22 ?_
        refine lv_iload_n hx hb dX0_firstWrong_25 rfl (lv_at hl 2 rfl) ?_
        refine kr_iald (f := bk_goods) (j := v2.toNatClampNeg) hx hb hK hP 2 rfl g2 rfl dX0_firstWrong_26 ?_
        refine lv_icmp_eq (tgt := 32) hx hb dX0_firstWrong_27 (by decide) (fun c4 => ?_) (fun c4 => ?_)
        · replace hres := og_t c4 hres
          refine lv_iinc (v := (v2 + 1)) (lv' := [(2, .int (v2 + 1)), (0, .ref bko), (1, .ref sto)]) hx hb dX0_firstWrong_32 hl (k := 2) rfl rfl (by decide) rfl (fun ls hl => ?_)
          refine lv_goto (tgt := 2) hx hb dX0_firstWrong_35 (by decide) ?_
          exact ih2 (v2 + 1) _ _ _ hP hD hS (lv_sub hl [1, 2, 0] rfl) hres
        · replace hres := og_f c4 hres
          refine lv_iload_n hx hb dX0_firstWrong_30 rfl (lv_at hl 2 rfl) ?_
          have hres := Option.some.inj hres
          have h0 := hres
          subst h0
          exact hret _ _ _ _ (vp_nar_int _) hP hD hS dX0_firstWrong_31
  unfold pX0_firstWrong at hres
  refine lv_iconst (v := 0) hx hb dX0_firstWrong_0 (by decide) ?_
  refine lv_istore_n (lv' := [(2, .int 0), (0, .ref bko), (1, .ref sto)]) hx hb dX0_firstWrong_1 rfl hl (by decide) rfl (fun ls hl => ?_)
  exact L2 N 0 _ _ _ hP hD hS (lv_sub hl [1, 2, 0] rfl) hres

def pX3_clear : Option (Int32) :=
    some (0)
set_option maxHeartbeats 8000000 in
set_option maxRecDepth 100000 in
theorem tX3_clear (l : Launch) (D : va_G) (κ : Nat → ClassId) (sco : Nat) (sc_setsA : Nat) (sc_weightsA : Nat) (sc_bagsShortByA : Nat) (sc_sets : Nat → Int32) (sc_weights : Nat → Int32) (sc_count : Int32) (sc_bagsShortBy : Nat → Int32) (sc_fits : Int32) (z_sc_count : Int32) (hres : pX3_clear = some (z_sc_count)) : krV l yX3_clear wsX3_clear { frames := 0, cells := 0, slots := 0, locals := 0 } D κ [.ref sco] ([(sco, .inr (3, [.ref sc_setsA, .ref sc_weightsA, .int sc_count, .ref sc_bagsShortByA, .int sc_fits])), (sc_setsA, .inl (κ 0, 6, .inl sc_sets)), (sc_weightsA, .inl (κ 0, 6, .inl sc_weights)), (sc_bagsShortByA, .inl (κ 0, 10, .inl sc_bagsShortBy))]) ([(sco, .inr (3, [.ref sc_setsA, .ref sc_weightsA, .int z_sc_count, .ref sc_bagsShortByA, .int sc_fits])), (sc_setsA, .inl (κ 0, 6, .inl sc_sets)), (sc_weightsA, .inl (κ 0, 6, .inl sc_weights)), (sc_bagsShortByA, .inl (κ 0, 10, .inl sc_bagsShortBy))]) := by
  refine krV_of (cc := cX3_clear) (maxL := 1) (by decide) rfl (Nat.le_of_ble_eq_true rfl) ?_
  intro p e s m args below meth c A Q ls hx hb hml hown hts hK hA hret hP hD hS hl
  have hown : s.vm.findClass RX3 = some m.cls := hown
  have hl : lv_has ls 1 [(0, .ref sco)] := hl
  have iw3 : ∀ w ∈ u_ws RX3 TX3 5, w ∈ wsX3_clear := (fun _ h => List.mem_cons_of_mem _ (List.mem_append_right _ h))
  have k0 : (Cond.fieldLink RX3 21 "KingRansom$Scales" "count" "I").before args s = true := hts _ (List.mem_of_getElem? (i := 1) rfl)
  unfold pX3_clear at hres
  refine lv_aload_n hx hb dX3_clear_0 rfl (lv_at hl 0 rfl) ?_
  refine lv_iconst (v := 0) hx hb dX3_clear_1 (by decide) ?_
  refine va_put (D := D) (ci := 3) (v := .int 0) (ty := .int) (C := RX3) (T := TX3) (N := 5) hx hb hts iw3 tyX3 tyX3_ok nmX3 hown hK.1 hP hD hS 0 rfl rfl 2 (by decide) k0 (fun _ h9 => h9) rfl (tyX3_ok 2 (by decide)) rfl rfl (Nat.le_of_ble_eq_true rfl) dX3_clear_2 (fun H locs hP hD hS => ?_)
  have hP : va_P D vwCl ([(sco, .inr (3, [.ref sc_setsA, .ref sc_weightsA, .int 0, .ref sc_bagsShortByA, .int sc_fits])), (sc_setsA, .inl (κ 0, 6, .inl sc_sets)), (sc_weightsA, .inl (κ 0, 6, .inl sc_weights)), (sc_bagsShortByA, .inl (κ 0, 10, .inl sc_bagsShortBy))]) H := hP
  have hD : va_D A ([(sco, .inr (3, [.ref sc_setsA, .ref sc_weightsA, .int 0, .ref sc_bagsShortByA, .int sc_fits])), (sc_setsA, .inl (κ 0, 6, .inl sc_sets)), (sc_weightsA, .inl (κ 0, 6, .inl sc_weights)), (sc_bagsShortByA, .inl (κ 0, 10, .inl sc_bagsShortBy))]) := hD
  have hres := Option.some.inj hres
  have h0 := hres
  subst h0
  exact hret _ _ _ _ hP hD hS dX3_clear_5

def pX3_add (x1 : Int32) (x2 : Int32) (sc_sets : Nat → Int32) (sc_weights : Nat → Int32) (sc_count : Int32) : Option (Int32 × (Nat → Int32) × (Nat → Int32) × Int32) :=
    (if sc_count < 6 then
    if sc_count < 0 ∨ 6 ≤ sc_count.toNatClampNeg then none else
    some (1, (upd sc_sets sc_count.toNatClampNeg x1), (upd sc_weights sc_count.toNatClampNeg x2), (sc_count + 1))
    else
    some (0, sc_sets, sc_weights, sc_count))
set_option maxHeartbeats 8000000 in
set_option maxRecDepth 100000 in
theorem tX3_add (l : Launch) (D : va_G) (κ : Nat → ClassId) (sco : Nat) (sc_setsA : Nat) (sc_weightsA : Nat) (sc_bagsShortByA : Nat) (sc_sets : Nat → Int32) (sc_weights : Nat → Int32) (sc_count : Int32) (sc_bagsShortBy : Nat → Int32) (sc_fits : Int32) (x1 : Int32) (x2 : Int32) (r0 : Int32) (z_sc_sets : Nat → Int32) (z_sc_weights : Nat → Int32) (z_sc_count : Int32) (hres : pX3_add x1 x2 sc_sets sc_weights sc_count = some (r0, z_sc_sets, z_sc_weights, z_sc_count)) : krI l yX3_add wsX3_add { frames := 0, cells := 0, slots := 0, locals := 0 } D κ [.ref sco, .int x1, .int x2] ([(sco, .inr (3, [.ref sc_setsA, .ref sc_weightsA, .int sc_count, .ref sc_bagsShortByA, .int sc_fits])), (sc_setsA, .inl (κ 0, 6, .inl sc_sets)), (sc_weightsA, .inl (κ 0, 6, .inl sc_weights)), (sc_bagsShortByA, .inl (κ 0, 10, .inl sc_bagsShortBy))]) ([(sco, .inr (3, [.ref sc_setsA, .ref sc_weightsA, .int z_sc_count, .ref sc_bagsShortByA, .int sc_fits])), (sc_setsA, .inl (κ 0, 6, .inl z_sc_sets)), (sc_weightsA, .inl (κ 0, 6, .inl z_sc_weights)), (sc_bagsShortByA, .inl (κ 0, 10, .inl sc_bagsShortBy))]) r0 := by
  refine krI_of (cc := cX3_add) (maxL := 3) (rt := .boolean) (by decide) rfl (Nat.le_of_ble_eq_true rfl) ?_
  intro p e s m args below meth c A Q ls hx hb hml hown hts hK hA hret hP hD hS hl
  have hown : s.vm.findClass RX3 = some m.cls := hown
  have hl : lv_has ls 3 [(0, .ref sco), (1, .int x1), (2, .int x2)] := hl
  have iw3 : ∀ w ∈ u_ws RX3 TX3 5, w ∈ wsX3_add := (fun _ h => List.mem_cons_of_mem _ (List.mem_append_right _ h))
  have k0 : (Cond.fieldLink RX3 21 "KingRansom$Scales" "count" "I").before args s = true := hts _ (List.mem_of_getElem? (i := 1) rfl)
  have k1 : (Cond.fieldLink RX3 9 "KingRansom$Scales" "sets" "[I").before args s = true := hts _ (List.mem_of_getElem? (i := 2) rfl)
  have k2 : (Cond.fieldLink RX3 15 "KingRansom$Scales" "weights" "[I").before args s = true := hts _ (List.mem_of_getElem? (i := 3) rfl)
  unfold pX3_add at hres
  refine lv_aload_n hx hb dX3_add_0 rfl (lv_at hl 0 rfl) ?_
  refine va_get (D := D) (ci := 3) (v := .int sc_count) (C := RX3) (T := TX3) (N := 5) hx hb hts iw3 hown hK.1 hP 0 rfl rfl 2 (by decide) k0 (fun _ h9 => h9) rfl dX3_add_1 ?_
  refine lv_bipush (v := 6) hx hb dX3_add_4 (by decide) ?_
  refine lv_icmp_lt (tgt := 11) hx hb dX3_add_6 (by decide) (fun c1 => ?_) (fun c1 => ?_)
  · replace hres := og_t c1 hres
    refine lv_aload_n hx hb dX3_add_11 rfl (lv_at hl 0 rfl) ?_
    refine va_get (D := D) (ci := 3) (v := .ref sc_setsA) (C := RX3) (T := TX3) (N := 5) hx hb hts iw3 hown hK.1 hP 0 rfl rfl 0 (by decide) k1 (fun _ h9 => h9) rfl dX3_add_12 ?_
    refine lv_aload_n hx hb dX3_add_15 rfl (lv_at hl 0 rfl) ?_
    refine va_get (D := D) (ci := 3) (v := .int sc_count) (C := RX3) (T := TX3) (N := 5) hx hb hts iw3 hown hK.1 hP 0 rfl rfl 2 (by decide) k0 (fun _ h9 => h9) rfl dX3_add_16 ?_
    refine lv_iload_n hx hb dX3_add_19 rfl (lv_at hl 1 rfl) ?_
    obtain ⟨g2, hres⟩ := og_no hres
    refine kr_iast (f := sc_sets) (j := sc_count.toNatClampNeg) (x := x1) hx hb hK hP hD hS 1 rfl g2 rfl dX3_add_20 (fun H locs hP hD hS => ?_)
    have hP : va_P D vwCl ([(sco, .inr (3, [.ref sc_setsA, .ref sc_weightsA, .int sc_count, .ref sc_bagsShortByA, .int sc_fits])), (sc_setsA, .inl (κ 0, 6, .inl (upd sc_sets sc_count.toNatClampNeg x1))), (sc_weightsA, .inl (κ 0, 6, .inl sc_weights)), (sc_bagsShortByA, .inl (κ 0, 10, .inl sc_bagsShortBy))]) H := hP
    have hD : va_D A ([(sco, .inr (3, [.ref sc_setsA, .ref sc_weightsA, .int sc_count, .ref sc_bagsShortByA, .int sc_fits])), (sc_setsA, .inl (κ 0, 6, .inl (upd sc_sets sc_count.toNatClampNeg x1))), (sc_weightsA, .inl (κ 0, 6, .inl sc_weights)), (sc_bagsShortByA, .inl (κ 0, 10, .inl sc_bagsShortBy))]) := hD
    refine lv_aload_n hx hb dX3_add_21 rfl (lv_at hl 0 rfl) ?_
    refine va_get (D := D) (ci := 3) (v := .ref sc_weightsA) (C := RX3) (T := TX3) (N := 5) hx hb hts iw3 hown hK.1 hP 0 rfl rfl 1 (by decide) k2 (fun _ h9 => h9) rfl dX3_add_22 ?_
    refine lv_aload_n hx hb dX3_add_25 rfl (lv_at hl 0 rfl) ?_
    refine va_get (D := D) (ci := 3) (v := .int sc_count) (C := RX3) (T := TX3) (N := 5) hx hb hts iw3 hown hK.1 hP 0 rfl rfl 2 (by decide) k0 (fun _ h9 => h9) rfl dX3_add_26 ?_
    refine lv_iload_n hx hb dX3_add_29 rfl (lv_at hl 2 rfl) ?_
    refine kr_iast (f := sc_weights) (j := sc_count.toNatClampNeg) (x := x2) hx hb hK hP hD hS 2 rfl g2 rfl dX3_add_30 (fun H locs hP hD hS => ?_)
    have hP : va_P D vwCl ([(sco, .inr (3, [.ref sc_setsA, .ref sc_weightsA, .int sc_count, .ref sc_bagsShortByA, .int sc_fits])), (sc_setsA, .inl (κ 0, 6, .inl (upd sc_sets sc_count.toNatClampNeg x1))), (sc_weightsA, .inl (κ 0, 6, .inl (upd sc_weights sc_count.toNatClampNeg x2))), (sc_bagsShortByA, .inl (κ 0, 10, .inl sc_bagsShortBy))]) H := hP
    have hD : va_D A ([(sco, .inr (3, [.ref sc_setsA, .ref sc_weightsA, .int sc_count, .ref sc_bagsShortByA, .int sc_fits])), (sc_setsA, .inl (κ 0, 6, .inl (upd sc_sets sc_count.toNatClampNeg x1))), (sc_weightsA, .inl (κ 0, 6, .inl (upd sc_weights sc_count.toNatClampNeg x2))), (sc_bagsShortByA, .inl (κ 0, 10, .inl sc_bagsShortBy))]) := hD
    refine lv_aload_n hx hb dX3_add_31 rfl (lv_at hl 0 rfl) ?_
    refine lv_dup hx hb dX3_add_32 rfl ?_
    refine va_get (D := D) (ci := 3) (v := .int sc_count) (C := RX3) (T := TX3) (N := 5) hx hb hts iw3 hown hK.1 hP 0 rfl rfl 2 (by decide) k0 (fun _ h9 => h9) rfl dX3_add_33 ?_
    refine lv_iconst (v := 1) hx hb dX3_add_36 (by decide) ?_
    refine lv_iadd hx hb dX3_add_37 ?_
    refine va_put (D := D) (ci := 3) (v := .int (sc_count + 1)) (ty := .int) (C := RX3) (T := TX3) (N := 5) hx hb hts iw3 tyX3 tyX3_ok nmX3 hown hK.1 hP hD hS 0 rfl rfl 2 (by decide) k0 (fun _ h9 => h9) rfl (tyX3_ok 2 (by decide)) rfl rfl (Nat.le_of_ble_eq_true rfl) dX3_add_38 (fun H locs hP hD hS => ?_)
    have hP : va_P D vwCl ([(sco, .inr (3, [.ref sc_setsA, .ref sc_weightsA, .int (sc_count + 1), .ref sc_bagsShortByA, .int sc_fits])), (sc_setsA, .inl (κ 0, 6, .inl (upd sc_sets sc_count.toNatClampNeg x1))), (sc_weightsA, .inl (κ 0, 6, .inl (upd sc_weights sc_count.toNatClampNeg x2))), (sc_bagsShortByA, .inl (κ 0, 10, .inl sc_bagsShortBy))]) H := hP
    have hD : va_D A ([(sco, .inr (3, [.ref sc_setsA, .ref sc_weightsA, .int (sc_count + 1), .ref sc_bagsShortByA, .int sc_fits])), (sc_setsA, .inl (κ 0, 6, .inl (upd sc_sets sc_count.toNatClampNeg x1))), (sc_weightsA, .inl (κ 0, 6, .inl (upd sc_weights sc_count.toNatClampNeg x2))), (sc_bagsShortByA, .inl (κ 0, 10, .inl sc_bagsShortBy))]) := hD
    refine lv_iconst (v := 1) hx hb dX3_add_41 (by decide) ?_
    have hres := Option.some.inj hres
    have h0 := (Prod.mk.inj hres).1
    replace hres := (Prod.mk.inj hres).2
    have h1 := (Prod.mk.inj hres).1
    replace hres := (Prod.mk.inj hres).2
    have h2 := (Prod.mk.inj hres).1
    replace hres := (Prod.mk.inj hres).2
    have h3 := hres
    subst h0
    subst h1
    subst h2
    subst h3
    exact hret _ _ _ _ (by decide) hP hD hS dX3_add_42
  · replace hres := og_f c1 hres
    refine lv_iconst (v := 0) hx hb dX3_add_9 (by decide) ?_
    have hres := Option.some.inj hres
    have h0 := (Prod.mk.inj hres).1
    replace hres := (Prod.mk.inj hres).2
    have h1 := (Prod.mk.inj hres).1
    replace hres := (Prod.mk.inj hres).2
    have h2 := (Prod.mk.inj hres).1
    replace hres := (Prod.mk.inj hres).2
    have h3 := hres
    subst h0
    subst h1
    subst h2
    subst h3
    exact hret _ _ _ _ (by decide) hP hD hS dX3_add_10

def pX3_fitsAll_L3 (x1 : Int32) (x2 : Int32) (x3 : Int32) (sc_sets : Nat → Int32) (sc_weights : Nat → Int32) (sc_count : Int32) : Nat → Int32 → Option (Int32)
  | 0, _ => none
  | n3 + 1, v4 =>
    (if sc_count ≤ v4 then
    some (1)
    else
    if v4 < 0 ∨ 6 ≤ v4.toNatClampNeg then none else
    kl ((((sc_sets v4.toNatClampNeg) >>> (x1 &&& 31)) &&& 1) * x2) fun y3 =>
    kb1 (pJ6_bitCount_0f7a4 (sc_sets v4.toNatClampNeg)) fun r4 =>
    (if ((r4 * x3) - y3) = (sc_weights v4.toNatClampNeg) then
    pX3_fitsAll_L3 x1 x2 x3 sc_sets sc_weights sc_count n3 (v4 + 1)
    else
    some (0)))
def pX3_fitsAll (N : Nat) (x1 : Int32) (x2 : Int32) (x3 : Int32) (sc_sets : Nat → Int32) (sc_weights : Nat → Int32) (sc_count : Int32) : Option (Int32) :=
    pX3_fitsAll_L3 x1 x2 x3 sc_sets sc_weights sc_count N 0
set_option maxHeartbeats 8000000 in
set_option maxRecDepth 100000 in
theorem tX3_fitsAll (l : Launch) (D : va_G) (κ : Nat → ClassId) (sco : Nat) (sc_setsA : Nat) (sc_weightsA : Nat) (sc_bagsShortByA : Nat) (N : Nat) (sc_sets : Nat → Int32) (sc_weights : Nat → Int32) (sc_count : Int32) (sc_bagsShortBy : Nat → Int32) (sc_fits : Int32) (x1 : Int32) (x2 : Int32) (x3 : Int32) (r0 : Int32) (hres : pX3_fitsAll N x1 x2 x3 sc_sets sc_weights sc_count = some (r0)) : krI l yX3_fitsAll wsX3_fitsAll { frames := 1, cells := 0, slots := 0, locals := 100 } D κ [.ref sco, .int x1, .int x2, .int x3] ([(sco, .inr (3, [.ref sc_setsA, .ref sc_weightsA, .int sc_count, .ref sc_bagsShortByA, .int sc_fits])), (sc_setsA, .inl (κ 0, 6, .inl sc_sets)), (sc_weightsA, .inl (κ 0, 6, .inl sc_weights)), (sc_bagsShortByA, .inl (κ 0, 10, .inl sc_bagsShortBy))]) ([(sco, .inr (3, [.ref sc_setsA, .ref sc_weightsA, .int sc_count, .ref sc_bagsShortByA, .int sc_fits])), (sc_setsA, .inl (κ 0, 6, .inl sc_sets)), (sc_weightsA, .inl (κ 0, 6, .inl sc_weights)), (sc_bagsShortByA, .inl (κ 0, 10, .inl sc_bagsShortBy))]) r0 := by
  refine krI_of (cc := cX3_fitsAll) (maxL := 6) (rt := .boolean) (by decide) rfl (Nat.le_of_ble_eq_true rfl) ?_
  intro p e s m args below meth c A Q ls hx hb hml hown hts hK hA hret hP hD hS hl
  have hown : s.vm.findClass RX3 = some m.cls := hown
  have hl : lv_has ls 6 [(0, .ref sco), (1, .int x1), (2, .int x2), (3, .int x3)] := hl
  have iw3 : ∀ w ∈ u_ws RX3 TX3 5, w ∈ wsX3_fitsAll := (fun _ h => List.mem_cons_of_mem _ (List.mem_append_right _ h))
  have k0 : (Cond.fieldLink RX3 21 "KingRansom$Scales" "count" "I").before args s = true := hts _ (List.mem_of_getElem? (i := 1) rfl)
  have k1 : (Cond.fieldLink RX3 9 "KingRansom$Scales" "sets" "[I").before args s = true := hts _ (List.mem_of_getElem? (i := 2) rfl)
  have k2 : (Cond.fieldLink RX3 15 "KingRansom$Scales" "weights" "[I").before args s = true := hts _ (List.mem_of_getElem? (i := 3) rfl)
  have L3 : ∀ (n3 : Nat) (v4 : Int32) (H : Heap) (locs : List Loc) (ls : Array Slot), va_P D vwCl ([(sco, .inr (3, [.ref sc_setsA, .ref sc_weightsA, .int sc_count, .ref sc_bagsShortByA, .int sc_fits])), (sc_setsA, .inl (κ 0, 6, .inl sc_sets)), (sc_weightsA, .inl (κ 0, 6, .inl sc_weights)), (sc_bagsShortByA, .inl (κ 0, 10, .inl sc_bagsShortBy))]) H → va_D A ([(sco, .inr (3, [.ref sc_setsA, .ref sc_weightsA, .int sc_count, .ref sc_bagsShortByA, .int sc_fits])), (sc_setsA, .inl (κ 0, 6, .inl sc_sets)), (sc_weightsA, .inl (κ 0, 6, .inl sc_weights)), (sc_bagsShortByA, .inl (κ 0, 10, .inl sc_bagsShortBy))]) → va_S A s.heap H locs → lv_has ls 6 [(0, .ref sco), (1, .int x1), (2, .int x2), (3, .int x3), (4, .int v4)] → pX3_fitsAll_L3 x1 x2 x3 sc_sets sc_weights sc_count n3 v4 = some (r0) → W p l e { frames := 1, cells := 0, slots := 0, locals := 100 } s m args below meth c H locs 0 0 Q (F0 m 3 ls []) := by
    intro n3
    induction n3 with
    | zero =>
      intro v4 H locs ls hP hD hS hl hres
      exact absurd (show none = some _ from hres) (by simp)
    | succ n3 ih3 =>
      intro v4 H locs ls hP hD hS hl hres
      rw [pX3_fitsAll_L3] at hres
      refine lv_iload hx hb dX3_fitsAll_3 (lv_at hl 4 rfl) ?_
      refine lv_aload_n hx hb dX3_fitsAll_5 rfl (lv_at hl 0 rfl) ?_
      refine va_get (D := D) (ci := 3) (v := .int sc_count) (C := RX3) (T := TX3) (N := 5) hx hb hts iw3 hown hK.1 hP 0 rfl rfl 2 (by decide) k0 (fun _ h9 => h9) rfl dX3_fitsAll_6 ?_
      refine lv_icmp_ge (tgt := 60) hx hb dX3_fitsAll_9 (by decide) (fun c1 => ?_) (fun c1 => ?_)
      · replace hres := og_t c1 hres
        refine lv_iconst (v := 1) hx hb dX3_fitsAll_60 (by decide) ?_
        have hres := Option.some.inj hres
        have h0 := hres
        subst h0
        exact hret _ _ _ _ (by decide) hP hD hS dX3_fitsAll_61
      · replace hres := og_f c1 hres
        refine lv_aload_n hx hb dX3_fitsAll_12 rfl (lv_at hl 0 rfl) ?_
        refine va_get (D := D) (ci := 3) (v := .ref sc_setsA) (C := RX3) (T := TX3) (N := 5) hx hb hts iw3 hown hK.1 hP 0 rfl rfl 0 (by decide) k1 (fun _ h9 => h9) rfl dX3_fitsAll_13 ?_
        refine lv_iload hx hb dX3_fitsAll_16 (lv_at hl 4 rfl) ?_
        obtain ⟨g2, hres⟩ := og_no hres
        refine kr_iald (f := sc_sets) (j := v4.toNatClampNeg) hx hb hK hP 1 rfl g2 rfl dX3_fitsAll_18 ?_
        refine lv_iload_n hx hb dX3_fitsAll_19 rfl (lv_at hl 1 rfl) ?_
        refine lv_ishr hx hb dX3_fitsAll_20 ?_
        refine lv_iconst (v := 1) hx hb dX3_fitsAll_21 (by decide) ?_
        refine lv_iand hx hb dX3_fitsAll_22 ?_
        refine lv_iload_n hx hb dX3_fitsAll_23 rfl (lv_at hl 2 rfl) ?_
        refine lv_imul hx hb dX3_fitsAll_24 ?_
        obtain ⟨y3, ey3, hres⟩ := kl_s hres
        refine kr_tope ey3 ?_
        refine lv_istore (lv' := [(5, .int y3), (0, .ref sco), (1, .int x1), (2, .int x2), (3, .int x3), (4, .int v4)]) hx hb dX3_fitsAll_25 hl (by decide) rfl (fun ls hl => ?_)
        refine lv_aload_n hx hb dX3_fitsAll_27 rfl (lv_at hl 1 rfl) ?_
        refine va_get (D := D) (ci := 3) (v := .ref sc_setsA) (C := RX3) (T := TX3) (N := 5) hx hb hts iw3 hown hK.1 hP 0 rfl rfl 0 (by decide) k1 (fun _ h9 => h9) rfl dX3_fitsAll_28 ?_
        refine lv_iload hx hb dX3_fitsAll_31 (lv_at hl 5 rfl) ?_
        refine kr_iald (f := sc_sets) (j := v4.toNatClampNeg) hx hb hK hP 1 rfl g2 rfl dX3_fitsAll_33 ?_
        obtain ⟨r4, hc5, hres⟩ := kb1_s hres
        refine krI_S0 (As := [.int (sc_sets v4.toNatClampNeg)]) (rest := []) ⟨hx, hb, hml, hown, hts⟩ hK (tJ6_bitCount_0f7a4 l D κ (sc_sets v4.toNatClampNeg) r4 hc5) (va_cwS 1 hts gX3_fitsAll_J6_bitCount_0f7a4 rfl rfl rfl (by decide +kernel) ⟨(Nat.le_of_ble_eq_true rfl), (Nat.le_of_ble_eq_true rfl)⟩) hP hD hS hA rfl hl.1 rfl (Nat.le_of_ble_eq_true rfl) dX3_fitsAll_34 ⟨Nat.zero_le _, Nat.zero_le _⟩ (fun H locs hP hD hS => ?_)
        refine lv_iload_n hx hb dX3_fitsAll_37 rfl (lv_at hl 4 rfl) ?_
        refine lv_imul hx hb dX3_fitsAll_38 ?_
        refine lv_iload hx hb dX3_fitsAll_39 (lv_at hl 0 rfl) ?_
        refine lv_isub hx hb dX3_fitsAll_41 ?_
        refine lv_aload_n hx hb dX3_fitsAll_42 rfl (lv_at hl 1 rfl) ?_
        refine va_get (D := D) (ci := 3) (v := .ref sc_weightsA) (C := RX3) (T := TX3) (N := 5) hx hb hts iw3 hown hK.1 hP 0 rfl rfl 1 (by decide) k2 (fun _ h9 => h9) rfl dX3_fitsAll_43 ?_
        refine lv_iload hx hb dX3_fitsAll_46 (lv_at hl 5 rfl) ?_
        refine kr_iald (f := sc_weights) (j := v4.toNatClampNeg) hx hb hK hP 2 rfl g2 rfl dX3_fitsAll_48 ?_
        refine lv_icmp_eq (tgt := 54) hx hb dX3_fitsAll_49 (by decide) (fun c6 => ?_) (fun c6 => ?_)
        · replace hres := og_t c6 hres
          refine lv_iinc (v := (v4 + 1)) (lv' := [(4, .int (v4 + 1)), (5, .int y3), (0, .ref sco), (1, .int x1), (2, .int x2), (3, .int x3)]) hx hb dX3_fitsAll_54 hl (k := 5) rfl rfl (by decide) rfl (fun ls hl => ?_)
          refine lv_goto (tgt := 3) hx hb dX3_fitsAll_57 (by decide) ?_
          exact ih3 (v4 + 1) _ _ _ hP hD hS (lv_sub hl [2, 3, 4, 5, 0] rfl) hres
        · replace hres := og_f c6 hres
          refine lv_iconst (v := 0) hx hb dX3_fitsAll_52 (by decide) ?_
          have hres := Option.some.inj hres
          have h0 := hres
          subst h0
          exact hret _ _ _ _ (by decide) hP hD hS dX3_fitsAll_53
  unfold pX3_fitsAll at hres
  refine lv_iconst (v := 0) hx hb dX3_fitsAll_0 (by decide) ?_
  refine lv_istore (lv' := [(4, .int 0), (0, .ref sco), (1, .int x1), (2, .int x2), (3, .int x3)]) hx hb dX3_fitsAll_1 hl (by decide) rfl (fun ls hl => ?_)
  exact L3 N 0 _ _ _ hP hD hS (lv_sub hl [1, 2, 3, 4, 0] rfl) hres

def pX3_findShort_L79 (k7 : Int32 → (Nat → Int32) → Int32 → Option ((Nat → Int32) × Int32)) (v2 : Int32) (w_sc_bagsShortBy : Nat → Int32) (w_sc_fits : Int32) : Option ((Nat → Int32) × Int32) :=
    k7 (v2 + 1) w_sc_bagsShortBy w_sc_fits
def pX3_findShort_L73 (k22 : Int32 → Int32 → (Nat → Int32) → Int32 → Option ((Nat → Int32) × Int32)) (k7 : Int32 → (Nat → Int32) → Int32 → Option ((Nat → Int32) × Int32)) (v2 : Int32) (v3 : Int32) (w_sc_bagsShortBy : Nat → Int32) (w_sc_fits : Int32) : Option ((Nat → Int32) × Int32) :=
    k22 v2 (v3 + 1) w_sc_bagsShortBy w_sc_fits
def pX3_findShort_L22 (k7 : Int32 → (Nat → Int32) → Int32 → Option ((Nat → Int32) × Int32)) (N : Nat) (sc_sets : Nat → Int32) (sc_weights : Nat → Int32) (sc_count : Int32) (tl_bags : Int32) (tl_bagMarks : Int32) : Nat → Int32 → Int32 → (Nat → Int32) → Int32 → Option ((Nat → Int32) × Int32)
  | 0, _, _, _, _ => none
  | n22 + 1, v2, v3, w_sc_bagsShortBy, w_sc_fits =>
    (if tl_bags ≤ v3 then
    pX3_findShort_L79 k7 v2 w_sc_bagsShortBy w_sc_fits
    else
    (if tl_bagMarks < v2 then
    pX3_findShort_L79 k7 v2 w_sc_bagsShortBy w_sc_fits
    else
    kb1 (pX3_fitsAll N v3 v2 tl_bagMarks sc_sets sc_weights sc_count) fun r3 =>
    (if r3 = 0 then
    pX3_findShort_L73 (pX3_findShort_L22 k7 N sc_sets sc_weights sc_count tl_bags tl_bagMarks n22) k7 v2 v3 w_sc_bagsShortBy w_sc_fits
    else
    if v2 < 0 ∨ 10 ≤ v2.toNatClampNeg then none else
    kl ((w_sc_bagsShortBy v2.toNatClampNeg) ||| ((1 : Int32) <<< (v3 &&& 31))) fun y7 =>
    pX3_findShort_L73 (pX3_findShort_L22 k7 N sc_sets sc_weights sc_count tl_bags tl_bagMarks n22) k7 v2 v3 (upd w_sc_bagsShortBy v2.toNatClampNeg y7) (w_sc_fits + 1))))
def pX3_findShort_L7 (N : Nat) (sc_sets : Nat → Int32) (sc_weights : Nat → Int32) (sc_count : Int32) (tl_bags : Int32) (tl_bagMarks : Int32) : Nat → Int32 → (Nat → Int32) → Int32 → Option ((Nat → Int32) × Int32)
  | 0, _, _, _ => none
  | n7 + 1, v2, w_sc_bagsShortBy, w_sc_fits =>
    (if 9 < v2 then
    some (w_sc_bagsShortBy, w_sc_fits)
    else
    if v2 < 0 ∨ 10 ≤ v2.toNatClampNeg then none else
    pX3_findShort_L22 (pX3_findShort_L7 N sc_sets sc_weights sc_count tl_bags tl_bagMarks n7) N sc_sets sc_weights sc_count tl_bags tl_bagMarks N v2 0 (upd w_sc_bagsShortBy v2.toNatClampNeg 0) w_sc_fits)
def pX3_findShort (N : Nat) (sc_sets : Nat → Int32) (sc_weights : Nat → Int32) (sc_count : Int32) (sc_bagsShortBy : Nat → Int32) (tl_bags : Int32) (tl_bagMarks : Int32) : Option ((Nat → Int32) × Int32) :=
    pX3_findShort_L7 N sc_sets sc_weights sc_count tl_bags tl_bagMarks N 1 sc_bagsShortBy 0
set_option maxHeartbeats 8000000 in
set_option maxRecDepth 100000 in
theorem tX3_findShort (l : Launch) (D : va_G) (κ : Nat → ClassId) (sco : Nat) (sc_setsA : Nat) (sc_weightsA : Nat) (sc_bagsShortByA : Nat) (tlo : Nat) (tl_goodsA : Nat) (tl_shyA : Nat) (tl_bidOfA : Nat) (tl_daysOfA : Nat) (N : Nat) (sc_sets : Nat → Int32) (sc_weights : Nat → Int32) (sc_count : Int32) (sc_bagsShortBy : Nat → Int32) (sc_fits : Int32) (tl_stands : Int32) (tl_price : Int32) (tl_death : Int32) (tl_payers : Int32) (tl_bids : Int32) (tl_hostages : Int32) (tl_bags : Int32) (tl_bagMarks : Int32) (tl_goods : Nat → Int32) (tl_shy : Nat → Int32) (tl_bidOf : Nat → Int32) (tl_daysOf : Nat → Int32) (z_sc_bagsShortBy : Nat → Int32) (z_sc_fits : Int32) (hres : pX3_findShort N sc_sets sc_weights sc_count sc_bagsShortBy tl_bags tl_bagMarks = some (z_sc_bagsShortBy, z_sc_fits)) : krV l yX3_findShort wsX3_findShort { frames := 2, cells := 0, slots := 0, locals := 200 } D κ [.ref sco, .ref tlo] ([(sco, .inr (3, [.ref sc_setsA, .ref sc_weightsA, .int sc_count, .ref sc_bagsShortByA, .int sc_fits])), (sc_setsA, .inl (κ 0, 6, .inl sc_sets)), (sc_weightsA, .inl (κ 0, 6, .inl sc_weights)), (sc_bagsShortByA, .inl (κ 0, 10, .inl sc_bagsShortBy)), (tlo, .inr (6, [.int tl_stands, .int tl_price, .int tl_death, .int tl_payers, .int tl_bids, .int tl_hostages, .int tl_bags, .int tl_bagMarks, .ref tl_goodsA, .ref tl_shyA, .ref tl_bidOfA, .ref tl_daysOfA])), (tl_goodsA, .inl (κ 0, 6, .inl tl_goods)), (tl_shyA, .inl (κ 0, 6, .inl tl_shy)), (tl_bidOfA, .inl (κ 0, 9, .inl tl_bidOf)), (tl_daysOfA, .inl (κ 0, 6, .inl tl_daysOf))]) ([(sco, .inr (3, [.ref sc_setsA, .ref sc_weightsA, .int sc_count, .ref sc_bagsShortByA, .int z_sc_fits])), (sc_setsA, .inl (κ 0, 6, .inl sc_sets)), (sc_weightsA, .inl (κ 0, 6, .inl sc_weights)), (sc_bagsShortByA, .inl (κ 0, 10, .inl z_sc_bagsShortBy)), (tlo, .inr (6, [.int tl_stands, .int tl_price, .int tl_death, .int tl_payers, .int tl_bids, .int tl_hostages, .int tl_bags, .int tl_bagMarks, .ref tl_goodsA, .ref tl_shyA, .ref tl_bidOfA, .ref tl_daysOfA])), (tl_goodsA, .inl (κ 0, 6, .inl tl_goods)), (tl_shyA, .inl (κ 0, 6, .inl tl_shy)), (tl_bidOfA, .inl (κ 0, 9, .inl tl_bidOf)), (tl_daysOfA, .inl (κ 0, 6, .inl tl_daysOf))]) := by
  refine krV_of (cc := cX3_findShort) (maxL := 4) (by decide) rfl (Nat.le_of_ble_eq_true rfl) ?_
  intro p e s m args below meth c A Q ls hx hb hml hown hts hK hA hret hP hD hS hl
  have hown : s.vm.findClass RX3 = some m.cls := hown
  have hl : lv_has ls 4 [(0, .ref sco), (1, .ref tlo)] := hl
  have iw3 : ∀ w ∈ u_ws RX3 TX3 5, w ∈ wsX3_findShort := (fun _ h => List.mem_cons_of_mem _ (List.mem_append_left _ (List.mem_append_right _ h)))
  have iw6 : ∀ w ∈ u_ws RX6 TX6 12, w ∈ wsX3_findShort := (fun _ h => List.mem_cons_of_mem _ (List.mem_append_right _ h))
  have k0 : (Cond.fieldLink RX3 25 "KingRansom$Scales" "fits" "I").before args s = true := hts _ (List.mem_of_getElem? (i := 1) rfl)
  have k1 : (Cond.fieldLink RX3 18 "KingRansom$Scales" "bagsShortBy" "[I").before args s = true := hts _ (List.mem_of_getElem? (i := 2) rfl)
  have L7 : ∀ (n7 : Nat) (v2 : Int32) (w_sc_bagsShortBy : Nat → Int32) (w_sc_fits : Int32) (H : Heap) (locs : List Loc) (ls : Array Slot), va_P D vwCl ([(sco, .inr (3, [.ref sc_setsA, .ref sc_weightsA, .int sc_count, .ref sc_bagsShortByA, .int w_sc_fits])), (sc_setsA, .inl (κ 0, 6, .inl sc_sets)), (sc_weightsA, .inl (κ 0, 6, .inl sc_weights)), (sc_bagsShortByA, .inl (κ 0, 10, .inl w_sc_bagsShortBy)), (tlo, .inr (6, [.int tl_stands, .int tl_price, .int tl_death, .int tl_payers, .int tl_bids, .int tl_hostages, .int tl_bags, .int tl_bagMarks, .ref tl_goodsA, .ref tl_shyA, .ref tl_bidOfA, .ref tl_daysOfA])), (tl_goodsA, .inl (κ 0, 6, .inl tl_goods)), (tl_shyA, .inl (κ 0, 6, .inl tl_shy)), (tl_bidOfA, .inl (κ 0, 9, .inl tl_bidOf)), (tl_daysOfA, .inl (κ 0, 6, .inl tl_daysOf))]) H → va_D A ([(sco, .inr (3, [.ref sc_setsA, .ref sc_weightsA, .int sc_count, .ref sc_bagsShortByA, .int w_sc_fits])), (sc_setsA, .inl (κ 0, 6, .inl sc_sets)), (sc_weightsA, .inl (κ 0, 6, .inl sc_weights)), (sc_bagsShortByA, .inl (κ 0, 10, .inl w_sc_bagsShortBy)), (tlo, .inr (6, [.int tl_stands, .int tl_price, .int tl_death, .int tl_payers, .int tl_bids, .int tl_hostages, .int tl_bags, .int tl_bagMarks, .ref tl_goodsA, .ref tl_shyA, .ref tl_bidOfA, .ref tl_daysOfA])), (tl_goodsA, .inl (κ 0, 6, .inl tl_goods)), (tl_shyA, .inl (κ 0, 6, .inl tl_shy)), (tl_bidOfA, .inl (κ 0, 9, .inl tl_bidOf)), (tl_daysOfA, .inl (κ 0, 6, .inl tl_daysOf))]) → va_S A s.heap H locs → lv_has ls 4 [(0, .ref sco), (1, .ref tlo), (2, .int v2)] → pX3_findShort_L7 N sc_sets sc_weights sc_count tl_bags tl_bagMarks n7 v2 w_sc_bagsShortBy w_sc_fits = some (z_sc_bagsShortBy, z_sc_fits) → W p l e { frames := 2, cells := 0, slots := 0, locals := 200 } s m args below meth c H locs 0 0 Q (F0 m 7 ls []) := by
    intro n7
    induction n7 with
    | zero =>
      intro v2 w_sc_bagsShortBy w_sc_fits H locs ls hP hD hS hl hres
      exact absurd (show none = some _ from hres) (by simp)
    | succ n7 ih7 =>
      intro v2 w_sc_bagsShortBy w_sc_fits H locs ls hP hD hS hl hres
      have L79 : ∀ (v2 : Int32) (w_sc_bagsShortBy : Nat → Int32) (w_sc_fits : Int32) (H : Heap) (locs : List Loc) (ls : Array Slot), va_P D vwCl ([(sco, .inr (3, [.ref sc_setsA, .ref sc_weightsA, .int sc_count, .ref sc_bagsShortByA, .int w_sc_fits])), (sc_setsA, .inl (κ 0, 6, .inl sc_sets)), (sc_weightsA, .inl (κ 0, 6, .inl sc_weights)), (sc_bagsShortByA, .inl (κ 0, 10, .inl w_sc_bagsShortBy)), (tlo, .inr (6, [.int tl_stands, .int tl_price, .int tl_death, .int tl_payers, .int tl_bids, .int tl_hostages, .int tl_bags, .int tl_bagMarks, .ref tl_goodsA, .ref tl_shyA, .ref tl_bidOfA, .ref tl_daysOfA])), (tl_goodsA, .inl (κ 0, 6, .inl tl_goods)), (tl_shyA, .inl (κ 0, 6, .inl tl_shy)), (tl_bidOfA, .inl (κ 0, 9, .inl tl_bidOf)), (tl_daysOfA, .inl (κ 0, 6, .inl tl_daysOf))]) H → va_D A ([(sco, .inr (3, [.ref sc_setsA, .ref sc_weightsA, .int sc_count, .ref sc_bagsShortByA, .int w_sc_fits])), (sc_setsA, .inl (κ 0, 6, .inl sc_sets)), (sc_weightsA, .inl (κ 0, 6, .inl sc_weights)), (sc_bagsShortByA, .inl (κ 0, 10, .inl w_sc_bagsShortBy)), (tlo, .inr (6, [.int tl_stands, .int tl_price, .int tl_death, .int tl_payers, .int tl_bids, .int tl_hostages, .int tl_bags, .int tl_bagMarks, .ref tl_goodsA, .ref tl_shyA, .ref tl_bidOfA, .ref tl_daysOfA])), (tl_goodsA, .inl (κ 0, 6, .inl tl_goods)), (tl_shyA, .inl (κ 0, 6, .inl tl_shy)), (tl_bidOfA, .inl (κ 0, 9, .inl tl_bidOf)), (tl_daysOfA, .inl (κ 0, 6, .inl tl_daysOf))]) → va_S A s.heap H locs → lv_has ls 4 [(0, .ref sco), (1, .ref tlo), (2, .int v2)] → pX3_findShort_L79 (pX3_findShort_L7 N sc_sets sc_weights sc_count tl_bags tl_bagMarks n7) v2 w_sc_bagsShortBy w_sc_fits = some (z_sc_bagsShortBy, z_sc_fits) → W p l e { frames := 2, cells := 0, slots := 0, locals := 200 } s m args below meth c H locs 0 0 Q (F0 m 79 ls []) := by
        intro v2 w_sc_bagsShortBy w_sc_fits H locs ls hP hD hS hl hres
        unfold pX3_findShort_L79 at hres
        refine lv_iinc (v := (v2 + 1)) (lv' := [(2, .int (v2 + 1)), (0, .ref sco), (1, .ref tlo)]) hx hb dX3_findShort_79 hl (k := 2) rfl rfl (by decide) rfl (fun ls hl => ?_)
        refine lv_goto (tgt := 7) hx hb dX3_findShort_82 (by decide) ?_
        exact ih7 (v2 + 1) w_sc_bagsShortBy w_sc_fits _ _ _ hP hD hS (lv_sub hl [1, 2, 0] rfl) hres
      have L22 : ∀ (n22 : Nat) (v2 : Int32) (v3 : Int32) (w_sc_bagsShortBy : Nat → Int32) (w_sc_fits : Int32) (H : Heap) (locs : List Loc) (ls : Array Slot), va_P D vwCl ([(sco, .inr (3, [.ref sc_setsA, .ref sc_weightsA, .int sc_count, .ref sc_bagsShortByA, .int w_sc_fits])), (sc_setsA, .inl (κ 0, 6, .inl sc_sets)), (sc_weightsA, .inl (κ 0, 6, .inl sc_weights)), (sc_bagsShortByA, .inl (κ 0, 10, .inl w_sc_bagsShortBy)), (tlo, .inr (6, [.int tl_stands, .int tl_price, .int tl_death, .int tl_payers, .int tl_bids, .int tl_hostages, .int tl_bags, .int tl_bagMarks, .ref tl_goodsA, .ref tl_shyA, .ref tl_bidOfA, .ref tl_daysOfA])), (tl_goodsA, .inl (κ 0, 6, .inl tl_goods)), (tl_shyA, .inl (κ 0, 6, .inl tl_shy)), (tl_bidOfA, .inl (κ 0, 9, .inl tl_bidOf)), (tl_daysOfA, .inl (κ 0, 6, .inl tl_daysOf))]) H → va_D A ([(sco, .inr (3, [.ref sc_setsA, .ref sc_weightsA, .int sc_count, .ref sc_bagsShortByA, .int w_sc_fits])), (sc_setsA, .inl (κ 0, 6, .inl sc_sets)), (sc_weightsA, .inl (κ 0, 6, .inl sc_weights)), (sc_bagsShortByA, .inl (κ 0, 10, .inl w_sc_bagsShortBy)), (tlo, .inr (6, [.int tl_stands, .int tl_price, .int tl_death, .int tl_payers, .int tl_bids, .int tl_hostages, .int tl_bags, .int tl_bagMarks, .ref tl_goodsA, .ref tl_shyA, .ref tl_bidOfA, .ref tl_daysOfA])), (tl_goodsA, .inl (κ 0, 6, .inl tl_goods)), (tl_shyA, .inl (κ 0, 6, .inl tl_shy)), (tl_bidOfA, .inl (κ 0, 9, .inl tl_bidOf)), (tl_daysOfA, .inl (κ 0, 6, .inl tl_daysOf))]) → va_S A s.heap H locs → lv_has ls 4 [(0, .ref sco), (1, .ref tlo), (2, .int v2), (3, .int v3)] → pX3_findShort_L22 (pX3_findShort_L7 N sc_sets sc_weights sc_count tl_bags tl_bagMarks n7) N sc_sets sc_weights sc_count tl_bags tl_bagMarks n22 v2 v3 w_sc_bagsShortBy w_sc_fits = some (z_sc_bagsShortBy, z_sc_fits) → W p l e { frames := 2, cells := 0, slots := 0, locals := 200 } s m args below meth c H locs 0 0 Q (F0 m 22 ls []) := by
        intro n22
        induction n22 with
        | zero =>
          intro v2 v3 w_sc_bagsShortBy w_sc_fits H locs ls hP hD hS hl hres
          exact absurd (show none = some _ from hres) (by simp)
        | succ n22 ih22 =>
          intro v2 v3 w_sc_bagsShortBy w_sc_fits H locs ls hP hD hS hl hres
          have L73 : ∀ (v2 : Int32) (v3 : Int32) (w_sc_bagsShortBy : Nat → Int32) (w_sc_fits : Int32) (H : Heap) (locs : List Loc) (ls : Array Slot), va_P D vwCl ([(sco, .inr (3, [.ref sc_setsA, .ref sc_weightsA, .int sc_count, .ref sc_bagsShortByA, .int w_sc_fits])), (sc_setsA, .inl (κ 0, 6, .inl sc_sets)), (sc_weightsA, .inl (κ 0, 6, .inl sc_weights)), (sc_bagsShortByA, .inl (κ 0, 10, .inl w_sc_bagsShortBy)), (tlo, .inr (6, [.int tl_stands, .int tl_price, .int tl_death, .int tl_payers, .int tl_bids, .int tl_hostages, .int tl_bags, .int tl_bagMarks, .ref tl_goodsA, .ref tl_shyA, .ref tl_bidOfA, .ref tl_daysOfA])), (tl_goodsA, .inl (κ 0, 6, .inl tl_goods)), (tl_shyA, .inl (κ 0, 6, .inl tl_shy)), (tl_bidOfA, .inl (κ 0, 9, .inl tl_bidOf)), (tl_daysOfA, .inl (κ 0, 6, .inl tl_daysOf))]) H → va_D A ([(sco, .inr (3, [.ref sc_setsA, .ref sc_weightsA, .int sc_count, .ref sc_bagsShortByA, .int w_sc_fits])), (sc_setsA, .inl (κ 0, 6, .inl sc_sets)), (sc_weightsA, .inl (κ 0, 6, .inl sc_weights)), (sc_bagsShortByA, .inl (κ 0, 10, .inl w_sc_bagsShortBy)), (tlo, .inr (6, [.int tl_stands, .int tl_price, .int tl_death, .int tl_payers, .int tl_bids, .int tl_hostages, .int tl_bags, .int tl_bagMarks, .ref tl_goodsA, .ref tl_shyA, .ref tl_bidOfA, .ref tl_daysOfA])), (tl_goodsA, .inl (κ 0, 6, .inl tl_goods)), (tl_shyA, .inl (κ 0, 6, .inl tl_shy)), (tl_bidOfA, .inl (κ 0, 9, .inl tl_bidOf)), (tl_daysOfA, .inl (κ 0, 6, .inl tl_daysOf))]) → va_S A s.heap H locs → lv_has ls 4 [(0, .ref sco), (1, .ref tlo), (2, .int v2), (3, .int v3)] → pX3_findShort_L73 (pX3_findShort_L22 (pX3_findShort_L7 N sc_sets sc_weights sc_count tl_bags tl_bagMarks n7) N sc_sets sc_weights sc_count tl_bags tl_bagMarks n22) (pX3_findShort_L7 N sc_sets sc_weights sc_count tl_bags tl_bagMarks n7) v2 v3 w_sc_bagsShortBy w_sc_fits = some (z_sc_bagsShortBy, z_sc_fits) → W p l e { frames := 2, cells := 0, slots := 0, locals := 200 } s m args below meth c H locs 0 0 Q (F0 m 73 ls []) := by
            intro v2 v3 w_sc_bagsShortBy w_sc_fits H locs ls hP hD hS hl hres
            unfold pX3_findShort_L73 at hres
            refine lv_iinc (v := (v3 + 1)) (lv' := [(3, .int (v3 + 1)), (0, .ref sco), (1, .ref tlo), (2, .int v2)]) hx hb dX3_findShort_73 hl (k := 3) rfl rfl (by decide) rfl (fun ls hl => ?_)
            refine lv_goto (tgt := 22) hx hb dX3_findShort_76 (by decide) ?_
            exact ih22 v2 (v3 + 1) w_sc_bagsShortBy w_sc_fits _ _ _ hP hD hS (lv_sub hl [1, 2, 3, 0] rfl) hres
          rw [pX3_findShort_L22] at hres
          refine lv_iload_n hx hb dX3_findShort_22 rfl (lv_at hl 3 rfl) ?_
          refine lv_aload_n hx hb dX3_findShort_23 rfl (lv_at hl 1 rfl) ?_
          refine va_getN (D := D) (ci := 6) (v := .int tl_bags) (C := RX6) (T := TX6) (N := 12) hx hb hts iw6 hown hK.1 hP 4 rfl rfl 6 (by decide) (hK.fl 17 rfl) (fun _ h9 => h9) rfl dX3_findShort_24 ?_
          refine lv_icmp_ge (tgt := 79) hx hb dX3_findShort_27 (by decide) (fun c1 => ?_) (fun c1 => ?_)
          · replace hres := og_t c1 hres
            exact L79 v2 w_sc_bagsShortBy w_sc_fits _ _ _ hP hD hS (lv_sub hl [0, 1, 2] rfl) hres
          · replace hres := og_f c1 hres
            refine lv_iload_n hx hb dX3_findShort_30 rfl (lv_at hl 2 rfl) ?_
            refine lv_aload_n hx hb dX3_findShort_31 rfl (lv_at hl 1 rfl) ?_
            refine va_getN (D := D) (ci := 6) (v := .int tl_bagMarks) (C := RX6) (T := TX6) (N := 12) hx hb hts iw6 hown hK.1 hP 4 rfl rfl 7 (by decide) (hK.fl 20 rfl) (fun _ h9 => h9) rfl dX3_findShort_32 ?_
            refine lv_icmp_gt (tgt := 79) hx hb dX3_findShort_35 (by decide) (fun c2 => ?_) (fun c2 => ?_)
            · replace hres := og_t c2 hres
              exact L79 v2 w_sc_bagsShortBy w_sc_fits _ _ _ hP hD hS (lv_sub hl [0, 1, 2] rfl) hres
            · replace hres := og_f c2 hres
              refine lv_aload_n hx hb dX3_findShort_38 rfl (lv_at hl 0 rfl) ?_
              refine lv_iload_n hx hb dX3_findShort_39 rfl (lv_at hl 3 rfl) ?_
              refine lv_iload_n hx hb dX3_findShort_40 rfl (lv_at hl 2 rfl) ?_
              refine lv_aload_n hx hb dX3_findShort_41 rfl (lv_at hl 1 rfl) ?_
              refine va_getN (D := D) (ci := 6) (v := .int tl_bagMarks) (C := RX6) (T := TX6) (N := 12) hx hb hts iw6 hown hK.1 hP 4 rfl rfl 7 (by decide) (hK.fl 20 rfl) (fun _ h9 => h9) rfl dX3_findShort_42 ?_
              obtain ⟨r3, hc4, hres⟩ := kb1_s hres
              refine krI_V (As := [.int v3, .int v2, .int tl_bagMarks]) (rest := []) (wr := [(tlo, .inr (6, [.int tl_stands, .int tl_price, .int tl_death, .int tl_payers, .int tl_bids, .int tl_hostages, .int tl_bags, .int tl_bagMarks, .ref tl_goodsA, .ref tl_shyA, .ref tl_bidOfA, .ref tl_daysOfA])), (tl_goodsA, .inl (κ 0, 6, .inl tl_goods)), (tl_shyA, .inl (κ 0, 6, .inl tl_shy)), (tl_bidOfA, .inl (κ 0, 9, .inl tl_bidOf)), (tl_daysOfA, .inl (κ 0, 6, .inl tl_daysOf))]) ⟨hx, hb, hml, hown, hts⟩ hK (tX3_fitsAll l D κ sco sc_setsA sc_weightsA sc_bagsShortByA N sc_sets sc_weights sc_count w_sc_bagsShortBy w_sc_fits v3 v2 tl_bagMarks r3 hc4) (cwV 3 hts gX3_findShort_X3_fitsAll rfl rfl rfl (by decide +kernel) ⟨(Nat.le_of_ble_eq_true rfl), (Nat.le_of_ble_eq_true rfl)⟩) rfl rfl rfl hP hD hS hA [0, 1, 2, 3] [4, 5, 6, 7, 8] rfl rfl rfl rfl (by decide) rfl hl.1 rfl (Nat.le_of_ble_eq_true rfl) dX3_findShort_45 ⟨Nat.zero_le _, Nat.zero_le _⟩ (fun H locs hP hD hS => ?_)
              have hP : va_P D vwCl ([(tlo, .inr (6, [.int tl_stands, .int tl_price, .int tl_death, .int tl_payers, .int tl_bids, .int tl_hostages, .int tl_bags, .int tl_bagMarks, .ref tl_goodsA, .ref tl_shyA, .ref tl_bidOfA, .ref tl_daysOfA])), (tl_goodsA, .inl (κ 0, 6, .inl tl_goods)), (tl_shyA, .inl (κ 0, 6, .inl tl_shy)), (tl_bidOfA, .inl (κ 0, 9, .inl tl_bidOf)), (tl_daysOfA, .inl (κ 0, 6, .inl tl_daysOf)), (sco, .inr (3, [.ref sc_setsA, .ref sc_weightsA, .int sc_count, .ref sc_bagsShortByA, .int w_sc_fits])), (sc_setsA, .inl (κ 0, 6, .inl sc_sets)), (sc_weightsA, .inl (κ 0, 6, .inl sc_weights)), (sc_bagsShortByA, .inl (κ 0, 10, .inl w_sc_bagsShortBy))]) H := hP
              have hD : va_D A ([(tlo, .inr (6, [.int tl_stands, .int tl_price, .int tl_death, .int tl_payers, .int tl_bids, .int tl_hostages, .int tl_bags, .int tl_bagMarks, .ref tl_goodsA, .ref tl_shyA, .ref tl_bidOfA, .ref tl_daysOfA])), (tl_goodsA, .inl (κ 0, 6, .inl tl_goods)), (tl_shyA, .inl (κ 0, 6, .inl tl_shy)), (tl_bidOfA, .inl (κ 0, 9, .inl tl_bidOf)), (tl_daysOfA, .inl (κ 0, 6, .inl tl_daysOf)), (sco, .inr (3, [.ref sc_setsA, .ref sc_weightsA, .int sc_count, .ref sc_bagsShortByA, .int w_sc_fits])), (sc_setsA, .inl (κ 0, 6, .inl sc_sets)), (sc_weightsA, .inl (κ 0, 6, .inl sc_weights)), (sc_bagsShortByA, .inl (κ 0, 10, .inl w_sc_bagsShortBy))]) := hD
              refine lv_if_eq (tgt := 73) hx hb dX3_findShort_48 (by decide) (fun c5 => ?_) (fun c5 => ?_)
              · replace hres := og_t c5 hres
                exact L73 v2 v3 w_sc_bagsShortBy w_sc_fits _ _ _ (hP.sub [5, 6, 7, 8, 0, 1, 2, 3, 4] rfl) (hD.sub [5, 6, 7, 8, 0, 1, 2, 3, 4] (by decide) rfl) hS (lv_sub hl [0, 1, 2, 3] rfl) hres
              · replace hres := og_f c5 hres
                refine lv_aload_n hx hb dX3_findShort_51 rfl (lv_at hl 0 rfl) ?_
                refine va_get (D := D) (ci := 3) (v := .ref sc_bagsShortByA) (C := RX3) (T := TX3) (N := 5) hx hb hts iw3 hown hK.1 hP 5 rfl rfl 3 (by decide) k1 (fun _ h9 => h9) rfl dX3_findShort_52 ?_
                refine lv_iload_n hx hb dX3_findShort_55 rfl (lv_at hl 2 rfl) ?_
                refine lv_dup2_11 hx hb dX3_findShort_56 rfl rfl ?_
                obtain ⟨g6, hres⟩ := og_no hres
                refine kr_iald (f := w_sc_bagsShortBy) (j := v2.toNatClampNeg) hx hb hK hP 8 rfl g6 rfl dX3_findShort_57 ?_
                refine lv_iconst (v := 1) hx hb dX3_findShort_58 (by decide) ?_
                refine lv_iload_n hx hb dX3_findShort_59 rfl (lv_at hl 3 rfl) ?_
                refine lv_ishl hx hb dX3_findShort_60 ?_
                refine lv_ior hx hb dX3_findShort_61 ?_
                obtain ⟨y7, ey7, hres⟩ := kl_s hres
                refine kr_tope ey7 ?_
                refine kr_iast (f := w_sc_bagsShortBy) (j := v2.toNatClampNeg) (x := y7) hx hb hK hP hD hS 8 rfl g6 rfl dX3_findShort_62 (fun H locs hP hD hS => ?_)
                have hP : va_P D vwCl ([(tlo, .inr (6, [.int tl_stands, .int tl_price, .int tl_death, .int tl_payers, .int tl_bids, .int tl_hostages, .int tl_bags, .int tl_bagMarks, .ref tl_goodsA, .ref tl_shyA, .ref tl_bidOfA, .ref tl_daysOfA])), (tl_goodsA, .inl (κ 0, 6, .inl tl_goods)), (tl_shyA, .inl (κ 0, 6, .inl tl_shy)), (tl_bidOfA, .inl (κ 0, 9, .inl tl_bidOf)), (tl_daysOfA, .inl (κ 0, 6, .inl tl_daysOf)), (sco, .inr (3, [.ref sc_setsA, .ref sc_weightsA, .int sc_count, .ref sc_bagsShortByA, .int w_sc_fits])), (sc_setsA, .inl (κ 0, 6, .inl sc_sets)), (sc_weightsA, .inl (κ 0, 6, .inl sc_weights)), (sc_bagsShortByA, .inl (κ 0, 10, .inl (upd w_sc_bagsShortBy v2.toNatClampNeg y7)))]) H := hP
                have hD : va_D A ([(tlo, .inr (6, [.int tl_stands, .int tl_price, .int tl_death, .int tl_payers, .int tl_bids, .int tl_hostages, .int tl_bags, .int tl_bagMarks, .ref tl_goodsA, .ref tl_shyA, .ref tl_bidOfA, .ref tl_daysOfA])), (tl_goodsA, .inl (κ 0, 6, .inl tl_goods)), (tl_shyA, .inl (κ 0, 6, .inl tl_shy)), (tl_bidOfA, .inl (κ 0, 9, .inl tl_bidOf)), (tl_daysOfA, .inl (κ 0, 6, .inl tl_daysOf)), (sco, .inr (3, [.ref sc_setsA, .ref sc_weightsA, .int sc_count, .ref sc_bagsShortByA, .int w_sc_fits])), (sc_setsA, .inl (κ 0, 6, .inl sc_sets)), (sc_weightsA, .inl (κ 0, 6, .inl sc_weights)), (sc_bagsShortByA, .inl (κ 0, 10, .inl (upd w_sc_bagsShortBy v2.toNatClampNeg y7)))]) := hD
                refine lv_aload_n hx hb dX3_findShort_63 rfl (lv_at hl 0 rfl) ?_
                refine lv_dup hx hb dX3_findShort_64 rfl ?_
                refine va_get (D := D) (ci := 3) (v := .int w_sc_fits) (C := RX3) (T := TX3) (N := 5) hx hb hts iw3 hown hK.1 hP 5 rfl rfl 4 (by decide) k0 (fun _ h9 => h9) rfl dX3_findShort_65 ?_
                refine lv_iconst (v := 1) hx hb dX3_findShort_68 (by decide) ?_
                refine lv_iadd hx hb dX3_findShort_69 ?_
                refine va_put (D := D) (ci := 3) (v := .int (w_sc_fits + 1)) (ty := .int) (C := RX3) (T := TX3) (N := 5) hx hb hts iw3 tyX3 tyX3_ok nmX3 hown hK.1 hP hD hS 5 rfl rfl 4 (by decide) k0 (fun _ h9 => h9) rfl (tyX3_ok 4 (by decide)) rfl rfl (Nat.le_of_ble_eq_true rfl) dX3_findShort_70 (fun H locs hP hD hS => ?_)
                have hP : va_P D vwCl ([(tlo, .inr (6, [.int tl_stands, .int tl_price, .int tl_death, .int tl_payers, .int tl_bids, .int tl_hostages, .int tl_bags, .int tl_bagMarks, .ref tl_goodsA, .ref tl_shyA, .ref tl_bidOfA, .ref tl_daysOfA])), (tl_goodsA, .inl (κ 0, 6, .inl tl_goods)), (tl_shyA, .inl (κ 0, 6, .inl tl_shy)), (tl_bidOfA, .inl (κ 0, 9, .inl tl_bidOf)), (tl_daysOfA, .inl (κ 0, 6, .inl tl_daysOf)), (sco, .inr (3, [.ref sc_setsA, .ref sc_weightsA, .int sc_count, .ref sc_bagsShortByA, .int (w_sc_fits + 1)])), (sc_setsA, .inl (κ 0, 6, .inl sc_sets)), (sc_weightsA, .inl (κ 0, 6, .inl sc_weights)), (sc_bagsShortByA, .inl (κ 0, 10, .inl (upd w_sc_bagsShortBy v2.toNatClampNeg y7)))]) H := hP
                have hD : va_D A ([(tlo, .inr (6, [.int tl_stands, .int tl_price, .int tl_death, .int tl_payers, .int tl_bids, .int tl_hostages, .int tl_bags, .int tl_bagMarks, .ref tl_goodsA, .ref tl_shyA, .ref tl_bidOfA, .ref tl_daysOfA])), (tl_goodsA, .inl (κ 0, 6, .inl tl_goods)), (tl_shyA, .inl (κ 0, 6, .inl tl_shy)), (tl_bidOfA, .inl (κ 0, 9, .inl tl_bidOf)), (tl_daysOfA, .inl (κ 0, 6, .inl tl_daysOf)), (sco, .inr (3, [.ref sc_setsA, .ref sc_weightsA, .int sc_count, .ref sc_bagsShortByA, .int (w_sc_fits + 1)])), (sc_setsA, .inl (κ 0, 6, .inl sc_sets)), (sc_weightsA, .inl (κ 0, 6, .inl sc_weights)), (sc_bagsShortByA, .inl (κ 0, 10, .inl (upd w_sc_bagsShortBy v2.toNatClampNeg y7)))]) := hD
                exact L73 v2 v3 (upd w_sc_bagsShortBy v2.toNatClampNeg y7) (w_sc_fits + 1) _ _ _ (hP.sub [5, 6, 7, 8, 0, 1, 2, 3, 4] rfl) (hD.sub [5, 6, 7, 8, 0, 1, 2, 3, 4] (by decide) rfl) hS (lv_sub hl [0, 1, 2, 3] rfl) hres
      rw [pX3_findShort_L7] at hres
      refine lv_iload_n hx hb dX3_findShort_7 rfl (lv_at hl 2 rfl) ?_
      refine lv_bipush (v := 9) hx hb dX3_findShort_8 (by decide) ?_
      refine lv_icmp_gt (tgt := 85) hx hb dX3_findShort_10 (by decide) (fun c8 => ?_) (fun c8 => ?_)
      · replace hres := og_t c8 hres
        have hres := Option.some.inj hres
        have h0 := (Prod.mk.inj hres).1
        replace hres := (Prod.mk.inj hres).2
        have h1 := hres
        subst h0
        subst h1
        exact hret _ _ _ _ hP hD hS dX3_findShort_85
      · replace hres := og_f c8 hres
        refine lv_aload_n hx hb dX3_findShort_13 rfl (lv_at hl 0 rfl) ?_
        refine va_get (D := D) (ci := 3) (v := .ref sc_bagsShortByA) (C := RX3) (T := TX3) (N := 5) hx hb hts iw3 hown hK.1 hP 0 rfl rfl 3 (by decide) k1 (fun _ h9 => h9) rfl dX3_findShort_14 ?_
        refine lv_iload_n hx hb dX3_findShort_17 rfl (lv_at hl 2 rfl) ?_
        refine lv_iconst (v := 0) hx hb dX3_findShort_18 (by decide) ?_
        obtain ⟨g9, hres⟩ := og_no hres
        refine kr_iast (f := w_sc_bagsShortBy) (j := v2.toNatClampNeg) (x := 0) hx hb hK hP hD hS 3 rfl g9 rfl dX3_findShort_19 (fun H locs hP hD hS => ?_)
        have hP : va_P D vwCl ([(sco, .inr (3, [.ref sc_setsA, .ref sc_weightsA, .int sc_count, .ref sc_bagsShortByA, .int w_sc_fits])), (sc_setsA, .inl (κ 0, 6, .inl sc_sets)), (sc_weightsA, .inl (κ 0, 6, .inl sc_weights)), (sc_bagsShortByA, .inl (κ 0, 10, .inl (upd w_sc_bagsShortBy v2.toNatClampNeg 0))), (tlo, .inr (6, [.int tl_stands, .int tl_price, .int tl_death, .int tl_payers, .int tl_bids, .int tl_hostages, .int tl_bags, .int tl_bagMarks, .ref tl_goodsA, .ref tl_shyA, .ref tl_bidOfA, .ref tl_daysOfA])), (tl_goodsA, .inl (κ 0, 6, .inl tl_goods)), (tl_shyA, .inl (κ 0, 6, .inl tl_shy)), (tl_bidOfA, .inl (κ 0, 9, .inl tl_bidOf)), (tl_daysOfA, .inl (κ 0, 6, .inl tl_daysOf))]) H := hP
        have hD : va_D A ([(sco, .inr (3, [.ref sc_setsA, .ref sc_weightsA, .int sc_count, .ref sc_bagsShortByA, .int w_sc_fits])), (sc_setsA, .inl (κ 0, 6, .inl sc_sets)), (sc_weightsA, .inl (κ 0, 6, .inl sc_weights)), (sc_bagsShortByA, .inl (κ 0, 10, .inl (upd w_sc_bagsShortBy v2.toNatClampNeg 0))), (tlo, .inr (6, [.int tl_stands, .int tl_price, .int tl_death, .int tl_payers, .int tl_bids, .int tl_hostages, .int tl_bags, .int tl_bagMarks, .ref tl_goodsA, .ref tl_shyA, .ref tl_bidOfA, .ref tl_daysOfA])), (tl_goodsA, .inl (κ 0, 6, .inl tl_goods)), (tl_shyA, .inl (κ 0, 6, .inl tl_shy)), (tl_bidOfA, .inl (κ 0, 9, .inl tl_bidOf)), (tl_daysOfA, .inl (κ 0, 6, .inl tl_daysOf))]) := hD
        refine lv_iconst (v := 0) hx hb dX3_findShort_20 (by decide) ?_
        refine lv_istore_n (lv' := [(3, .int 0), (0, .ref sco), (1, .ref tlo), (2, .int v2)]) hx hb dX3_findShort_21 rfl hl (by decide) rfl (fun ls hl => ?_)
        exact L22 N v2 0 (upd w_sc_bagsShortBy v2.toNatClampNeg 0) w_sc_fits _ _ _ hP hD hS (lv_sub hl [1, 2, 3, 0] rfl) hres
  unfold pX3_findShort at hres
  refine lv_aload_n hx hb dX3_findShort_0 rfl (lv_at hl 0 rfl) ?_
  refine lv_iconst (v := 0) hx hb dX3_findShort_1 (by decide) ?_
  refine va_put (D := D) (ci := 3) (v := .int 0) (ty := .int) (C := RX3) (T := TX3) (N := 5) hx hb hts iw3 tyX3 tyX3_ok nmX3 hown hK.1 hP hD hS 0 rfl rfl 4 (by decide) k0 (fun _ h9 => h9) rfl (tyX3_ok 4 (by decide)) rfl rfl (Nat.le_of_ble_eq_true rfl) dX3_findShort_2 (fun H locs hP hD hS => ?_)
  have hP : va_P D vwCl ([(sco, .inr (3, [.ref sc_setsA, .ref sc_weightsA, .int sc_count, .ref sc_bagsShortByA, .int 0])), (sc_setsA, .inl (κ 0, 6, .inl sc_sets)), (sc_weightsA, .inl (κ 0, 6, .inl sc_weights)), (sc_bagsShortByA, .inl (κ 0, 10, .inl sc_bagsShortBy)), (tlo, .inr (6, [.int tl_stands, .int tl_price, .int tl_death, .int tl_payers, .int tl_bids, .int tl_hostages, .int tl_bags, .int tl_bagMarks, .ref tl_goodsA, .ref tl_shyA, .ref tl_bidOfA, .ref tl_daysOfA])), (tl_goodsA, .inl (κ 0, 6, .inl tl_goods)), (tl_shyA, .inl (κ 0, 6, .inl tl_shy)), (tl_bidOfA, .inl (κ 0, 9, .inl tl_bidOf)), (tl_daysOfA, .inl (κ 0, 6, .inl tl_daysOf))]) H := hP
  have hD : va_D A ([(sco, .inr (3, [.ref sc_setsA, .ref sc_weightsA, .int sc_count, .ref sc_bagsShortByA, .int 0])), (sc_setsA, .inl (κ 0, 6, .inl sc_sets)), (sc_weightsA, .inl (κ 0, 6, .inl sc_weights)), (sc_bagsShortByA, .inl (κ 0, 10, .inl sc_bagsShortBy)), (tlo, .inr (6, [.int tl_stands, .int tl_price, .int tl_death, .int tl_payers, .int tl_bids, .int tl_hostages, .int tl_bags, .int tl_bagMarks, .ref tl_goodsA, .ref tl_shyA, .ref tl_bidOfA, .ref tl_daysOfA])), (tl_goodsA, .inl (κ 0, 6, .inl tl_goods)), (tl_shyA, .inl (κ 0, 6, .inl tl_shy)), (tl_bidOfA, .inl (κ 0, 9, .inl tl_bidOf)), (tl_daysOfA, .inl (κ 0, 6, .inl tl_daysOf))]) := hD
  refine lv_iconst (v := 1) hx hb dX3_findShort_5 (by decide) ?_
  refine lv_istore_n (lv' := [(2, .int 1), (0, .ref sco), (1, .ref tlo)]) hx hb dX3_findShort_6 rfl hl (by decide) rfl (fun ls hl => ?_)
  exact L7 N 1 sc_bagsShortBy 0 _ _ _ hP hD hS (lv_sub hl [1, 2, 0] rfl) hres

def pX3_fitAt_L56 (k17 : Int32 → Int32 → Int32 → Option (Int32)) (k5 : Int32 → Int32 → Option (Int32)) (v3 : Int32) (v4 : Int32) (v5 : Int32) : Option (Int32) :=
    k17 v3 v4 (v5 + 1)
def pX3_fitAt_L17 (k5 : Int32 → Int32 → Option (Int32)) (x1 : Int32) (sc_bagsShortBy : Nat → Int32) : Nat → Int32 → Int32 → Int32 → Option (Int32)
  | 0, _, _, _ => none
  | n17 + 1, v3, v4, v5 =>
    (if 9 < v5 then
    k5 v3 (v4 + 1)
    else
    if v5 < 0 ∨ 10 ≤ v5.toNatClampNeg then none else
    (if (((sc_bagsShortBy v5.toNatClampNeg) >>> (v4 &&& 31)) &&& 1) = 0 then
    pX3_fitAt_L56 (pX3_fitAt_L17 k5 x1 sc_bagsShortBy n17) k5 v3 v4 v5
    else
    (if v3 = x1 then
    some (((10 * v4) + v5))
    else
    pX3_fitAt_L56 (pX3_fitAt_L17 k5 x1 sc_bagsShortBy n17) k5 (v3 + 1) v4 v5)))
def pX3_fitAt_L5 (N : Nat) (x1 : Int32) (sc_bagsShortBy : Nat → Int32) (tl_bags : Int32) : Nat → Int32 → Int32 → Option (Int32)
  | 0, _, _ => none
  | n5 + 1, v3, v4 =>
    (if tl_bags ≤ v4 then
    some ((-1))
    else
    pX3_fitAt_L17 (pX3_fitAt_L5 N x1 sc_bagsShortBy tl_bags n5) x1 sc_bagsShortBy N v3 v4 1)
def pX3_fitAt (N : Nat) (x1 : Int32) (sc_bagsShortBy : Nat → Int32) (tl_bags : Int32) : Option (Int32) :=
    pX3_fitAt_L5 N x1 sc_bagsShortBy tl_bags N 0 0
set_option maxHeartbeats 8000000 in
set_option maxRecDepth 100000 in
theorem tX3_fitAt (l : Launch) (D : va_G) (κ : Nat → ClassId) (sco : Nat) (sc_setsA : Nat) (sc_weightsA : Nat) (sc_bagsShortByA : Nat) (tlo : Nat) (tl_goodsA : Nat) (tl_shyA : Nat) (tl_bidOfA : Nat) (tl_daysOfA : Nat) (N : Nat) (sc_sets : Nat → Int32) (sc_weights : Nat → Int32) (sc_count : Int32) (sc_bagsShortBy : Nat → Int32) (sc_fits : Int32) (tl_stands : Int32) (tl_price : Int32) (tl_death : Int32) (tl_payers : Int32) (tl_bids : Int32) (tl_hostages : Int32) (tl_bags : Int32) (tl_bagMarks : Int32) (tl_goods : Nat → Int32) (tl_shy : Nat → Int32) (tl_bidOf : Nat → Int32) (tl_daysOf : Nat → Int32) (x1 : Int32) (r0 : Int32) (hres : pX3_fitAt N x1 sc_bagsShortBy tl_bags = some (r0)) : krI l yX3_fitAt wsX3_fitAt { frames := 0, cells := 0, slots := 0, locals := 0 } D κ [.ref sco, .int x1, .ref tlo] ([(sco, .inr (3, [.ref sc_setsA, .ref sc_weightsA, .int sc_count, .ref sc_bagsShortByA, .int sc_fits])), (sc_setsA, .inl (κ 0, 6, .inl sc_sets)), (sc_weightsA, .inl (κ 0, 6, .inl sc_weights)), (sc_bagsShortByA, .inl (κ 0, 10, .inl sc_bagsShortBy)), (tlo, .inr (6, [.int tl_stands, .int tl_price, .int tl_death, .int tl_payers, .int tl_bids, .int tl_hostages, .int tl_bags, .int tl_bagMarks, .ref tl_goodsA, .ref tl_shyA, .ref tl_bidOfA, .ref tl_daysOfA])), (tl_goodsA, .inl (κ 0, 6, .inl tl_goods)), (tl_shyA, .inl (κ 0, 6, .inl tl_shy)), (tl_bidOfA, .inl (κ 0, 9, .inl tl_bidOf)), (tl_daysOfA, .inl (κ 0, 6, .inl tl_daysOf))]) ([(sco, .inr (3, [.ref sc_setsA, .ref sc_weightsA, .int sc_count, .ref sc_bagsShortByA, .int sc_fits])), (sc_setsA, .inl (κ 0, 6, .inl sc_sets)), (sc_weightsA, .inl (κ 0, 6, .inl sc_weights)), (sc_bagsShortByA, .inl (κ 0, 10, .inl sc_bagsShortBy)), (tlo, .inr (6, [.int tl_stands, .int tl_price, .int tl_death, .int tl_payers, .int tl_bids, .int tl_hostages, .int tl_bags, .int tl_bagMarks, .ref tl_goodsA, .ref tl_shyA, .ref tl_bidOfA, .ref tl_daysOfA])), (tl_goodsA, .inl (κ 0, 6, .inl tl_goods)), (tl_shyA, .inl (κ 0, 6, .inl tl_shy)), (tl_bidOfA, .inl (κ 0, 9, .inl tl_bidOf)), (tl_daysOfA, .inl (κ 0, 6, .inl tl_daysOf))]) r0 := by
  refine krI_of (cc := cX3_fitAt) (maxL := 6) (rt := .int) (by decide) rfl (Nat.le_of_ble_eq_true rfl) ?_
  intro p e s m args below meth c A Q ls hx hb hml hown hts hK hA hret hP hD hS hl
  have hown : s.vm.findClass RX3 = some m.cls := hown
  have hl : lv_has ls 6 [(0, .ref sco), (1, .int x1), (2, .ref tlo)] := hl
  have iw6 : ∀ w ∈ u_ws RX6 TX6 12, w ∈ wsX3_fitAt := (fun _ h => List.mem_cons_of_mem _ (List.mem_append_left _ (List.mem_append_right _ h)))
  have iw3 : ∀ w ∈ u_ws RX3 TX3 5, w ∈ wsX3_fitAt := (fun _ h => List.mem_cons_of_mem _ (List.mem_append_right _ h))
  have k0 : (Cond.fieldLink RX3 18 "KingRansom$Scales" "bagsShortBy" "[I").before args s = true := hts _ (List.mem_of_getElem? (i := 1) rfl)
  have L5 : ∀ (n5 : Nat) (v3 : Int32) (v4 : Int32) (H : Heap) (locs : List Loc) (ls : Array Slot), va_P D vwCl ([(sco, .inr (3, [.ref sc_setsA, .ref sc_weightsA, .int sc_count, .ref sc_bagsShortByA, .int sc_fits])), (sc_setsA, .inl (κ 0, 6, .inl sc_sets)), (sc_weightsA, .inl (κ 0, 6, .inl sc_weights)), (sc_bagsShortByA, .inl (κ 0, 10, .inl sc_bagsShortBy)), (tlo, .inr (6, [.int tl_stands, .int tl_price, .int tl_death, .int tl_payers, .int tl_bids, .int tl_hostages, .int tl_bags, .int tl_bagMarks, .ref tl_goodsA, .ref tl_shyA, .ref tl_bidOfA, .ref tl_daysOfA])), (tl_goodsA, .inl (κ 0, 6, .inl tl_goods)), (tl_shyA, .inl (κ 0, 6, .inl tl_shy)), (tl_bidOfA, .inl (κ 0, 9, .inl tl_bidOf)), (tl_daysOfA, .inl (κ 0, 6, .inl tl_daysOf))]) H → va_D A ([(sco, .inr (3, [.ref sc_setsA, .ref sc_weightsA, .int sc_count, .ref sc_bagsShortByA, .int sc_fits])), (sc_setsA, .inl (κ 0, 6, .inl sc_sets)), (sc_weightsA, .inl (κ 0, 6, .inl sc_weights)), (sc_bagsShortByA, .inl (κ 0, 10, .inl sc_bagsShortBy)), (tlo, .inr (6, [.int tl_stands, .int tl_price, .int tl_death, .int tl_payers, .int tl_bids, .int tl_hostages, .int tl_bags, .int tl_bagMarks, .ref tl_goodsA, .ref tl_shyA, .ref tl_bidOfA, .ref tl_daysOfA])), (tl_goodsA, .inl (κ 0, 6, .inl tl_goods)), (tl_shyA, .inl (κ 0, 6, .inl tl_shy)), (tl_bidOfA, .inl (κ 0, 9, .inl tl_bidOf)), (tl_daysOfA, .inl (κ 0, 6, .inl tl_daysOf))]) → va_S A s.heap H locs → lv_has ls 6 [(0, .ref sco), (1, .int x1), (2, .ref tlo), (3, .int v3), (4, .int v4)] → pX3_fitAt_L5 N x1 sc_bagsShortBy tl_bags n5 v3 v4 = some (r0) → W p l e { frames := 0, cells := 0, slots := 0, locals := 0 } s m args below meth c H locs 0 0 Q (F0 m 5 ls []) := by
    intro n5
    induction n5 with
    | zero =>
      intro v3 v4 H locs ls hP hD hS hl hres
      exact absurd (show none = some _ from hres) (by simp)
    | succ n5 ih5 =>
      intro v3 v4 H locs ls hP hD hS hl hres
      have L17 : ∀ (n17 : Nat) (v3 : Int32) (v4 : Int32) (v5 : Int32) (H : Heap) (locs : List Loc) (ls : Array Slot), va_P D vwCl ([(sco, .inr (3, [.ref sc_setsA, .ref sc_weightsA, .int sc_count, .ref sc_bagsShortByA, .int sc_fits])), (sc_setsA, .inl (κ 0, 6, .inl sc_sets)), (sc_weightsA, .inl (κ 0, 6, .inl sc_weights)), (sc_bagsShortByA, .inl (κ 0, 10, .inl sc_bagsShortBy)), (tlo, .inr (6, [.int tl_stands, .int tl_price, .int tl_death, .int tl_payers, .int tl_bids, .int tl_hostages, .int tl_bags, .int tl_bagMarks, .ref tl_goodsA, .ref tl_shyA, .ref tl_bidOfA, .ref tl_daysOfA])), (tl_goodsA, .inl (κ 0, 6, .inl tl_goods)), (tl_shyA, .inl (κ 0, 6, .inl tl_shy)), (tl_bidOfA, .inl (κ 0, 9, .inl tl_bidOf)), (tl_daysOfA, .inl (κ 0, 6, .inl tl_daysOf))]) H → va_D A ([(sco, .inr (3, [.ref sc_setsA, .ref sc_weightsA, .int sc_count, .ref sc_bagsShortByA, .int sc_fits])), (sc_setsA, .inl (κ 0, 6, .inl sc_sets)), (sc_weightsA, .inl (κ 0, 6, .inl sc_weights)), (sc_bagsShortByA, .inl (κ 0, 10, .inl sc_bagsShortBy)), (tlo, .inr (6, [.int tl_stands, .int tl_price, .int tl_death, .int tl_payers, .int tl_bids, .int tl_hostages, .int tl_bags, .int tl_bagMarks, .ref tl_goodsA, .ref tl_shyA, .ref tl_bidOfA, .ref tl_daysOfA])), (tl_goodsA, .inl (κ 0, 6, .inl tl_goods)), (tl_shyA, .inl (κ 0, 6, .inl tl_shy)), (tl_bidOfA, .inl (κ 0, 9, .inl tl_bidOf)), (tl_daysOfA, .inl (κ 0, 6, .inl tl_daysOf))]) → va_S A s.heap H locs → lv_has ls 6 [(0, .ref sco), (1, .int x1), (2, .ref tlo), (3, .int v3), (4, .int v4), (5, .int v5)] → pX3_fitAt_L17 (pX3_fitAt_L5 N x1 sc_bagsShortBy tl_bags n5) x1 sc_bagsShortBy n17 v3 v4 v5 = some (r0) → W p l e { frames := 0, cells := 0, slots := 0, locals := 0 } s m args below meth c H locs 0 0 Q (F0 m 17 ls []) := by
        intro n17
        induction n17 with
        | zero =>
          intro v3 v4 v5 H locs ls hP hD hS hl hres
          exact absurd (show none = some _ from hres) (by simp)
        | succ n17 ih17 =>
          intro v3 v4 v5 H locs ls hP hD hS hl hres
          have L56 : ∀ (v3 : Int32) (v4 : Int32) (v5 : Int32) (H : Heap) (locs : List Loc) (ls : Array Slot), va_P D vwCl ([(sco, .inr (3, [.ref sc_setsA, .ref sc_weightsA, .int sc_count, .ref sc_bagsShortByA, .int sc_fits])), (sc_setsA, .inl (κ 0, 6, .inl sc_sets)), (sc_weightsA, .inl (κ 0, 6, .inl sc_weights)), (sc_bagsShortByA, .inl (κ 0, 10, .inl sc_bagsShortBy)), (tlo, .inr (6, [.int tl_stands, .int tl_price, .int tl_death, .int tl_payers, .int tl_bids, .int tl_hostages, .int tl_bags, .int tl_bagMarks, .ref tl_goodsA, .ref tl_shyA, .ref tl_bidOfA, .ref tl_daysOfA])), (tl_goodsA, .inl (κ 0, 6, .inl tl_goods)), (tl_shyA, .inl (κ 0, 6, .inl tl_shy)), (tl_bidOfA, .inl (κ 0, 9, .inl tl_bidOf)), (tl_daysOfA, .inl (κ 0, 6, .inl tl_daysOf))]) H → va_D A ([(sco, .inr (3, [.ref sc_setsA, .ref sc_weightsA, .int sc_count, .ref sc_bagsShortByA, .int sc_fits])), (sc_setsA, .inl (κ 0, 6, .inl sc_sets)), (sc_weightsA, .inl (κ 0, 6, .inl sc_weights)), (sc_bagsShortByA, .inl (κ 0, 10, .inl sc_bagsShortBy)), (tlo, .inr (6, [.int tl_stands, .int tl_price, .int tl_death, .int tl_payers, .int tl_bids, .int tl_hostages, .int tl_bags, .int tl_bagMarks, .ref tl_goodsA, .ref tl_shyA, .ref tl_bidOfA, .ref tl_daysOfA])), (tl_goodsA, .inl (κ 0, 6, .inl tl_goods)), (tl_shyA, .inl (κ 0, 6, .inl tl_shy)), (tl_bidOfA, .inl (κ 0, 9, .inl tl_bidOf)), (tl_daysOfA, .inl (κ 0, 6, .inl tl_daysOf))]) → va_S A s.heap H locs → lv_has ls 6 [(0, .ref sco), (1, .int x1), (2, .ref tlo), (3, .int v3), (4, .int v4), (5, .int v5)] → pX3_fitAt_L56 (pX3_fitAt_L17 (pX3_fitAt_L5 N x1 sc_bagsShortBy tl_bags n5) x1 sc_bagsShortBy n17) (pX3_fitAt_L5 N x1 sc_bagsShortBy tl_bags n5) v3 v4 v5 = some (r0) → W p l e { frames := 0, cells := 0, slots := 0, locals := 0 } s m args below meth c H locs 0 0 Q (F0 m 56 ls []) := by
            intro v3 v4 v5 H locs ls hP hD hS hl hres
            unfold pX3_fitAt_L56 at hres
            refine lv_iinc (v := (v5 + 1)) (lv' := [(5, .int (v5 + 1)), (0, .ref sco), (1, .int x1), (2, .ref tlo), (3, .int v3), (4, .int v4)]) hx hb dX3_fitAt_56 hl (k := 5) rfl rfl (by decide) rfl (fun ls hl => ?_)
            refine lv_goto (tgt := 17) hx hb dX3_fitAt_59 (by decide) ?_
            exact ih17 v3 v4 (v5 + 1) _ _ _ hP hD hS (lv_sub hl [1, 2, 3, 4, 5, 0] rfl) hres
          rw [pX3_fitAt_L17] at hres
          refine lv_iload hx hb dX3_fitAt_17 (lv_at hl 5 rfl) ?_
          refine lv_bipush (v := 9) hx hb dX3_fitAt_19 (by decide) ?_
          refine lv_icmp_gt (tgt := 62) hx hb dX3_fitAt_21 (by decide) (fun c2 => ?_) (fun c2 => ?_)
          · replace hres := og_t c2 hres
            refine lv_iinc (v := (v4 + 1)) (lv' := [(4, .int (v4 + 1)), (0, .ref sco), (1, .int x1), (2, .ref tlo), (3, .int v3), (5, .int v5)]) hx hb dX3_fitAt_62 hl (k := 4) rfl rfl (by decide) rfl (fun ls hl => ?_)
            refine lv_goto (tgt := 5) hx hb dX3_fitAt_65 (by decide) ?_
            exact ih5 v3 (v4 + 1) _ _ _ hP hD hS (lv_sub hl [1, 2, 3, 4, 0] rfl) hres
          · replace hres := og_f c2 hres
            refine lv_aload_n hx hb dX3_fitAt_24 rfl (lv_at hl 0 rfl) ?_
            refine va_get (D := D) (ci := 3) (v := .ref sc_bagsShortByA) (C := RX3) (T := TX3) (N := 5) hx hb hts iw3 hown hK.1 hP 0 rfl rfl 3 (by decide) k0 (fun _ h9 => h9) rfl dX3_fitAt_25 ?_
            refine lv_iload hx hb dX3_fitAt_28 (lv_at hl 5 rfl) ?_
            obtain ⟨g3, hres⟩ := og_no hres
            refine kr_iald (f := sc_bagsShortBy) (j := v5.toNatClampNeg) hx hb hK hP 3 rfl g3 rfl dX3_fitAt_30 ?_
            refine lv_iload hx hb dX3_fitAt_31 (lv_at hl 4 rfl) ?_
            refine lv_ishr hx hb dX3_fitAt_33 ?_
            refine lv_iconst (v := 1) hx hb dX3_fitAt_34 (by decide) ?_
            refine lv_iand hx hb dX3_fitAt_35 ?_
            refine lv_if_eq (tgt := 56) hx hb dX3_fitAt_36 (by decide) (fun c4 => ?_) (fun c4 => ?_)
            · replace hres := og_t c4 hres
              exact L56 v3 v4 v5 _ _ _ hP hD hS (lv_sub hl [0, 1, 2, 3, 4, 5] rfl) hres
            · replace hres := og_f c4 hres
              refine lv_iload_n hx hb dX3_fitAt_39 rfl (lv_at hl 3 rfl) ?_
              refine lv_iload_n hx hb dX3_fitAt_40 rfl (lv_at hl 1 rfl) ?_
              refine lv_icmp_ne (tgt := 53) hx hb dX3_fitAt_41 (by decide) (fun c5 => ?_) (fun c5 => ?_)
              · replace hres := og_f c5 hres
                refine lv_iinc (v := (v3 + 1)) (lv' := [(3, .int (v3 + 1)), (0, .ref sco), (1, .int x1), (2, .ref tlo), (4, .int v4), (5, .int v5)]) hx hb dX3_fitAt_53 hl (k := 3) rfl rfl (by decide) rfl (fun ls hl => ?_)
                exact L56 (v3 + 1) v4 v5 _ _ _ hP hD hS (lv_sub hl [1, 2, 3, 0, 4, 5] rfl) hres
              · replace hres := og_t c5 hres
                refine lv_bipush (v := 10) hx hb dX3_fitAt_44 (by decide) ?_
                refine lv_iload hx hb dX3_fitAt_46 (lv_at hl 4 rfl) ?_
                refine lv_imul hx hb dX3_fitAt_48 ?_
                refine lv_iload hx hb dX3_fitAt_49 (lv_at hl 5 rfl) ?_
                refine lv_iadd hx hb dX3_fitAt_51 ?_
                have hres := Option.some.inj hres
                have h0 := hres
                subst h0
                exact hret _ _ _ _ (vp_nar_int _) hP hD hS dX3_fitAt_52
      rw [pX3_fitAt_L5] at hres
      refine lv_iload hx hb dX3_fitAt_5 (lv_at hl 4 rfl) ?_
      refine lv_aload_n hx hb dX3_fitAt_7 rfl (lv_at hl 2 rfl) ?_
      refine va_getN (D := D) (ci := 6) (v := .int tl_bags) (C := RX6) (T := TX6) (N := 12) hx hb hts iw6 hown hK.1 hP 4 rfl rfl 6 (by decide) (hK.fl 17 rfl) (fun _ h9 => h9) rfl dX3_fitAt_8 ?_
      refine lv_icmp_ge (tgt := 68) hx hb dX3_fitAt_11 (by decide) (fun c1 => ?_) (fun c1 => ?_)
      · replace hres := og_t c1 hres
        refine lv_iconst (v := (-1)) hx hb dX3_fitAt_68 (by decide) ?_
        have hres := Option.some.inj hres
        have h0 := hres
        subst h0
        exact hret _ _ _ _ (vp_nar_int _) hP hD hS dX3_fitAt_69
      · replace hres := og_f c1 hres
        refine lv_iconst (v := 1) hx hb dX3_fitAt_14 (by decide) ?_
        refine lv_istore (lv' := [(5, .int 1), (0, .ref sco), (1, .int x1), (2, .ref tlo), (3, .int v3), (4, .int v4)]) hx hb dX3_fitAt_15 hl (by decide) rfl (fun ls hl => ?_)
        exact L17 N v3 v4 1 _ _ _ hP hD hS (lv_sub hl [1, 2, 3, 4, 5, 0] rfl) hres
  unfold pX3_fitAt at hres
  refine lv_iconst (v := 0) hx hb dX3_fitAt_0 (by decide) ?_
  refine lv_istore_n (lv' := [(3, .int 0), (0, .ref sco), (1, .int x1), (2, .ref tlo)]) hx hb dX3_fitAt_1 rfl hl (by decide) rfl (fun ls hl => ?_)
  refine lv_iconst (v := 0) hx hb dX3_fitAt_2 (by decide) ?_
  refine lv_istore (lv' := [(4, .int 0), (3, .int 0), (0, .ref sco), (1, .int x1), (2, .ref tlo)]) hx hb dX3_fitAt_3 hl (by decide) rfl (fun ls hl => ?_)
  exact L5 N 0 0 _ _ _ hP hD hS (lv_sub hl [2, 3, 4, 1, 0] rfl) hres

def pX3_greatestAlike_L10 (x1 : Int32) (sc_bagsShortBy : Nat → Int32) : Nat → Int32 → Int32 → Int32 → Option (Int32)
  | 0, _, _, _ => none
  | n10 + 1, v2, v3, v4 =>
    (if 9 < v4 then
    some ((if v3 < v2 then v2 else v3))
    else
    if v4 < 0 ∨ 10 ≤ v4.toNatClampNeg then none else
    kb1 (pJ6_bitCount_0f7a4 ((sc_bagsShortBy v4.toNatClampNeg) &&& x1)) fun r3 =>
    pX3_greatestAlike_L10 x1 sc_bagsShortBy n10 (v2 - r3) (if v3 < r3 then r3 else v3) (v4 + 1))
def pX3_greatestAlike (N : Nat) (x1 : Int32) (sc_bagsShortBy : Nat → Int32) (sc_fits : Int32) : Option (Int32) :=
    pX3_greatestAlike_L10 x1 sc_bagsShortBy N sc_fits 0 1
set_option maxHeartbeats 8000000 in
set_option maxRecDepth 100000 in
theorem tX3_greatestAlike (l : Launch) (D : va_G) (κ : Nat → ClassId) (sco : Nat) (sc_setsA : Nat) (sc_weightsA : Nat) (sc_bagsShortByA : Nat) (N : Nat) (sc_sets : Nat → Int32) (sc_weights : Nat → Int32) (sc_count : Int32) (sc_bagsShortBy : Nat → Int32) (sc_fits : Int32) (x1 : Int32) (r0 : Int32) (hres : pX3_greatestAlike N x1 sc_bagsShortBy sc_fits = some (r0)) : krI l yX3_greatestAlike wsX3_greatestAlike { frames := 1, cells := 0, slots := 0, locals := 100 } D κ [.ref sco, .int x1] ([(sco, .inr (3, [.ref sc_setsA, .ref sc_weightsA, .int sc_count, .ref sc_bagsShortByA, .int sc_fits])), (sc_setsA, .inl (κ 0, 6, .inl sc_sets)), (sc_weightsA, .inl (κ 0, 6, .inl sc_weights)), (sc_bagsShortByA, .inl (κ 0, 10, .inl sc_bagsShortBy))]) ([(sco, .inr (3, [.ref sc_setsA, .ref sc_weightsA, .int sc_count, .ref sc_bagsShortByA, .int sc_fits])), (sc_setsA, .inl (κ 0, 6, .inl sc_sets)), (sc_weightsA, .inl (κ 0, 6, .inl sc_weights)), (sc_bagsShortByA, .inl (κ 0, 10, .inl sc_bagsShortBy))]) r0 := by
  refine krI_of (cc := cX3_greatestAlike) (maxL := 6) (rt := .int) (by decide) rfl (Nat.le_of_ble_eq_true rfl) ?_
  intro p e s m args below meth c A Q ls hx hb hml hown hts hK hA hret hP hD hS hl
  have hown : s.vm.findClass RX3 = some m.cls := hown
  have hl : lv_has ls 6 [(0, .ref sco), (1, .int x1)] := hl
  have iw3 : ∀ w ∈ u_ws RX3 TX3 5, w ∈ wsX3_greatestAlike := (fun _ h => List.mem_cons_of_mem _ (List.mem_append_right _ h))
  have k0 : (Cond.fieldLink RX3 25 "KingRansom$Scales" "fits" "I").before args s = true := hts _ (List.mem_of_getElem? (i := 1) rfl)
  have k1 : (Cond.methodLink RX3 49 Lib.Math.max.name).before args s = true := hts _ (List.mem_of_getElem? (i := 3) rfl)
  have k2 : (Cond.static Lib.Math.max.name).before args s = true := hts _ (List.mem_of_getElem? (i := 4) rfl)
  have k3 : (Cond.initialized "java/lang/Math").before args s = true := hts _ (List.mem_of_getElem? (i := 5) rfl)
  have k4 : (Cond.code Lib.Math.max.name Lib.Math.max.code 2 (some .int)).before args s = true := hts _ (List.mem_of_getElem? (i := 6) rfl)
  have k5 : (Cond.fieldLink RX3 18 "KingRansom$Scales" "bagsShortBy" "[I").before args s = true := hts _ (List.mem_of_getElem? (i := 2) rfl)
  have L10 : ∀ (n10 : Nat) (v2 : Int32) (v3 : Int32) (v4 : Int32) (H : Heap) (locs : List Loc) (ls : Array Slot), va_P D vwCl ([(sco, .inr (3, [.ref sc_setsA, .ref sc_weightsA, .int sc_count, .ref sc_bagsShortByA, .int sc_fits])), (sc_setsA, .inl (κ 0, 6, .inl sc_sets)), (sc_weightsA, .inl (κ 0, 6, .inl sc_weights)), (sc_bagsShortByA, .inl (κ 0, 10, .inl sc_bagsShortBy))]) H → va_D A ([(sco, .inr (3, [.ref sc_setsA, .ref sc_weightsA, .int sc_count, .ref sc_bagsShortByA, .int sc_fits])), (sc_setsA, .inl (κ 0, 6, .inl sc_sets)), (sc_weightsA, .inl (κ 0, 6, .inl sc_weights)), (sc_bagsShortByA, .inl (κ 0, 10, .inl sc_bagsShortBy))]) → va_S A s.heap H locs → lv_has ls 6 [(0, .ref sco), (1, .int x1), (2, .int v2), (3, .int v3), (4, .int v4)] → pX3_greatestAlike_L10 x1 sc_bagsShortBy n10 v2 v3 v4 = some (r0) → W p l e { frames := 1, cells := 0, slots := 0, locals := 100 } s m args below meth c H locs 0 0 Q (F0 m 10 ls []) := by
    intro n10
    induction n10 with
    | zero =>
      intro v2 v3 v4 H locs ls hP hD hS hl hres
      exact absurd (show none = some _ from hres) (by simp)
    | succ n10 ih10 =>
      intro v2 v3 v4 H locs ls hP hD hS hl hres
      rw [pX3_greatestAlike_L10] at hres
      refine lv_iload hx hb dX3_greatestAlike_10 (lv_at hl 4 rfl) ?_
      refine lv_bipush (v := 9) hx hb dX3_greatestAlike_12 (by decide) ?_
      refine lv_icmp_gt (tgt := 49) hx hb dX3_greatestAlike_14 (by decide) (fun c1 => ?_) (fun c1 => ?_)
      · replace hres := og_t c1 hres
        refine lv_iload_n hx hb dX3_greatestAlike_49 rfl (lv_at hl 3 rfl) ?_
        refine lv_iload_n hx hb dX3_greatestAlike_50 rfl (lv_at hl 2 rfl) ?_
        refine va_mmax hx hb (hml.trans hl.1.symm) hown k1 k2 k3 k4 (Nat.le_of_ble_eq_true rfl) (Nat.le_of_ble_eq_true rfl) (Nat.zero_le _) (Nat.zero_le _) dX3_greatestAlike_51 ?_
        have hres := Option.some.inj hres
        have h0 := hres
        subst h0
        exact hret _ _ _ _ (vp_nar_int _) hP hD hS dX3_greatestAlike_54
      · replace hres := og_f c1 hres
        refine lv_aload_n hx hb dX3_greatestAlike_17 rfl (lv_at hl 0 rfl) ?_
        refine va_get (D := D) (ci := 3) (v := .ref sc_bagsShortByA) (C := RX3) (T := TX3) (N := 5) hx hb hts iw3 hown hK.1 hP 0 rfl rfl 3 (by decide) k5 (fun _ h9 => h9) rfl dX3_greatestAlike_18 ?_
        refine lv_iload hx hb dX3_greatestAlike_21 (lv_at hl 4 rfl) ?_
        obtain ⟨g2, hres⟩ := og_no hres
        refine kr_iald (f := sc_bagsShortBy) (j := v4.toNatClampNeg) hx hb hK hP 3 rfl g2 rfl dX3_greatestAlike_23 ?_
        refine lv_iload_n hx hb dX3_greatestAlike_24 rfl (lv_at hl 1 rfl) ?_
        refine lv_iand hx hb dX3_greatestAlike_25 ?_
        obtain ⟨r3, hc4, hres⟩ := kb1_s hres
        refine krI_S0 (As := [.int ((sc_bagsShortBy v4.toNatClampNeg) &&& x1)]) (rest := []) ⟨hx, hb, hml, hown, hts⟩ hK (tJ6_bitCount_0f7a4 l D κ ((sc_bagsShortBy v4.toNatClampNeg) &&& x1) r3 hc4) (va_cwS 1 hts gX3_greatestAlike_J6_bitCount_0f7a4 rfl rfl rfl (by decide +kernel) ⟨(Nat.le_of_ble_eq_true rfl), (Nat.le_of_ble_eq_true rfl)⟩) hP hD hS hA rfl hl.1 rfl (Nat.le_of_ble_eq_true rfl) dX3_greatestAlike_26 ⟨Nat.zero_le _, Nat.zero_le _⟩ (fun H locs hP hD hS => ?_)
        refine lv_istore (lv' := [(5, .int r3), (0, .ref sco), (1, .int x1), (2, .int v2), (3, .int v3), (4, .int v4)]) hx hb dX3_greatestAlike_29 hl (by decide) rfl (fun ls hl => ?_)
        refine lv_iload_n hx hb dX3_greatestAlike_31 rfl (lv_at hl 3 rfl) ?_
        refine lv_iload hx hb dX3_greatestAlike_32 (lv_at hl 0 rfl) ?_
        refine lv_isub hx hb dX3_greatestAlike_34 ?_
        refine lv_istore_n (lv' := [(2, .int (v2 - r3)), (5, .int r3), (0, .ref sco), (1, .int x1), (3, .int v3), (4, .int v4)]) hx hb dX3_greatestAlike_35 rfl hl (by decide) rfl (fun ls hl => ?_)
        refine lv_iload_n hx hb dX3_greatestAlike_36 rfl (lv_at hl 4 rfl) ?_
        refine lv_iload hx hb dX3_greatestAlike_37 (lv_at hl 1 rfl) ?_
        refine va_mmax hx hb (hml.trans hl.1.symm) hown k1 k2 k3 k4 (Nat.le_of_ble_eq_true rfl) (Nat.le_of_ble_eq_true rfl) (Nat.zero_le _) (Nat.zero_le _) dX3_greatestAlike_39 ?_
        refine lv_istore_n (lv' := [(3, .int (if v3 < r3 then r3 else v3)), (2, .int (v2 - r3)), (5, .int r3), (0, .ref sco), (1, .int x1), (4, .int v4)]) hx hb dX3_greatestAlike_42 rfl hl (by decide) rfl (fun ls hl => ?_)
        refine lv_iinc (v := (v4 + 1)) (lv' := [(4, .int (v4 + 1)), (3, .int (if v3 < r3 then r3 else v3)), (2, .int (v2 - r3)), (5, .int r3), (0, .ref sco), (1, .int x1)]) hx hb dX3_greatestAlike_43 hl (k := 5) rfl rfl (by decide) rfl (fun ls hl => ?_)
        refine lv_goto (tgt := 10) hx hb dX3_greatestAlike_46 (by decide) ?_
        exact ih10 (v2 - r3) (if v3 < r3 then r3 else v3) (v4 + 1) _ _ _ hP hD hS (lv_sub hl [4, 5, 2, 1, 0] rfl) hres
  unfold pX3_greatestAlike at hres
  refine lv_aload_n hx hb dX3_greatestAlike_0 rfl (lv_at hl 0 rfl) ?_
  refine va_get (D := D) (ci := 3) (v := .int sc_fits) (C := RX3) (T := TX3) (N := 5) hx hb hts iw3 hown hK.1 hP 0 rfl rfl 4 (by decide) k0 (fun _ h9 => h9) rfl dX3_greatestAlike_1 ?_
  refine lv_istore_n (lv' := [(2, .int sc_fits), (0, .ref sco), (1, .int x1)]) hx hb dX3_greatestAlike_4 rfl hl (by decide) rfl (fun ls hl => ?_)
  refine lv_iconst (v := 0) hx hb dX3_greatestAlike_5 (by decide) ?_
  refine lv_istore_n (lv' := [(3, .int 0), (2, .int sc_fits), (0, .ref sco), (1, .int x1)]) hx hb dX3_greatestAlike_6 rfl hl (by decide) rfl (fun ls hl => ?_)
  refine lv_iconst (v := 1) hx hb dX3_greatestAlike_7 (by decide) ?_
  refine lv_istore (lv' := [(4, .int 1), (3, .int 0), (2, .int sc_fits), (0, .ref sco), (1, .int x1)]) hx hb dX3_greatestAlike_8 hl (by decide) rfl (fun ls hl => ?_)
  exact L10 N sc_fits 0 1 _ _ _ hP hD hS (lv_sub hl [3, 4, 2, 1, 0] rfl) hres

def pX3_nextSet_L41 (k10 : Int32 → Int32 → Int32 → Option (Int32)) (v2 : Int32) (v3 : Int32) (v4 : Int32) : Option (Int32) :=
    k10 v2 v3 (v4 + 1)
def pX3_nextSet_L10 (N : Nat) (sc_bagsShortBy : Nat → Int32) (sc_fits : Int32) (tl_bags : Int32) : Nat → Int32 → Int32 → Int32 → Option (Int32)
  | 0, _, _, _ => none
  | n10 + 1, v2, v3, v4 =>
    (if ((1 : Int32) <<< (tl_bags &&& 31)) ≤ v4 then
    some (v2)
    else
    kb1 (pX3_greatestAlike N v4 sc_bagsShortBy sc_fits) fun r2 =>
    (if v3 ≤ r2 then
    pX3_nextSet_L41 (pX3_nextSet_L10 N sc_bagsShortBy sc_fits tl_bags n10) v2 v3 v4
    else
    pX3_nextSet_L41 (pX3_nextSet_L10 N sc_bagsShortBy sc_fits tl_bags n10) v4 r2 v4))
def pX3_nextSet (N : Nat) (sc_bagsShortBy : Nat → Int32) (sc_fits : Int32) (tl_bags : Int32) : Option (Int32) :=
    pX3_nextSet_L10 N sc_bagsShortBy sc_fits tl_bags N (-1) sc_fits 1
set_option maxHeartbeats 8000000 in
set_option maxRecDepth 100000 in
theorem tX3_nextSet (l : Launch) (D : va_G) (κ : Nat → ClassId) (sco : Nat) (sc_setsA : Nat) (sc_weightsA : Nat) (sc_bagsShortByA : Nat) (tlo : Nat) (tl_goodsA : Nat) (tl_shyA : Nat) (tl_bidOfA : Nat) (tl_daysOfA : Nat) (N : Nat) (sc_sets : Nat → Int32) (sc_weights : Nat → Int32) (sc_count : Int32) (sc_bagsShortBy : Nat → Int32) (sc_fits : Int32) (tl_stands : Int32) (tl_price : Int32) (tl_death : Int32) (tl_payers : Int32) (tl_bids : Int32) (tl_hostages : Int32) (tl_bags : Int32) (tl_bagMarks : Int32) (tl_goods : Nat → Int32) (tl_shy : Nat → Int32) (tl_bidOf : Nat → Int32) (tl_daysOf : Nat → Int32) (r0 : Int32) (hres : pX3_nextSet N sc_bagsShortBy sc_fits tl_bags = some (r0)) : krI l yX3_nextSet wsX3_nextSet { frames := 2, cells := 0, slots := 0, locals := 200 } D κ [.ref sco, .ref tlo] ([(sco, .inr (3, [.ref sc_setsA, .ref sc_weightsA, .int sc_count, .ref sc_bagsShortByA, .int sc_fits])), (sc_setsA, .inl (κ 0, 6, .inl sc_sets)), (sc_weightsA, .inl (κ 0, 6, .inl sc_weights)), (sc_bagsShortByA, .inl (κ 0, 10, .inl sc_bagsShortBy)), (tlo, .inr (6, [.int tl_stands, .int tl_price, .int tl_death, .int tl_payers, .int tl_bids, .int tl_hostages, .int tl_bags, .int tl_bagMarks, .ref tl_goodsA, .ref tl_shyA, .ref tl_bidOfA, .ref tl_daysOfA])), (tl_goodsA, .inl (κ 0, 6, .inl tl_goods)), (tl_shyA, .inl (κ 0, 6, .inl tl_shy)), (tl_bidOfA, .inl (κ 0, 9, .inl tl_bidOf)), (tl_daysOfA, .inl (κ 0, 6, .inl tl_daysOf))]) ([(sco, .inr (3, [.ref sc_setsA, .ref sc_weightsA, .int sc_count, .ref sc_bagsShortByA, .int sc_fits])), (sc_setsA, .inl (κ 0, 6, .inl sc_sets)), (sc_weightsA, .inl (κ 0, 6, .inl sc_weights)), (sc_bagsShortByA, .inl (κ 0, 10, .inl sc_bagsShortBy)), (tlo, .inr (6, [.int tl_stands, .int tl_price, .int tl_death, .int tl_payers, .int tl_bids, .int tl_hostages, .int tl_bags, .int tl_bagMarks, .ref tl_goodsA, .ref tl_shyA, .ref tl_bidOfA, .ref tl_daysOfA])), (tl_goodsA, .inl (κ 0, 6, .inl tl_goods)), (tl_shyA, .inl (κ 0, 6, .inl tl_shy)), (tl_bidOfA, .inl (κ 0, 9, .inl tl_bidOf)), (tl_daysOfA, .inl (κ 0, 6, .inl tl_daysOf))]) r0 := by
  refine krI_of (cc := cX3_nextSet) (maxL := 6) (rt := .int) (by decide) rfl (Nat.le_of_ble_eq_true rfl) ?_
  intro p e s m args below meth c A Q ls hx hb hml hown hts hK hA hret hP hD hS hl
  have hown : s.vm.findClass RX3 = some m.cls := hown
  have hl : lv_has ls 6 [(0, .ref sco), (1, .ref tlo)] := hl
  have iw3 : ∀ w ∈ u_ws RX3 TX3 5, w ∈ wsX3_nextSet := (fun _ h => List.mem_cons_of_mem _ (List.mem_append_left _ (List.mem_append_right _ h)))
  have iw6 : ∀ w ∈ u_ws RX6 TX6 12, w ∈ wsX3_nextSet := (fun _ h => List.mem_cons_of_mem _ (List.mem_append_right _ h))
  have k0 : (Cond.fieldLink RX3 25 "KingRansom$Scales" "fits" "I").before args s = true := hts _ (List.mem_of_getElem? (i := 1) rfl)
  have L10 : ∀ (n10 : Nat) (v2 : Int32) (v3 : Int32) (v4 : Int32) (H : Heap) (locs : List Loc) (ls : Array Slot), va_P D vwCl ([(sco, .inr (3, [.ref sc_setsA, .ref sc_weightsA, .int sc_count, .ref sc_bagsShortByA, .int sc_fits])), (sc_setsA, .inl (κ 0, 6, .inl sc_sets)), (sc_weightsA, .inl (κ 0, 6, .inl sc_weights)), (sc_bagsShortByA, .inl (κ 0, 10, .inl sc_bagsShortBy)), (tlo, .inr (6, [.int tl_stands, .int tl_price, .int tl_death, .int tl_payers, .int tl_bids, .int tl_hostages, .int tl_bags, .int tl_bagMarks, .ref tl_goodsA, .ref tl_shyA, .ref tl_bidOfA, .ref tl_daysOfA])), (tl_goodsA, .inl (κ 0, 6, .inl tl_goods)), (tl_shyA, .inl (κ 0, 6, .inl tl_shy)), (tl_bidOfA, .inl (κ 0, 9, .inl tl_bidOf)), (tl_daysOfA, .inl (κ 0, 6, .inl tl_daysOf))]) H → va_D A ([(sco, .inr (3, [.ref sc_setsA, .ref sc_weightsA, .int sc_count, .ref sc_bagsShortByA, .int sc_fits])), (sc_setsA, .inl (κ 0, 6, .inl sc_sets)), (sc_weightsA, .inl (κ 0, 6, .inl sc_weights)), (sc_bagsShortByA, .inl (κ 0, 10, .inl sc_bagsShortBy)), (tlo, .inr (6, [.int tl_stands, .int tl_price, .int tl_death, .int tl_payers, .int tl_bids, .int tl_hostages, .int tl_bags, .int tl_bagMarks, .ref tl_goodsA, .ref tl_shyA, .ref tl_bidOfA, .ref tl_daysOfA])), (tl_goodsA, .inl (κ 0, 6, .inl tl_goods)), (tl_shyA, .inl (κ 0, 6, .inl tl_shy)), (tl_bidOfA, .inl (κ 0, 9, .inl tl_bidOf)), (tl_daysOfA, .inl (κ 0, 6, .inl tl_daysOf))]) → va_S A s.heap H locs → lv_has ls 6 [(0, .ref sco), (1, .ref tlo), (2, .int v2), (3, .int v3), (4, .int v4)] → pX3_nextSet_L10 N sc_bagsShortBy sc_fits tl_bags n10 v2 v3 v4 = some (r0) → W p l e { frames := 2, cells := 0, slots := 0, locals := 200 } s m args below meth c H locs 0 0 Q (F0 m 10 ls []) := by
    intro n10
    induction n10 with
    | zero =>
      intro v2 v3 v4 H locs ls hP hD hS hl hres
      exact absurd (show none = some _ from hres) (by simp)
    | succ n10 ih10 =>
      intro v2 v3 v4 H locs ls hP hD hS hl hres
      have L41 : ∀ (v2 : Int32) (v3 : Int32) (v4 : Int32) (H : Heap) (locs : List Loc) (ls : Array Slot), va_P D vwCl ([(sco, .inr (3, [.ref sc_setsA, .ref sc_weightsA, .int sc_count, .ref sc_bagsShortByA, .int sc_fits])), (sc_setsA, .inl (κ 0, 6, .inl sc_sets)), (sc_weightsA, .inl (κ 0, 6, .inl sc_weights)), (sc_bagsShortByA, .inl (κ 0, 10, .inl sc_bagsShortBy)), (tlo, .inr (6, [.int tl_stands, .int tl_price, .int tl_death, .int tl_payers, .int tl_bids, .int tl_hostages, .int tl_bags, .int tl_bagMarks, .ref tl_goodsA, .ref tl_shyA, .ref tl_bidOfA, .ref tl_daysOfA])), (tl_goodsA, .inl (κ 0, 6, .inl tl_goods)), (tl_shyA, .inl (κ 0, 6, .inl tl_shy)), (tl_bidOfA, .inl (κ 0, 9, .inl tl_bidOf)), (tl_daysOfA, .inl (κ 0, 6, .inl tl_daysOf))]) H → va_D A ([(sco, .inr (3, [.ref sc_setsA, .ref sc_weightsA, .int sc_count, .ref sc_bagsShortByA, .int sc_fits])), (sc_setsA, .inl (κ 0, 6, .inl sc_sets)), (sc_weightsA, .inl (κ 0, 6, .inl sc_weights)), (sc_bagsShortByA, .inl (κ 0, 10, .inl sc_bagsShortBy)), (tlo, .inr (6, [.int tl_stands, .int tl_price, .int tl_death, .int tl_payers, .int tl_bids, .int tl_hostages, .int tl_bags, .int tl_bagMarks, .ref tl_goodsA, .ref tl_shyA, .ref tl_bidOfA, .ref tl_daysOfA])), (tl_goodsA, .inl (κ 0, 6, .inl tl_goods)), (tl_shyA, .inl (κ 0, 6, .inl tl_shy)), (tl_bidOfA, .inl (κ 0, 9, .inl tl_bidOf)), (tl_daysOfA, .inl (κ 0, 6, .inl tl_daysOf))]) → va_S A s.heap H locs → lv_has ls 6 [(0, .ref sco), (1, .ref tlo), (2, .int v2), (3, .int v3), (4, .int v4)] → pX3_nextSet_L41 (pX3_nextSet_L10 N sc_bagsShortBy sc_fits tl_bags n10) v2 v3 v4 = some (r0) → W p l e { frames := 2, cells := 0, slots := 0, locals := 200 } s m args below meth c H locs 0 0 Q (F0 m 41 ls []) := by
        intro v2 v3 v4 H locs ls hP hD hS hl hres
        unfold pX3_nextSet_L41 at hres
        refine lv_iinc (v := (v4 + 1)) (lv' := [(4, .int (v4 + 1)), (0, .ref sco), (1, .ref tlo), (2, .int v2), (3, .int v3)]) hx hb dX3_nextSet_41 hl (k := 4) rfl rfl (by decide) rfl (fun ls hl => ?_)
        refine lv_goto (tgt := 10) hx hb dX3_nextSet_44 (by decide) ?_
        exact ih10 v2 v3 (v4 + 1) _ _ _ hP hD hS (lv_sub hl [1, 2, 3, 4, 0] rfl) hres
      rw [pX3_nextSet_L10] at hres
      refine lv_iload hx hb dX3_nextSet_10 (lv_at hl 4 rfl) ?_
      refine lv_iconst (v := 1) hx hb dX3_nextSet_12 (by decide) ?_
      refine lv_aload_n hx hb dX3_nextSet_13 rfl (lv_at hl 1 rfl) ?_
      refine va_getN (D := D) (ci := 6) (v := .int tl_bags) (C := RX6) (T := TX6) (N := 12) hx hb hts iw6 hown hK.1 hP 4 rfl rfl 6 (by decide) (hK.fl 17 rfl) (fun _ h9 => h9) rfl dX3_nextSet_14 ?_
      refine lv_ishl hx hb dX3_nextSet_17 ?_
      refine lv_icmp_ge (tgt := 47) hx hb dX3_nextSet_18 (by decide) (fun c1 => ?_) (fun c1 => ?_)
      · replace hres := og_t c1 hres
        refine lv_iload_n hx hb dX3_nextSet_47 rfl (lv_at hl 2 rfl) ?_
        have hres := Option.some.inj hres
        have h0 := hres
        subst h0
        exact hret _ _ _ _ (vp_nar_int _) hP hD hS dX3_nextSet_48
      · replace hres := og_f c1 hres
        refine lv_aload_n hx hb dX3_nextSet_21 rfl (lv_at hl 0 rfl) ?_
        refine lv_iload hx hb dX3_nextSet_22 (lv_at hl 4 rfl) ?_
        obtain ⟨r2, hc3, hres⟩ := kb1_s hres
        refine krI_V (As := [.int v4]) (rest := []) (wr := [(tlo, .inr (6, [.int tl_stands, .int tl_price, .int tl_death, .int tl_payers, .int tl_bids, .int tl_hostages, .int tl_bags, .int tl_bagMarks, .ref tl_goodsA, .ref tl_shyA, .ref tl_bidOfA, .ref tl_daysOfA])), (tl_goodsA, .inl (κ 0, 6, .inl tl_goods)), (tl_shyA, .inl (κ 0, 6, .inl tl_shy)), (tl_bidOfA, .inl (κ 0, 9, .inl tl_bidOf)), (tl_daysOfA, .inl (κ 0, 6, .inl tl_daysOf))]) ⟨hx, hb, hml, hown, hts⟩ hK (tX3_greatestAlike l D κ sco sc_setsA sc_weightsA sc_bagsShortByA N sc_sets sc_weights sc_count sc_bagsShortBy sc_fits v4 r2 hc3) (cwV 1 hts gX3_nextSet_X3_greatestAlike rfl rfl rfl (by decide +kernel) ⟨(Nat.le_of_ble_eq_true rfl), (Nat.le_of_ble_eq_true rfl)⟩) rfl rfl rfl hP hD hS hA [0, 1, 2, 3] [4, 5, 6, 7, 8] rfl rfl rfl rfl (by decide) rfl hl.1 rfl (Nat.le_of_ble_eq_true rfl) dX3_nextSet_24 ⟨Nat.zero_le _, Nat.zero_le _⟩ (fun H locs hP hD hS => ?_)
        have hP : va_P D vwCl ([(tlo, .inr (6, [.int tl_stands, .int tl_price, .int tl_death, .int tl_payers, .int tl_bids, .int tl_hostages, .int tl_bags, .int tl_bagMarks, .ref tl_goodsA, .ref tl_shyA, .ref tl_bidOfA, .ref tl_daysOfA])), (tl_goodsA, .inl (κ 0, 6, .inl tl_goods)), (tl_shyA, .inl (κ 0, 6, .inl tl_shy)), (tl_bidOfA, .inl (κ 0, 9, .inl tl_bidOf)), (tl_daysOfA, .inl (κ 0, 6, .inl tl_daysOf)), (sco, .inr (3, [.ref sc_setsA, .ref sc_weightsA, .int sc_count, .ref sc_bagsShortByA, .int sc_fits])), (sc_setsA, .inl (κ 0, 6, .inl sc_sets)), (sc_weightsA, .inl (κ 0, 6, .inl sc_weights)), (sc_bagsShortByA, .inl (κ 0, 10, .inl sc_bagsShortBy))]) H := hP
        have hD : va_D A ([(tlo, .inr (6, [.int tl_stands, .int tl_price, .int tl_death, .int tl_payers, .int tl_bids, .int tl_hostages, .int tl_bags, .int tl_bagMarks, .ref tl_goodsA, .ref tl_shyA, .ref tl_bidOfA, .ref tl_daysOfA])), (tl_goodsA, .inl (κ 0, 6, .inl tl_goods)), (tl_shyA, .inl (κ 0, 6, .inl tl_shy)), (tl_bidOfA, .inl (κ 0, 9, .inl tl_bidOf)), (tl_daysOfA, .inl (κ 0, 6, .inl tl_daysOf)), (sco, .inr (3, [.ref sc_setsA, .ref sc_weightsA, .int sc_count, .ref sc_bagsShortByA, .int sc_fits])), (sc_setsA, .inl (κ 0, 6, .inl sc_sets)), (sc_weightsA, .inl (κ 0, 6, .inl sc_weights)), (sc_bagsShortByA, .inl (κ 0, 10, .inl sc_bagsShortBy))]) := hD
        refine lv_istore (lv' := [(5, .int r2), (0, .ref sco), (1, .ref tlo), (2, .int v2), (3, .int v3), (4, .int v4)]) hx hb dX3_nextSet_27 hl (by decide) rfl (fun ls hl => ?_)
        refine lv_iload hx hb dX3_nextSet_29 (lv_at hl 0 rfl) ?_
        refine lv_iload_n hx hb dX3_nextSet_31 rfl (lv_at hl 4 rfl) ?_
        refine lv_icmp_ge (tgt := 41) hx hb dX3_nextSet_32 (by decide) (fun c4 => ?_) (fun c4 => ?_)
        · replace hres := og_t c4 hres
          exact L41 v2 v3 v4 _ _ _ (hP.sub [5, 6, 7, 8, 0, 1, 2, 3, 4] rfl) (hD.sub [5, 6, 7, 8, 0, 1, 2, 3, 4] (by decide) rfl) hS (lv_sub hl [1, 2, 3, 4, 5] rfl) hres
        · replace hres := og_f c4 hres
          refine lv_iload hx hb dX3_nextSet_35 (lv_at hl 0 rfl) ?_
          refine lv_istore_n (lv' := [(3, .int r2), (5, .int r2), (0, .ref sco), (1, .ref tlo), (2, .int v2), (4, .int v4)]) hx hb dX3_nextSet_37 rfl hl (by decide) rfl (fun ls hl => ?_)
          refine lv_iload hx hb dX3_nextSet_38 (lv_at hl 5 rfl) ?_
          refine lv_istore_n (lv' := [(2, .int v4), (3, .int r2), (5, .int r2), (0, .ref sco), (1, .ref tlo), (4, .int v4)]) hx hb dX3_nextSet_40 rfl hl (by decide) rfl (fun ls hl => ?_)
          exact L41 v4 r2 v4 _ _ _ (hP.sub [5, 6, 7, 8, 0, 1, 2, 3, 4] rfl) (hD.sub [5, 6, 7, 8, 0, 1, 2, 3, 4] (by decide) rfl) hS (lv_sub hl [3, 4, 0, 1, 5] rfl) hres
  unfold pX3_nextSet at hres
  refine lv_iconst (v := (-1)) hx hb dX3_nextSet_0 (by decide) ?_
  refine lv_istore_n (lv' := [(2, .int (-1)), (0, .ref sco), (1, .ref tlo)]) hx hb dX3_nextSet_1 rfl hl (by decide) rfl (fun ls hl => ?_)
  refine lv_aload_n hx hb dX3_nextSet_2 rfl (lv_at hl 1 rfl) ?_
  refine va_get (D := D) (ci := 3) (v := .int sc_fits) (C := RX3) (T := TX3) (N := 5) hx hb hts iw3 hown hK.1 hP 0 rfl rfl 4 (by decide) k0 (fun _ h9 => h9) rfl dX3_nextSet_3 ?_
  refine lv_istore_n (lv' := [(3, .int sc_fits), (2, .int (-1)), (0, .ref sco), (1, .ref tlo)]) hx hb dX3_nextSet_6 rfl hl (by decide) rfl (fun ls hl => ?_)
  refine lv_iconst (v := 1) hx hb dX3_nextSet_7 (by decide) ?_
  refine lv_istore (lv' := [(4, .int 1), (3, .int sc_fits), (2, .int (-1)), (0, .ref sco), (1, .ref tlo)]) hx hb dX3_nextSet_8 hl (by decide) rfl (fun ls hl => ?_)
  exact L10 N (-1) sc_fits 1 _ _ _ hP hD hS (lv_sub hl [3, 4, 2, 1, 0] rfl) hres

def pX4_layOut_L6 (x1 : Int32) (x2 : Int32) (x3 : Int32) : Nat → Int32 → Int32 → (Nat → Int32) → (Nat → Int32) → Option (Int32 × (Nat → Int32) × (Nat → Int32))
  | 0, _, _, _, _ => none
  | n6 + 1, v4, v5, w_sp_paid, w_sp_hidden =>
    (if 5 ≤ v5 then
    some (v4, w_sp_paid, w_sp_hidden)
    else
    kb1 (pX8_pays x2 x3 (v5 * 25)) fun r2 =>
    if ((x1 * 5) + v5) < 0 ∨ 30 ≤ ((x1 * 5) + v5).toNatClampNeg then none else
    kb1 (pX8_tells x2 x3 (v5 * 25)) fun r5 =>
    kl (if v4 < ((upd w_sp_paid (((x1 * 5) + v5).toNatClampNeg) r2) (((x1 * 5) + v5).toNatClampNeg)) then ((upd w_sp_paid (((x1 * 5) + v5).toNatClampNeg) r2) (((x1 * 5) + v5).toNatClampNeg)) else v4) fun y7 =>
    pX4_layOut_L6 x1 x2 x3 n6 y7 (v5 + 1) (upd w_sp_paid (((x1 * 5) + v5).toNatClampNeg) r2) (upd w_sp_hidden (((x1 * 5) + v5).toNatClampNeg) (x2 - r5)))
def pX4_layOut (N : Nat) (x1 : Int32) (x2 : Int32) (x3 : Int32) (sp_paid : Nat → Int32) (sp_hidden : Nat → Int32) : Option (Int32 × (Nat → Int32) × (Nat → Int32)) :=
    pX4_layOut_L6 x1 x2 x3 N 0 0 sp_paid sp_hidden
set_option maxHeartbeats 8000000 in
set_option maxRecDepth 100000 in
theorem tX4_layOut (l : Launch) (D : va_G) (κ : Nat → ClassId) (spo : Nat) (sp_paidA : Nat) (sp_hiddenA : Nat) (sp_mostFromA : Nat) (sp_triedA : Nat) (sp_bestA : Nat) (N : Nat) (sp_paid : Nat → Int32) (sp_hidden : Nat → Int32) (sp_mostFrom : Nat → Int32) (sp_tried : Nat → Int32) (sp_best : Nat → Int32) (sp_payers : Int32) (sp_much : Int32) (sp_leastHidden : Int32) (x1 : Int32) (x2 : Int32) (x3 : Int32) (r0 : Int32) (z_sp_paid : Nat → Int32) (z_sp_hidden : Nat → Int32) (hres : pX4_layOut N x1 x2 x3 sp_paid sp_hidden = some (r0, z_sp_paid, z_sp_hidden)) : krI l yX4_layOut wsX4_layOut { frames := 3, cells := 0, slots := 0, locals := 300 } D κ [.ref spo, .int x1, .int x2, .int x3] ([(spo, .inr (4, [.ref sp_paidA, .ref sp_hiddenA, .ref sp_mostFromA, .ref sp_triedA, .ref sp_bestA, .int sp_payers, .int sp_much, .int sp_leastHidden])), (sp_paidA, .inl (κ 0, 30, .inl sp_paid)), (sp_hiddenA, .inl (κ 0, 30, .inl sp_hidden)), (sp_mostFromA, .inl (κ 0, 7, .inl sp_mostFrom)), (sp_triedA, .inl (κ 0, 6, .inl sp_tried)), (sp_bestA, .inl (κ 0, 6, .inl sp_best))]) ([(spo, .inr (4, [.ref sp_paidA, .ref sp_hiddenA, .ref sp_mostFromA, .ref sp_triedA, .ref sp_bestA, .int sp_payers, .int sp_much, .int sp_leastHidden])), (sp_paidA, .inl (κ 0, 30, .inl z_sp_paid)), (sp_hiddenA, .inl (κ 0, 30, .inl z_sp_hidden)), (sp_mostFromA, .inl (κ 0, 7, .inl sp_mostFrom)), (sp_triedA, .inl (κ 0, 6, .inl sp_tried)), (sp_bestA, .inl (κ 0, 6, .inl sp_best))]) r0 := by
  refine krI_of (cc := cX4_layOut) (maxL := 7) (rt := .int) (by decide) rfl (Nat.le_of_ble_eq_true rfl) ?_
  intro p e s m args below meth c A Q ls hx hb hml hown hts hK hA hret hP hD hS hl
  have hown : s.vm.findClass RX4 = some m.cls := hown
  have hl : lv_has ls 7 [(0, .ref spo), (1, .int x1), (2, .int x2), (3, .int x3)] := hl
  have iw4 : ∀ w ∈ u_ws RX4 TX4 8, w ∈ wsX4_layOut := (fun _ h => List.mem_cons_of_mem _ (List.mem_append_right _ h))
  have k0 : (Cond.fieldLink RX4 11 "KingRansom$Spreading" "paid" "[I").before args s = true := hts _ (List.mem_of_getElem? (i := 1) rfl)
  have k1 : (Cond.initialized RX8).before args s = true := hts _ (List.mem_of_getElem? (i := 8) rfl)
  have k2 : (Cond.static yX8_pays).before args s = true := hts _ (List.mem_of_getElem? (i := 7) rfl)
  have k3 : (Cond.fieldLink RX4 15 "KingRansom$Spreading" "hidden" "[I").before args s = true := hts _ (List.mem_of_getElem? (i := 2) rfl)
  have k4 : (Cond.static yX8_tells).before args s = true := hts _ (List.mem_of_getElem? (i := 11) rfl)
  have k5 : (Cond.methodLink RX4 63 Lib.Math.max.name).before args s = true := hts _ (List.mem_of_getElem? (i := 3) rfl)
  have k6 : (Cond.static Lib.Math.max.name).before args s = true := hts _ (List.mem_of_getElem? (i := 4) rfl)
  have k7 : (Cond.initialized "java/lang/Math").before args s = true := hts _ (List.mem_of_getElem? (i := 5) rfl)
  have k8 : (Cond.code Lib.Math.max.name Lib.Math.max.code 2 (some .int)).before args s = true := hts _ (List.mem_of_getElem? (i := 6) rfl)
  have L6 : ∀ (n6 : Nat) (v4 : Int32) (v5 : Int32) (w_sp_paid : Nat → Int32) (w_sp_hidden : Nat → Int32) (H : Heap) (locs : List Loc) (ls : Array Slot), va_P D vwCl ([(spo, .inr (4, [.ref sp_paidA, .ref sp_hiddenA, .ref sp_mostFromA, .ref sp_triedA, .ref sp_bestA, .int sp_payers, .int sp_much, .int sp_leastHidden])), (sp_paidA, .inl (κ 0, 30, .inl w_sp_paid)), (sp_hiddenA, .inl (κ 0, 30, .inl w_sp_hidden)), (sp_mostFromA, .inl (κ 0, 7, .inl sp_mostFrom)), (sp_triedA, .inl (κ 0, 6, .inl sp_tried)), (sp_bestA, .inl (κ 0, 6, .inl sp_best))]) H → va_D A ([(spo, .inr (4, [.ref sp_paidA, .ref sp_hiddenA, .ref sp_mostFromA, .ref sp_triedA, .ref sp_bestA, .int sp_payers, .int sp_much, .int sp_leastHidden])), (sp_paidA, .inl (κ 0, 30, .inl w_sp_paid)), (sp_hiddenA, .inl (κ 0, 30, .inl w_sp_hidden)), (sp_mostFromA, .inl (κ 0, 7, .inl sp_mostFrom)), (sp_triedA, .inl (κ 0, 6, .inl sp_tried)), (sp_bestA, .inl (κ 0, 6, .inl sp_best))]) → va_S A s.heap H locs → lv_has ls 7 [(0, .ref spo), (1, .int x1), (2, .int x2), (3, .int x3), (4, .int v4), (5, .int v5)] → pX4_layOut_L6 x1 x2 x3 n6 v4 v5 w_sp_paid w_sp_hidden = some (r0, z_sp_paid, z_sp_hidden) → W p l e { frames := 3, cells := 0, slots := 0, locals := 300 } s m args below meth c H locs 0 0 Q (F0 m 6 ls []) := by
    intro n6
    induction n6 with
    | zero =>
      intro v4 v5 w_sp_paid w_sp_hidden H locs ls hP hD hS hl hres
      exact absurd (show none = some _ from hres) (by simp)
    | succ n6 ih6 =>
      intro v4 v5 w_sp_paid w_sp_hidden H locs ls hP hD hS hl hres
      rw [pX4_layOut_L6] at hres
      refine lv_iload hx hb dX4_layOut_6 (lv_at hl 5 rfl) ?_
      refine lv_iconst (v := 5) hx hb dX4_layOut_8 (by decide) ?_
      refine lv_icmp_ge (tgt := 76) hx hb dX4_layOut_9 (by decide) (fun c1 => ?_) (fun c1 => ?_)
      · replace hres := og_t c1 hres
        refine lv_iload hx hb dX4_layOut_76 (lv_at hl 4 rfl) ?_
        have hres := Option.some.inj hres
        have h0 := (Prod.mk.inj hres).1
        replace hres := (Prod.mk.inj hres).2
        have h1 := (Prod.mk.inj hres).1
        replace hres := (Prod.mk.inj hres).2
        have h2 := hres
        subst h0
        subst h1
        subst h2
        exact hret _ _ _ _ (vp_nar_int _) hP hD hS dX4_layOut_78
      · replace hres := og_f c1 hres
        refine lv_iload_n hx hb dX4_layOut_12 rfl (lv_at hl 1 rfl) ?_
        refine lv_iconst (v := 5) hx hb dX4_layOut_13 (by decide) ?_
        refine lv_imul hx hb dX4_layOut_14 ?_
        refine lv_iload hx hb dX4_layOut_15 (lv_at hl 5 rfl) ?_
        refine lv_iadd hx hb dX4_layOut_17 ?_
        refine lv_istore (lv' := [(6, .int ((x1 * 5) + v5)), (0, .ref spo), (1, .int x1), (2, .int x2), (3, .int x3), (4, .int v4), (5, .int v5)]) hx hb dX4_layOut_18 hl (by decide) rfl (fun ls hl => ?_)
        refine lv_aload_n hx hb dX4_layOut_20 rfl (lv_at hl 1 rfl) ?_
        refine va_get (D := D) (ci := 4) (v := .ref sp_paidA) (C := RX4) (T := TX4) (N := 8) hx hb hts iw4 hown hK.1 hP 0 rfl rfl 0 (by decide) k0 (fun _ h9 => h9) rfl dX4_layOut_21 ?_
        refine lv_iload hx hb dX4_layOut_24 (lv_at hl 0 rfl) ?_
        refine lv_iload_n hx hb dX4_layOut_26 rfl (lv_at hl 3 rfl) ?_
        refine lv_iload_n hx hb dX4_layOut_27 rfl (lv_at hl 4 rfl) ?_
        refine lv_iload hx hb dX4_layOut_28 (lv_at hl 6 rfl) ?_
        refine lv_bipush (v := 25) hx hb dX4_layOut_30 (by decide) ?_
        refine lv_imul hx hb dX4_layOut_32 ?_
        obtain ⟨r2, hc3, hres⟩ := kb1_s hres
        refine krI_SN0 (As := [.int x2, .int x3, .int (v5 * 25)]) (rest := [.int ((x1 * 5) + v5), .ref sp_paidA]) ⟨hx, hb, hml, hown, hts⟩ hK (tX8_pays l D κ x2 x3 (v5 * 25) r2 hc3) ⟨va_cnB 3 hts gX4_layOut_X8_pays_n57 rfl rfl rfl (hK.ml 27 rfl) k1 (by decide +kernel) ⟨(Nat.le_of_ble_eq_true rfl), (Nat.le_of_ble_eq_true rfl)⟩, k2, trivial⟩ hP hD hS hA rfl hl.1 rfl (Nat.le_of_ble_eq_true rfl) dX4_layOut_33 ⟨Nat.zero_le _, Nat.zero_le _⟩ (fun H locs hP hD hS => ?_)
        obtain ⟨g4, hres⟩ := og_no hres
        refine kr_iast (f := w_sp_paid) (j := ((x1 * 5) + v5).toNatClampNeg) (x := r2) hx hb hK hP hD hS 1 rfl g4 rfl dX4_layOut_36 (fun H locs hP hD hS => ?_)
        have hP : va_P D vwCl ([(spo, .inr (4, [.ref sp_paidA, .ref sp_hiddenA, .ref sp_mostFromA, .ref sp_triedA, .ref sp_bestA, .int sp_payers, .int sp_much, .int sp_leastHidden])), (sp_paidA, .inl (κ 0, 30, .inl (upd w_sp_paid (((x1 * 5) + v5).toNatClampNeg) r2))), (sp_hiddenA, .inl (κ 0, 30, .inl w_sp_hidden)), (sp_mostFromA, .inl (κ 0, 7, .inl sp_mostFrom)), (sp_triedA, .inl (κ 0, 6, .inl sp_tried)), (sp_bestA, .inl (κ 0, 6, .inl sp_best))]) H := hP
        have hD : va_D A ([(spo, .inr (4, [.ref sp_paidA, .ref sp_hiddenA, .ref sp_mostFromA, .ref sp_triedA, .ref sp_bestA, .int sp_payers, .int sp_much, .int sp_leastHidden])), (sp_paidA, .inl (κ 0, 30, .inl (upd w_sp_paid (((x1 * 5) + v5).toNatClampNeg) r2))), (sp_hiddenA, .inl (κ 0, 30, .inl w_sp_hidden)), (sp_mostFromA, .inl (κ 0, 7, .inl sp_mostFrom)), (sp_triedA, .inl (κ 0, 6, .inl sp_tried)), (sp_bestA, .inl (κ 0, 6, .inl sp_best))]) := hD
        refine lv_aload_n hx hb dX4_layOut_37 rfl (lv_at hl 1 rfl) ?_
        refine va_get (D := D) (ci := 4) (v := .ref sp_hiddenA) (C := RX4) (T := TX4) (N := 8) hx hb hts iw4 hown hK.1 hP 0 rfl rfl 1 (by decide) k3 (fun _ h9 => h9) rfl dX4_layOut_38 ?_
        refine lv_iload hx hb dX4_layOut_41 (lv_at hl 0 rfl) ?_
        refine lv_iload_n hx hb dX4_layOut_43 rfl (lv_at hl 3 rfl) ?_
        refine lv_iload_n hx hb dX4_layOut_44 rfl (lv_at hl 3 rfl) ?_
        refine lv_iload_n hx hb dX4_layOut_45 rfl (lv_at hl 4 rfl) ?_
        refine lv_iload hx hb dX4_layOut_46 (lv_at hl 6 rfl) ?_
        refine lv_bipush (v := 25) hx hb dX4_layOut_48 (by decide) ?_
        refine lv_imul hx hb dX4_layOut_50 ?_
        obtain ⟨r5, hc6, hres⟩ := kb1_s hres
        refine krI_SN0 (As := [.int x2, .int x3, .int (v5 * 25)]) (rest := [.int x2, .int ((x1 * 5) + v5), .ref sp_hiddenA]) ⟨hx, hb, hml, hown, hts⟩ hK (tX8_tells l D κ x2 x3 (v5 * 25) r5 hc6) ⟨va_cnB 3 hts gX4_layOut_X8_tells_n60 rfl rfl rfl (hK.ml 28 rfl) k1 (by decide +kernel) ⟨(Nat.le_of_ble_eq_true rfl), (Nat.le_of_ble_eq_true rfl)⟩, k4, trivial⟩ hP hD hS hA rfl hl.1 rfl (Nat.le_of_ble_eq_true rfl) dX4_layOut_51 ⟨Nat.zero_le _, Nat.zero_le _⟩ (fun H locs hP hD hS => ?_)
        refine lv_isub hx hb dX4_layOut_54 ?_
        refine kr_iast (f := w_sp_hidden) (j := ((x1 * 5) + v5).toNatClampNeg) (x := (x2 - r5)) hx hb hK hP hD hS 2 rfl g4 rfl dX4_layOut_55 (fun H locs hP hD hS => ?_)
        have hP : va_P D vwCl ([(spo, .inr (4, [.ref sp_paidA, .ref sp_hiddenA, .ref sp_mostFromA, .ref sp_triedA, .ref sp_bestA, .int sp_payers, .int sp_much, .int sp_leastHidden])), (sp_paidA, .inl (κ 0, 30, .inl (upd w_sp_paid (((x1 * 5) + v5).toNatClampNeg) r2))), (sp_hiddenA, .inl (κ 0, 30, .inl (upd w_sp_hidden (((x1 * 5) + v5).toNatClampNeg) (x2 - r5)))), (sp_mostFromA, .inl (κ 0, 7, .inl sp_mostFrom)), (sp_triedA, .inl (κ 0, 6, .inl sp_tried)), (sp_bestA, .inl (κ 0, 6, .inl sp_best))]) H := hP
        have hD : va_D A ([(spo, .inr (4, [.ref sp_paidA, .ref sp_hiddenA, .ref sp_mostFromA, .ref sp_triedA, .ref sp_bestA, .int sp_payers, .int sp_much, .int sp_leastHidden])), (sp_paidA, .inl (κ 0, 30, .inl (upd w_sp_paid (((x1 * 5) + v5).toNatClampNeg) r2))), (sp_hiddenA, .inl (κ 0, 30, .inl (upd w_sp_hidden (((x1 * 5) + v5).toNatClampNeg) (x2 - r5)))), (sp_mostFromA, .inl (κ 0, 7, .inl sp_mostFrom)), (sp_triedA, .inl (κ 0, 6, .inl sp_tried)), (sp_bestA, .inl (κ 0, 6, .inl sp_best))]) := hD
        refine lv_iload hx hb dX4_layOut_56 (lv_at hl 5 rfl) ?_
        refine lv_aload_n hx hb dX4_layOut_58 rfl (lv_at hl 1 rfl) ?_
        refine va_get (D := D) (ci := 4) (v := .ref sp_paidA) (C := RX4) (T := TX4) (N := 8) hx hb hts iw4 hown hK.1 hP 0 rfl rfl 0 (by decide) k0 (fun _ h9 => h9) rfl dX4_layOut_59 ?_
        refine lv_iload hx hb dX4_layOut_62 (lv_at hl 0 rfl) ?_
        refine kr_iald (f := (upd w_sp_paid (((x1 * 5) + v5).toNatClampNeg) r2)) (j := ((x1 * 5) + v5).toNatClampNeg) hx hb hK hP 1 rfl g4 rfl dX4_layOut_64 ?_
        refine va_mmax hx hb (hml.trans hl.1.symm) hown k5 k6 k7 k8 (Nat.le_of_ble_eq_true rfl) (Nat.le_of_ble_eq_true rfl) (Nat.zero_le _) (Nat.zero_le _) dX4_layOut_65 ?_
        obtain ⟨y7, ey7, hres⟩ := kl_s hres
        refine kr_tope ey7 ?_
        refine lv_istore (lv' := [(4, .int y7), (6, .int ((x1 * 5) + v5)), (0, .ref spo), (1, .int x1), (2, .int x2), (3, .int x3), (5, .int v5)]) hx hb dX4_layOut_68 hl (by decide) rfl (fun ls hl => ?_)
        refine lv_iinc (v := (v5 + 1)) (lv' := [(5, .int (v5 + 1)), (4, .int y7), (6, .int ((x1 * 5) + v5)), (0, .ref spo), (1, .int x1), (2, .int x2), (3, .int x3)]) hx hb dX4_layOut_70 hl (k := 6) rfl rfl (by decide) rfl (fun ls hl => ?_)
        refine lv_goto (tgt := 6) hx hb dX4_layOut_73 (by decide) ?_
        exact ih6 y7 (v5 + 1) (upd w_sp_paid (((x1 * 5) + v5).toNatClampNeg) r2) (upd w_sp_hidden (((x1 * 5) + v5).toNatClampNeg) (x2 - r5)) _ _ _ hP hD hS (lv_sub hl [3, 4, 5, 6, 1, 0] rfl) hres
  unfold pX4_layOut at hres
  refine lv_iconst (v := 0) hx hb dX4_layOut_0 (by decide) ?_
  refine lv_istore (lv' := [(4, .int 0), (0, .ref spo), (1, .int x1), (2, .int x2), (3, .int x3)]) hx hb dX4_layOut_1 hl (by decide) rfl (fun ls hl => ?_)
  refine lv_iconst (v := 0) hx hb dX4_layOut_3 (by decide) ?_
  refine lv_istore (lv' := [(5, .int 0), (4, .int 0), (0, .ref spo), (1, .int x1), (2, .int x2), (3, .int x3)]) hx hb dX4_layOut_4 hl (by decide) rfl (fun ls hl => ?_)
  exact L6 N 0 0 sp_paid sp_hidden _ _ _ hP hD hS (lv_sub hl [2, 3, 4, 5, 1, 0] rfl) hres
