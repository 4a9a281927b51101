def pX8_spread_L16 (N : Nat) (x1 : Int32) (x2 : Int32) (tl_payers : Int32) (tl_shy : Nat → Int32) (nw_goods : Nat → Int32) (sp_paid : Nat → Int32) (sp_hidden : Nat → Int32) (sp_mostFrom : Nat → Int32) (sp_tried : Nat → Int32) (sp_best : Nat → Int32) (sp_payers : Int32) (sp_much : Int32) (sp_leastHidden : Int32) : Option (Int32 × (Nat → Int32) × (Nat → Int32) × (Nat → Int32) × (Nat → Int32) × (Nat → Int32) × Int32 × Int32 × Int32) :=
    kb1 (pX8_isMuch x1) fun r5 =>
    (if r5 = 0 then
    some ((-1000000002), sp_paid, sp_hidden, sp_mostFrom, sp_tried, sp_best, sp_payers, sp_much, sp_leastHidden)
    else
    kb9 (pX4_find N x1 sp_paid sp_hidden sp_mostFrom sp_tried sp_best nw_goods tl_payers tl_shy) fun r8 w9 w10 w11 w12 w13 w14 w15 w16 =>
    (if r8 = 0 then
    some ((-1), w9, w10, w11, w12, w13, w14, w15, w16)
    else
    (if x2 = (-1) then
    some (w16, w9, w10, w11, w12, w13, w14, w15, w16)
    else
    if x2 < 0 ∨ 6 ≤ x2.toNatClampNeg then none else
    some ((w13 x2.toNatClampNeg), w9, w10, w11, w12, w13, w14, w15, w16))))
def pX8_spread (N : Nat) (x1 : Int32) (x2 : Int32) (tl_payers : Int32) (tl_shy : Nat → Int32) (nw_goods : Nat → Int32) (sp_paid : Nat → Int32) (sp_hidden : Nat → Int32) (sp_mostFrom : Nat → Int32) (sp_tried : Nat → Int32) (sp_best : Nat → Int32) (sp_payers : Int32) (sp_much : Int32) (sp_leastHidden : Int32) : Option (Int32 × (Nat → Int32) × (Nat → Int32) × (Nat → Int32) × (Nat → Int32) × (Nat → Int32) × Int32 × Int32 × Int32) :=
    (if x2 = (-1) then
    pX8_spread_L16 N x1 x2 tl_payers tl_shy nw_goods sp_paid sp_hidden sp_mostFrom sp_tried sp_best sp_payers sp_much sp_leastHidden
    else
    kb1 (pX8_isPayer x2 tl_payers) fun r2 =>
    (if r2 = 0 then
    some ((-1000000001), sp_paid, sp_hidden, sp_mostFrom, sp_tried, sp_best, sp_payers, sp_much, sp_leastHidden)
    else
    pX8_spread_L16 N x1 x2 tl_payers tl_shy nw_goods sp_paid sp_hidden sp_mostFrom sp_tried sp_best sp_payers sp_much sp_leastHidden))
set_option maxHeartbeats 8000000 in
set_option maxRecDepth 100000 in
theorem tX8_spread (l : Launch) (D : va_G) (κ : Nat → ClassId) (kro : Nat) (txo : Nat) (tlo : Nat) (dfo : Nat) (nwo : Nat) (aho : Nat) (pao : Nat) (iaA : Nat) (sco : Nat) (bko : Nat) (spo : Nat) (tl_goodsA : Nat) (tl_shyA : Nat) (tl_bidOfA : Nat) (tl_daysOfA : Nat) (nw_goodsA : Nat) (nw_ratesA : Nat) (sp_paidA : Nat) (sp_hiddenA : Nat) (sp_mostFromA : Nat) (sp_triedA : Nat) (sp_bestA : Nat) (N : Nat) (kr_drawn : Int32) (tl_stands : Int32) (tl_price : Int32) (tl_death : Int32) (tl_payers : Int32) (tl_bids : Int32) (tl_hostages : Int32) (tl_bags : Int32) (tl_bagMarks : Int32) (tl_goods : Nat → Int32) (tl_shy : Nat → Int32) (tl_bidOf : Nat → Int32) (tl_daysOf : Nat → Int32) (nw_price : Int32) (nw_months : Int32) (nw_chest : Int32) (nw_given : Int32) (nw_fate : Int32) (nw_goods : Nat → Int32) (nw_rates : Nat → Int32) (sp_paid : Nat → Int32) (sp_hidden : Nat → Int32) (sp_mostFrom : Nat → Int32) (sp_tried : Nat → Int32) (sp_best : Nat → Int32) (sp_payers : Int32) (sp_much : Int32) (sp_leastHidden : Int32) (x1 : Int32) (x2 : Int32) (r0 : Int32) (z_sp_paid : Nat → Int32) (z_sp_hidden : Nat → Int32) (z_sp_mostFrom : Nat → Int32) (z_sp_tried : Nat → Int32) (z_sp_best : Nat → Int32) (z_sp_payers : Int32) (z_sp_much : Int32) (z_sp_leastHidden : Int32) (hres : pX8_spread N x1 x2 tl_payers tl_shy nw_goods sp_paid sp_hidden sp_mostFrom sp_tried sp_best sp_payers sp_much sp_leastHidden = some (r0, z_sp_paid, z_sp_hidden, z_sp_mostFrom, z_sp_tried, z_sp_best, z_sp_payers, z_sp_much, z_sp_leastHidden)) : krI l yX8_spread wsX8_spread { frames := 10, cells := 0, slots := 0, locals := 1000 } D κ [.ref kro, .int x1, .int x2] ([(kro, .inr (8, [.ref txo, .ref tlo, .ref dfo, .ref nwo, .ref aho, .ref pao, .ref iaA, .ref sco, .ref bko, .ref spo, .int kr_drawn])), (tlo, .inr (6, [.int tl_stands, .int tl_price, .int tl_death, .int tl_payers, .int tl_bids, .int tl_hostages, .int tl_bags, .int tl_bagMarks, .ref tl_goodsA, .ref tl_shyA, .ref tl_bidOfA, .ref tl_daysOfA])), (tl_goodsA, .inl (κ 0, 6, .inl tl_goods)), (tl_shyA, .inl (κ 0, 6, .inl tl_shy)), (tl_bidOfA, .inl (κ 0, 9, .inl tl_bidOf)), (tl_daysOfA, .inl (κ 0, 6, .inl tl_daysOf)), (nwo, .inr (5, [.int nw_price, .int nw_months, .int nw_chest, .int nw_given, .int nw_fate, .ref nw_goodsA, .ref nw_ratesA])), (nw_goodsA, .inl (κ 0, 6, .inl nw_goods)), (nw_ratesA, .inl (κ 0, 6, .inl nw_rates)), (spo, .inr (4, [.ref sp_paidA, .ref sp_hiddenA, .ref sp_mostFromA, .ref sp_triedA, .ref sp_bestA, .int sp_payers, .int sp_much, .int sp_leastHidden])), (sp_paidA, .inl (κ 0, 30, .inl sp_paid)), (sp_hiddenA, .inl (κ 0, 30, .inl sp_hidden)), (sp_mostFromA, .inl (κ 0, 7, .inl sp_mostFrom)), (sp_triedA, .inl (κ 0, 6, .inl sp_tried)), (sp_bestA, .inl (κ 0, 6, .inl sp_best))]) ([(kro, .inr (8, [.ref txo, .ref tlo, .ref dfo, .ref nwo, .ref aho, .ref pao, .ref iaA, .ref sco, .ref bko, .ref spo, .int kr_drawn])), (tlo, .inr (6, [.int tl_stands, .int tl_price, .int tl_death, .int tl_payers, .int tl_bids, .int tl_hostages, .int tl_bags, .int tl_bagMarks, .ref tl_goodsA, .ref tl_shyA, .ref tl_bidOfA, .ref tl_daysOfA])), (tl_goodsA, .inl (κ 0, 6, .inl tl_goods)), (tl_shyA, .inl (κ 0, 6, .inl tl_shy)), (tl_bidOfA, .inl (κ 0, 9, .inl tl_bidOf)), (tl_daysOfA, .inl (κ 0, 6, .inl tl_daysOf)), (nwo, .inr (5, [.int nw_price, .int nw_months, .int nw_chest, .int nw_given, .int nw_fate, .ref nw_goodsA, .ref nw_ratesA])), (nw_goodsA, .inl (κ 0, 6, .inl nw_goods)), (nw_ratesA, .inl (κ 0, 6, .inl nw_rates)), (spo, .inr (4, [.ref sp_paidA, .ref sp_hiddenA, .ref sp_mostFromA, .ref sp_triedA, .ref sp_bestA, .int z_sp_payers, .int z_sp_much, .int z_sp_leastHidden])), (sp_paidA, .inl (κ 0, 30, .inl z_sp_paid)), (sp_hiddenA, .inl (κ 0, 30, .inl z_sp_hidden)), (sp_mostFromA, .inl (κ 0, 7, .inl z_sp_mostFrom)), (sp_triedA, .inl (κ 0, 6, .inl z_sp_tried)), (sp_bestA, .inl (κ 0, 6, .inl z_sp_best))]) r0 := by
  refine krI_of (cc := cX8_spread) (maxL := 3) (rt := .int) (by decide) rfl (Nat.le_of_ble_eq_true rfl) ?_
  intro p e s m args below meth c A Q ls hx hb hml hown hts hK hA hret hP hD hS hl
  have hown : s.vm.findClass RX8 = some m.cls := hown
  have hl : lv_has ls 3 [(0, .ref kro), (1, .int x1), (2, .int x2)] := hl
  have iw8 : ∀ w ∈ u_ws RX8 TX8 11, w ∈ wsX8_spread := (fun _ h => List.mem_cons_of_mem _ (List.mem_append_left _ (List.mem_append_left _ (List.mem_append_left _ (List.mem_append_right _ h)))))
  have iw4 : ∀ w ∈ u_ws RX4 TX4 8, w ∈ wsX8_spread := (fun _ h => List.mem_cons_of_mem _ (List.mem_append_left _ (List.mem_append_left _ (List.mem_append_right _ h))))
  have k0 : (Cond.constant RX8 146 (-1000000001)).before args s = true := hts _ (List.mem_of_getElem? (i := 1) rfl)
  have k1 : (Cond.fieldLink RX8 66 "KingRansom" "spreading" "LKingRansom$Spreading;").before args s = true := hts _ (List.mem_of_getElem? (i := 3) rfl)
  have k2 : (Cond.fieldLink RX8 29 "KingRansom" "now" "LKingRansom$State;").before args s = true := hts _ (List.mem_of_getElem? (i := 4) rfl)
  have k3 : (Cond.fieldLink RX8 19 "KingRansom" "tale" "LKingRansom$Tale;").before args s = true := hts _ (List.mem_of_getElem? (i := 5) rfl)
  have k4 : (Cond.initialized RX4).before args s = true := hts _ (List.mem_of_getElem? (i := 15) rfl)
  have k5 : (Cond.instanceMethod yX4_find).before args s = true := hts _ (List.mem_of_getElem? (i := 14) rfl)
  have k6 : (Cond.selects RX4 yX4_find yX4_find).before args s = true := hts _ (List.mem_of_getElem? (i := 16) rfl)
  have k7 : (Cond.constant RX8 71 (-1000000002)).before args s = true := hts _ (List.mem_of_getElem? (i := 2) rfl)
  have L16 : ∀ (H : Heap) (locs : List Loc) (ls : Array Slot), va_P D vwCl ([(kro, .inr (8, [.ref txo, .ref tlo, .ref dfo, .ref nwo, .ref aho, .ref pao, .ref iaA, .ref sco, .ref bko, .ref spo, .int kr_drawn])), (tlo, .inr (6, [.int tl_stands, .int tl_price, .int tl_death, .int tl_payers, .int tl_bids, .int tl_hostages, .int tl_bags, .int tl_bagMarks, .ref tl_goodsA, .ref tl_shyA, .ref tl_bidOfA, .ref tl_daysOfA])), (tl_goodsA, .inl (κ 0, 6, .inl tl_goods)), (tl_shyA, .inl (κ 0, 6, .inl tl_shy)), (tl_bidOfA, .inl (κ 0, 9, .inl tl_bidOf)), (tl_daysOfA, .inl (κ 0, 6, .inl tl_daysOf)), (nwo, .inr (5, [.int nw_price, .int nw_months, .int nw_chest, .int nw_given, .int nw_fate, .ref nw_goodsA, .ref nw_ratesA])), (nw_goodsA, .inl (κ 0, 6, .inl nw_goods)), (nw_ratesA, .inl (κ 0, 6, .inl nw_rates)), (spo, .inr (4, [.ref sp_paidA, .ref sp_hiddenA, .ref sp_mostFromA, .ref sp_triedA, .ref sp_bestA, .int sp_payers, .int sp_much, .int sp_leastHidden])), (sp_paidA, .inl (κ 0, 30, .inl sp_paid)), (sp_hiddenA, .inl (κ 0, 30, .inl sp_hidden)), (sp_mostFromA, .inl (κ 0, 7, .inl sp_mostFrom)), (sp_triedA, .inl (κ 0, 6, .inl sp_tried)), (sp_bestA, .inl (κ 0, 6, .inl sp_best))]) H → va_D A ([(kro, .inr (8, [.ref txo, .ref tlo, .ref dfo, .ref nwo, .ref aho, .ref pao, .ref iaA, .ref sco, .ref bko, .ref spo, .int kr_drawn])), (tlo, .inr (6, [.int tl_stands, .int tl_price, .int tl_death, .int tl_payers, .int tl_bids, .int tl_hostages, .int tl_bags, .int tl_bagMarks, .ref tl_goodsA, .ref tl_shyA, .ref tl_bidOfA, .ref tl_daysOfA])), (tl_goodsA, .inl (κ 0, 6, .inl tl_goods)), (tl_shyA, .inl (κ 0, 6, .inl tl_shy)), (tl_bidOfA, .inl (κ 0, 9, .inl tl_bidOf)), (tl_daysOfA, .inl (κ 0, 6, .inl tl_daysOf)), (nwo, .inr (5, [.int nw_price, .int nw_months, .int nw_chest, .int nw_given, .int nw_fate, .ref nw_goodsA, .ref nw_ratesA])), (nw_goodsA, .inl (κ 0, 6, .inl nw_goods)), (nw_ratesA, .inl (κ 0, 6, .inl nw_rates)), (spo, .inr (4, [.ref sp_paidA, .ref sp_hiddenA, .ref sp_mostFromA, .ref sp_triedA, .ref sp_bestA, .int sp_payers, .int sp_much, .int sp_leastHidden])), (sp_paidA, .inl (κ 0, 30, .inl sp_paid)), (sp_hiddenA, .inl (κ 0, 30, .inl sp_hidden)), (sp_mostFromA, .inl (κ 0, 7, .inl sp_mostFrom)), (sp_triedA, .inl (κ 0, 6, .inl sp_tried)), (sp_bestA, .inl (κ 0, 6, .inl sp_best))]) → va_S A s.heap H locs → lv_has ls 3 [(0, .ref kro), (1, .int x1), (2, .int x2)] → pX8_spread_L16 N x1 x2 tl_payers tl_shy nw_goods sp_paid sp_hidden sp_mostFrom sp_tried sp_best sp_payers sp_much sp_leastHidden = some (r0, z_sp_paid, z_sp_hidden, z_sp_mostFrom, z_sp_tried, z_sp_best, z_sp_payers, z_sp_much, z_sp_leastHidden) → W p l e { frames := 10, cells := 0, slots := 0, locals := 1000 } s m args below meth c H locs 0 0 Q (F0 m 16 ls []) := by
    intro H locs ls hP hD hS hl hres
    unfold pX8_spread_L16 at hres
    refine lv_iload_n hx hb dX8_spread_16 rfl (lv_at hl 1 rfl) ?_
    obtain ⟨r5, hc6, hres⟩ := kb1_s hres
    refine krI_S0 (As := [.int x1]) (rest := []) ⟨hx, hb, hml, hown, hts⟩ hK (tX8_isMuch l D κ x1 r5 hc6) (va_cwS 1 hts gX8_spread_X8_isMuch rfl rfl rfl (by decide +kernel) ⟨(Nat.le_of_ble_eq_true rfl), (Nat.le_of_ble_eq_true rfl)⟩) hP hD hS hA rfl hl.1 rfl (Nat.le_of_ble_eq_true rfl) dX8_spread_17 ⟨Nat.zero_le _, Nat.zero_le _⟩ (fun H locs hP hD hS => ?_)
    refine lv_if_ne (tgt := 26) hx hb dX8_spread_20 (by decide) (fun c7 => ?_) (fun c7 => ?_)
    · replace hres := og_f c7 hres
      refine lv_aload_n hx hb dX8_spread_26 rfl (lv_at hl 0 rfl) ?_
      refine va_get (D := D) (ci := 8) (v := .ref spo) (C := RX8) (T := TX8) (N := 11) hx hb hts iw8 hown hK.1 hP 0 rfl rfl 9 (by decide) k1 (fun _ h9 => h9) rfl dX8_spread_27 ?_
      refine lv_aload_n hx hb dX8_spread_30 rfl (lv_at hl 0 rfl) ?_
      refine va_get (D := D) (ci := 8) (v := .ref nwo) (C := RX8) (T := TX8) (N := 11) hx hb hts iw8 hown hK.1 hP 0 rfl rfl 3 (by decide) k2 (fun _ h9 => h9) rfl dX8_spread_31 ?_
      refine lv_aload_n hx hb dX8_spread_34 rfl (lv_at hl 0 rfl) ?_
      refine va_get (D := D) (ci := 8) (v := .ref tlo) (C := RX8) (T := TX8) (N := 11) hx hb hts iw8 hown hK.1 hP 0 rfl rfl 1 (by decide) k3 (fun _ h9 => h9) rfl dX8_spread_35 ?_
      refine lv_iload_n hx hb dX8_spread_38 rfl (lv_at hl 1 rfl) ?_
      obtain ⟨r8, w9, w10, w11, w12, w13, w14, w15, w16, hc17, hres⟩ := kb9_s hres
      refine krI_VN (As := [.ref nwo, .ref tlo, .int x1]) (rest := []) (wr := [(kro, .inr (8, [.ref txo, .ref tlo, .ref dfo, .ref nwo, .ref aho, .ref pao, .ref iaA, .ref sco, .ref bko, .ref spo, .int kr_drawn]))]) ⟨hx, hb, hml, hown, hts⟩ hK (tX4_find l D κ spo sp_paidA sp_hiddenA sp_mostFromA sp_triedA sp_bestA nwo nw_goodsA nw_ratesA tlo tl_goodsA tl_shyA tl_bidOfA tl_daysOfA N sp_paid sp_hidden sp_mostFrom sp_tried sp_best sp_payers sp_much sp_leastHidden nw_price nw_months nw_chest nw_given nw_fate nw_goods nw_rates tl_stands tl_price tl_death tl_payers tl_bids tl_hostages tl_bags tl_bagMarks tl_goods tl_shy tl_bidOf tl_daysOf x1 r8 w9 w10 w11 w12 w13 w14 w15 w16 hc17) ⟨va_cnB 3 hts gX8_spread_X4_find_n209 rfl rfl rfl (hK.ml 26 rfl) k4 (by decide +kernel) ⟨(Nat.le_of_ble_eq_true rfl), (Nat.le_of_ble_eq_true rfl)⟩, k5, k6⟩ rfl rfl rfl hP hD hS hA [9, 10, 11, 12, 13, 14, 6, 7, 8, 1, 2, 3, 4, 5] [0] rfl rfl rfl rfl (by decide) rfl hl.1 rfl (Nat.le_of_ble_eq_true rfl) dX8_spread_39 ⟨Nat.zero_le _, Nat.zero_le _⟩ (fun H locs hP hD hS => ?_)
      have hP : va_P D vwCl ([(kro, .inr (8, [.ref txo, .ref tlo, .ref dfo, .ref nwo, .ref aho, .ref pao, .ref iaA, .ref sco, .ref bko, .ref spo, .int kr_drawn])), (spo, .inr (4, [.ref sp_paidA, .ref sp_hiddenA, .ref sp_mostFromA, .ref sp_triedA, .ref sp_bestA, .int w14, .int w15, .int w16])), (sp_paidA, .inl (κ 0, 30, .inl w9)), (sp_hiddenA, .inl (κ 0, 30, .inl w10)), (sp_mostFromA, .inl (κ 0, 7, .inl w11)), (sp_triedA, .inl (κ 0, 6, .inl w12)), (sp_bestA, .inl (κ 0, 6, .inl w13)), (nwo, .inr (5, [.int nw_price, .int nw_months, .int nw_chest, .int nw_given, .int nw_fate, .ref nw_goodsA, .ref nw_ratesA])), (nw_goodsA, .inl (κ 0, 6, .inl nw_goods)), (nw_ratesA, .inl (κ 0, 6, .inl nw_rates)), (tlo, .inr (6, [.int tl_stands, .int tl_price, .int tl_death, .int tl_payers, .int tl_bids, .int tl_hostages, .int tl_bags, .int tl_bagMarks, .ref tl_goodsA, .ref tl_shyA, .ref tl_bidOfA, .ref tl_daysOfA])), (tl_goodsA, .inl (κ 0, 6, .inl tl_goods)), (tl_shyA, .inl (κ 0, 6, .inl tl_shy)), (tl_bidOfA, .inl (κ 0, 9, .inl tl_bidOf)), (tl_daysOfA, .inl (κ 0, 6, .inl tl_daysOf))]) H := hP
      have hD : va_D A ([(kro, .inr (8, [.ref txo, .ref tlo, .ref dfo, .ref nwo, .ref aho, .ref pao, .ref iaA, .ref sco, .ref bko, .ref spo, .int kr_drawn])), (spo, .inr (4, [.ref sp_paidA, .ref sp_hiddenA, .ref sp_mostFromA, .ref sp_triedA, .ref sp_bestA, .int w14, .int w15, .int w16])), (sp_paidA, .inl (κ 0, 30, .inl w9)), (sp_hiddenA, .inl (κ 0, 30, .inl w10)), (sp_mostFromA, .inl (κ 0, 7, .inl w11)), (sp_triedA, .inl (κ 0, 6, .inl w12)), (sp_bestA, .inl (κ 0, 6, .inl w13)), (nwo, .inr (5, [.int nw_price, .int nw_months, .int nw_chest, .int nw_given, .int nw_fate, .ref nw_goodsA, .ref nw_ratesA])), (nw_goodsA, .inl (κ 0, 6, .inl nw_goods)), (nw_ratesA, .inl (κ 0, 6, .inl nw_rates)), (tlo, .inr (6, [.int tl_stands, .int tl_price, .int tl_death, .int tl_payers, .int tl_bids, .int tl_hostages, .int tl_bags, .int tl_bagMarks, .ref tl_goodsA, .ref tl_shyA, .ref tl_bidOfA, .ref tl_daysOfA])), (tl_goodsA, .inl (κ 0, 6, .inl tl_goods)), (tl_shyA, .inl (κ 0, 6, .inl tl_shy)), (tl_bidOfA, .inl (κ 0, 9, .inl tl_bidOf)), (tl_daysOfA, .inl (κ 0, 6, .inl tl_daysOf))]) := hD
      refine lv_if_ne (tgt := 47) hx hb dX8_spread_42 (by decide) (fun c18 => ?_) (fun c18 => ?_)
      · replace hres := og_f c18 hres
        refine lv_iload_n hx hb dX8_spread_47 rfl (lv_at hl 2 rfl) ?_
        refine lv_iconst (v := (-1)) hx hb dX8_spread_48 (by decide) ?_
        refine lv_icmp_ne (tgt := 62) hx hb dX8_spread_49 (by decide) (fun c19 => ?_) (fun c19 => ?_)
        · replace hres := og_f c19 hres
          refine lv_aload_n hx hb dX8_spread_62 rfl (lv_at hl 0 rfl) ?_
          refine va_get (D := D) (ci := 8) (v := .ref spo) (C := RX8) (T := TX8) (N := 11) hx hb hts iw8 hown hK.1 hP 0 rfl rfl 9 (by decide) k1 (fun _ h9 => h9) rfl dX8_spread_63 ?_
          refine va_getN (D := D) (ci := 4) (v := .ref sp_bestA) (C := RX4) (T := TX4) (N := 8) hx hb hts iw4 hown hK.1 hP 1 rfl rfl 4 (by decide) (hK.fl 42 rfl) (fun _ h9 => h9) rfl dX8_spread_66 ?_
          refine lv_iload_n hx hb dX8_spread_69 rfl (lv_at hl 2 rfl) ?_
          obtain ⟨g20, hres⟩ := og_no hres
          refine kr_iald (f := w13) (j := x2.toNatClampNeg) hx hb hK hP 6 rfl g20 rfl dX8_spread_70 ?_
          have hres := Option.some.inj hres
          have h0 := (Prod.mk.inj hres).1
          replace hres := (Prod.mk.inj hres).2
          have h1 := (Prod.mk.inj hres).1
          replace hres := (Prod.mk.inj hres).2
          have h2 := (Prod.mk.inj hres).1
          replace hres := (Prod.mk.inj hres).2
          have h3 := (Prod.mk.inj hres).1
          replace hres := (Prod.mk.inj hres).2
          have h4 := (Prod.mk.inj hres).1
          replace hres := (Prod.mk.inj hres).2
          have h5 := (Prod.mk.inj hres).1
          replace hres := (Prod.mk.inj hres).2
          have h6 := (Prod.mk.inj hres).1
          replace hres := (Prod.mk.inj hres).2
          have h7 := (Prod.mk.inj hres).1
          replace hres := (Prod.mk.inj hres).2
          have h8 := hres
          subst h0
          subst h1
          subst h2
          subst h3
          subst h4
          subst h5
          subst h6
          subst h7
          subst h8
          exact hret _ _ _ _ (vp_nar_int _) (hP.sub [0, 10, 11, 12, 13, 14, 7, 8, 9, 1, 2, 3, 4, 5, 6] rfl) (hD.sub [0, 10, 11, 12, 13, 14, 7, 8, 9, 1, 2, 3, 4, 5, 6] (by decide) rfl) hS dX8_spread_71
        · replace hres := og_t c19 hres
          refine lv_aload_n hx hb dX8_spread_52 rfl (lv_at hl 0 rfl) ?_
          refine va_get (D := D) (ci := 8) (v := .ref spo) (C := RX8) (T := TX8) (N := 11) hx hb hts iw8 hown hK.1 hP 0 rfl rfl 9 (by decide) k1 (fun _ h9 => h9) rfl dX8_spread_53 ?_
          refine va_getN (D := D) (ci := 4) (v := .int w16) (C := RX4) (T := TX4) (N := 8) hx hb hts iw4 hown hK.1 hP 1 rfl rfl 7 (by decide) (hK.fl 43 rfl) (fun _ h9 => h9) rfl dX8_spread_56 ?_
          refine lv_goto (tgt := 71) hx hb dX8_spread_59 (by decide) ?_
          have hres := Option.some.inj hres
          have h0 := (Prod.mk.inj hres).1
          replace hres := (Prod.mk.inj hres).2
          have h1 := (Prod.mk.inj hres).1
          replace hres := (Prod.mk.inj hres).2
          have h2 := (Prod.mk.inj hres).1
          replace hres := (Prod.mk.inj hres).2
          have h3 := (Prod.mk.inj hres).1
          replace hres := (Prod.mk.inj hres).2
          have h4 := (Prod.mk.inj hres).1
          replace hres := (Prod.mk.inj hres).2
          have h5 := (Prod.mk.inj hres).1
          replace hres := (Prod.mk.inj hres).2
          have h6 := (Prod.mk.inj hres).1
          replace hres := (Prod.mk.inj hres).2
          have h7 := (Prod.mk.inj hres).1
          replace hres := (Prod.mk.inj hres).2
          have h8 := hres
          subst h0
          subst h1
          subst h2
          subst h3
          subst h4
          subst h5
          subst h6
          subst h7
          subst h8
          exact hret _ _ _ _ (vp_nar_int _) (hP.sub [0, 10, 11, 12, 13, 14, 7, 8, 9, 1, 2, 3, 4, 5, 6] rfl) (hD.sub [0, 10, 11, 12, 13, 14, 7, 8, 9, 1, 2, 3, 4, 5, 6] (by decide) rfl) hS dX8_spread_71
      · replace hres := og_t c18 hres
        refine lv_iconst (v := (-1)) hx hb dX8_spread_45 (by decide) ?_
        have hres := Option.some.inj hres
        have h0 := (Prod.mk.inj hres).1
        replace hres := (Prod.mk.inj hres).2
        have h1 := (Prod.mk.inj hres).1
        replace hres := (Prod.mk.inj hres).2
        have h2 := (Prod.mk.inj hres).1
        replace hres := (Prod.mk.inj hres).2
        have h3 := (Prod.mk.inj hres).1
        replace hres := (Prod.mk.inj hres).2
        have h4 := (Prod.mk.inj hres).1
        replace hres := (Prod.mk.inj hres).2
        have h5 := (Prod.mk.inj hres).1
        replace hres := (Prod.mk.inj hres).2
        have h6 := (Prod.mk.inj hres).1
        replace hres := (Prod.mk.inj hres).2
        have h7 := (Prod.mk.inj hres).1
        replace hres := (Prod.mk.inj hres).2
        have h8 := hres
        subst h0
        subst h1
        subst h2
        subst h3
        subst h4
        subst h5
        subst h6
        subst h7
        subst h8
        exact hret _ _ _ _ (vp_nar_int _) (hP.sub [0, 10, 11, 12, 13, 14, 7, 8, 9, 1, 2, 3, 4, 5, 6] rfl) (hD.sub [0, 10, 11, 12, 13, 14, 7, 8, 9, 1, 2, 3, 4, 5, 6] (by decide) rfl) hS dX8_spread_46
    · replace hres := og_t c7 hres
      refine lv_ldc (v := (-1000000002)) hx hb hown k7 dX8_spread_23 ?_
      have hres := Option.some.inj hres
      have h0 := (Prod.mk.inj hres).1
      replace hres := (Prod.mk.inj hres).2
      have h1 := (Prod.mk.inj hres).1
      replace hres := (Prod.mk.inj hres).2
      have h2 := (Prod.mk.inj hres).1
      replace hres := (Prod.mk.inj hres).2
      have h3 := (Prod.mk.inj hres).1
      replace hres := (Prod.mk.inj hres).2
      have h4 := (Prod.mk.inj hres).1
      replace hres := (Prod.mk.inj hres).2
      have h5 := (Prod.mk.inj hres).1
      replace hres := (Prod.mk.inj hres).2
      have h6 := (Prod.mk.inj hres).1
      replace hres := (Prod.mk.inj hres).2
      have h7 := (Prod.mk.inj hres).1
      replace hres := (Prod.mk.inj hres).2
      have h8 := hres
      subst h0
      subst h1
      subst h2
      subst h3
      subst h4
      subst h5
      subst h6
      subst h7
      subst h8
      exact hret _ _ _ _ (vp_nar_int _) hP hD hS dX8_spread_25
  unfold pX8_spread at hres
  refine lv_iload_n hx hb dX8_spread_0 rfl (lv_at hl 2 rfl) ?_
  refine lv_iconst (v := (-1)) hx hb dX8_spread_1 (by decide) ?_
  refine lv_icmp_eq (tgt := 16) hx hb dX8_spread_2 (by decide) (fun c1 => ?_) (fun c1 => ?_)
  · replace hres := og_t c1 hres
    exact L16  _ _ _ hP hD hS (lv_sub hl [0, 1, 2] rfl) hres
  · replace hres := og_f c1 hres
    refine lv_aload_n hx hb dX8_spread_5 rfl (lv_at hl 0 rfl) ?_
    refine lv_iload_n hx hb dX8_spread_6 rfl (lv_at hl 2 rfl) ?_
    obtain ⟨r2, hc3, hres⟩ := kb1_s hres
    refine krI_V (As := [.int x2]) (rest := []) (wr := [(nwo, .inr (5, [.int nw_price, .int nw_months, .int nw_chest, .int nw_given, .int nw_fate, .ref nw_goodsA, .ref nw_ratesA])), (nw_goodsA, .inl (κ 0, 6, .inl nw_goods)), (nw_ratesA, .inl (κ 0, 6, .inl nw_rates)), (spo, .inr (4, [.ref sp_paidA, .ref sp_hiddenA, .ref sp_mostFromA, .ref sp_triedA, .ref sp_bestA, .int sp_payers, .int sp_much, .int sp_leastHidden])), (sp_paidA, .inl (κ 0, 30, .inl sp_paid)), (sp_hiddenA, .inl (κ 0, 30, .inl sp_hidden)), (sp_mostFromA, .inl (κ 0, 7, .inl sp_mostFrom)), (sp_triedA, .inl (κ 0, 6, .inl sp_tried)), (sp_bestA, .inl (κ 0, 6, .inl sp_best))]) ⟨hx, hb, hml, hown, hts⟩ hK (tX8_isPayer l D κ kro txo tlo dfo nwo aho pao iaA sco bko spo tl_goodsA tl_shyA tl_bidOfA tl_daysOfA kr_drawn tl_stands tl_price tl_death tl_payers tl_bids tl_hostages tl_bags tl_bagMarks tl_goods tl_shy tl_bidOf tl_daysOf x2 r2 hc3) (cwV 1 hts gX8_spread_X8_isPayer rfl rfl rfl (by decide +kernel) ⟨(Nat.le_of_ble_eq_true rfl), (Nat.le_of_ble_eq_true rfl)⟩) rfl rfl rfl hP hD hS hA [0, 1, 2, 3, 4, 5] [6, 7, 8, 9, 10, 11, 12, 13, 14] rfl rfl rfl rfl (by decide) rfl hl.1 rfl (Nat.le_of_ble_eq_true rfl) dX8_spread_7 ⟨Nat.zero_le _, Nat.zero_le _⟩ (fun H locs hP hD hS => ?_)
    have hP : va_P D vwCl ([(nwo, .inr (5, [.int nw_price, .int nw_months, .int nw_chest, .int nw_given, .int nw_fate, .ref nw_goodsA, .ref nw_ratesA])), (nw_goodsA, .inl (κ 0, 6, .inl nw_goods)), (nw_ratesA, .inl (κ 0, 6, .inl nw_rates)), (spo, .inr (4, [.ref sp_paidA, .ref sp_hiddenA, .ref sp_mostFromA, .ref sp_triedA, .ref sp_bestA, .int sp_payers, .int sp_much, .int sp_leastHidden])), (sp_paidA, .inl (κ 0, 30, .inl sp_paid)), (sp_hiddenA, .inl (κ 0, 30, .inl sp_hidden)), (sp_mostFromA, .inl (κ 0, 7, .inl sp_mostFrom)), (sp_triedA, .inl (κ 0, 6, .inl sp_tried)), (sp_bestA, .inl (κ 0, 6, .inl sp_best)), (kro, .inr (8, [.ref txo, .ref tlo, .ref dfo, .ref nwo, .ref aho, .ref pao, .ref iaA, .ref sco, .ref bko, .ref spo, .int kr_drawn])), (tlo, .inr (6, [.int tl_stands, .int tl_price, .int tl_death, .int tl_payers, .int tl_bids, .int tl_hostages, .int tl_bags, .int tl_bagMarks, .ref tl_goodsA, .ref tl_shyA, .ref tl_bidOfA, .ref tl_daysOfA])), (tl_goodsA, .inl (κ 0, 6, .inl tl_goods)), (tl_shyA, .inl (κ 0, 6, .inl tl_shy)), (tl_bidOfA, .inl (κ 0, 9, .inl tl_bidOf)), (tl_daysOfA, .inl (κ 0, 6, .inl tl_daysOf))]) H := hP
    have hD : va_D A ([(nwo, .inr (5, [.int nw_price, .int nw_months, .int nw_chest, .int nw_given, .int nw_fate, .ref nw_goodsA, .ref nw_ratesA])), (nw_goodsA, .inl (κ 0, 6, .inl nw_goods)), (nw_ratesA, .inl (κ 0, 6, .inl nw_rates)), (spo, .inr (4, [.ref sp_paidA, .ref sp_hiddenA, .ref sp_mostFromA, .ref sp_triedA, .ref sp_bestA, .int sp_payers, .int sp_much, .int sp_leastHidden])), (sp_paidA, .inl (κ 0, 30, .inl sp_paid)), (sp_hiddenA, .inl (κ 0, 30, .inl sp_hidden)), (sp_mostFromA, .inl (κ 0, 7, .inl sp_mostFrom)), (sp_triedA, .inl (κ 0, 6, .inl sp_tried)), (sp_bestA, .inl (κ 0, 6, .inl sp_best)), (kro, .inr (8, [.ref txo, .ref tlo, .ref dfo, .ref nwo, .ref aho, .ref pao, .ref iaA, .ref sco, .ref bko, .ref spo, .int kr_drawn])), (tlo, .inr (6, [.int tl_stands, .int tl_price, .int tl_death, .int tl_payers, .int tl_bids, .int tl_hostages, .int tl_bags, .int tl_bagMarks, .ref tl_goodsA, .ref tl_shyA, .ref tl_bidOfA, .ref tl_daysOfA])), (tl_goodsA, .inl (κ 0, 6, .inl tl_goods)), (tl_shyA, .inl (κ 0, 6, .inl tl_shy)), (tl_bidOfA, .inl (κ 0, 9, .inl tl_bidOf)), (tl_daysOfA, .inl (κ 0, 6, .inl tl_daysOf))]) := hD
    refine lv_if_ne (tgt := 16) hx hb dX8_spread_10 (by decide) (fun c4 => ?_) (fun c4 => ?_)
    · replace hres := og_f c4 hres
      exact L16  _ _ _ (hP.sub [9, 10, 11, 12, 13, 14, 0, 1, 2, 3, 4, 5, 6, 7, 8] rfl) (hD.sub [9, 10, 11, 12, 13, 14, 0, 1, 2, 3, 4, 5, 6, 7, 8] (by decide) rfl) hS (lv_sub hl [0, 1, 2] rfl) hres
    · replace hres := og_t c4 hres
      refine lv_ldc (v := (-1000000001)) hx hb hown k0 dX8_spread_13 ?_
      have hres := Option.some.inj hres
      have h0 := (Prod.mk.inj hres).1
      replace hres := (Prod.mk.inj hres).2
      have h1 := (Prod.mk.inj hres).1
      replace hres := (Prod.mk.inj hres).2
      have h2 := (Prod.mk.inj hres).1
      replace hres := (Prod.mk.inj hres).2
      have h3 := (Prod.mk.inj hres).1
      replace hres := (Prod.mk.inj hres).2
      have h4 := (Prod.mk.inj hres).1
      replace hres := (Prod.mk.inj hres).2
      have h5 := (Prod.mk.inj hres).1
      replace hres := (Prod.mk.inj hres).2
      have h6 := (Prod.mk.inj hres).1
      replace hres := (Prod.mk.inj hres).2
      have h7 := (Prod.mk.inj hres).1
      replace hres := (Prod.mk.inj hres).2
      have h8 := hres
      subst h0
      subst h1
      subst h2
      subst h3
      subst h4
      subst h5
      subst h6
      subst h7
      subst h8
      exact hret _ _ _ _ (vp_nar_int _) (hP.sub [9, 10, 11, 12, 13, 14, 0, 1, 2, 3, 4, 5, 6, 7, 8] rfl) (hD.sub [9, 10, 11, 12, 13, 14, 0, 1, 2, 3, 4, 5, 6, 7, 8] (by decide) rfl) hS dX8_spread_15
