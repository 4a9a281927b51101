def pX2_forget : Option (Int32) :=
    some (0)
set_option maxHeartbeats 8000000 in
set_option maxRecDepth 100000 in
theorem tX2_forget (l : Launch) (D : va_G) (κ : Nat → ClassId) (pao : Nat) (saA : Nat) (pa_next : Int32) (pa_count : Int32) (z_pa_count : Int32) (hres : pX2_forget = some (z_pa_count)) : krV l yX2_forget wsX2_forget { frames := 0, cells := 0, slots := 0, locals := 0 } D κ [.ref pao] ([(pao, .inr (2, [.ref saA, .int pa_next, .int pa_count]))]) ([(pao, .inr (2, [.ref saA, .int pa_next, .int z_pa_count]))]) := by
  refine krV_of (cc := cX2_forget) (maxL := 1) (by decide) rfl (Nat.le_of_ble_eq_true rfl) ?_
  intro p e s m args below meth c A Q ls hx hb hml hown hts hK hA hret hP hD hS hl
  have hown : s.vm.findClass RX2 = some m.cls := hown
  have hl : lv_has ls 1 [(0, .ref pao)] := hl
  have iw2 : ∀ w ∈ u_ws RX2 TX2 3, w ∈ wsX2_forget := (fun _ h => List.mem_cons_of_mem _ (List.mem_append_right _ h))
  have k0 : (Cond.fieldLink RX2 26 "KingRansom$Past" "count" "I").before args s = true := hts _ (List.mem_of_getElem? (i := 1) rfl)
  unfold pX2_forget at hres
  refine lv_aload_n hx hb dX2_forget_0 rfl (lv_at hl 0 rfl) ?_
  refine lv_iconst (v := 0) hx hb dX2_forget_1 (by decide) ?_
  refine va_put (D := D) (ci := 2) (v := .int 0) (ty := .int) (C := RX2) (T := TX2) (N := 3) hx hb hts iw2 tyX2 tyX2_ok nmX2 hown hK.1 hP hD hS 0 rfl rfl 2 (by decide) k0 (fun _ h9 => h9) rfl (tyX2_ok 2 (by decide)) rfl rfl (Nat.le_of_ble_eq_true rfl) dX2_forget_2 (fun H locs hP hD hS => ?_)
  have hP : va_P D vwCl ([(pao, .inr (2, [.ref saA, .int pa_next, .int 0]))]) H := hP
  have hD : va_D A ([(pao, .inr (2, [.ref saA, .int pa_next, .int 0]))]) := hD
  have hres := Option.some.inj hres
  have h0 := hres
  subst h0
  exact hret _ _ _ _ hP hD hS dX2_forget_5

def pX8_feed (x1 : Int32) (tx_signs : Nat → Int32) (tx_length : Int32) : Option (Int32 × (Nat → Int32) × Int32) :=
    (if x1 < 0 then
    some ((-1000000002), tx_signs, tx_length)
    else
    (if x1 ≤ 255 then
    kb3 (pX7_add x1 tx_signs tx_length) fun r3 w4 w5 =>
    (if r3 = 0 then
    some ((-1000000004), w4, w5)
    else
    some (w5, w4, w5))
    else
    some ((-1000000002), tx_signs, tx_length)))
set_option maxHeartbeats 8000000 in
set_option maxRecDepth 100000 in
theorem tX8_feed (l : Launch) (D : va_G) (κ : Nat → ClassId) (kro : Nat) (txo : Nat) (tlo : Nat) (dfo : Nat) (nwo : Nat) (aho : Nat) (pao : Nat) (iaA : Nat) (sco : Nat) (bko : Nat) (spo : Nat) (tx_signsA : Nat) (kr_drawn : Int32) (tx_signs : Nat → Int32) (tx_length : Int32) (tx_at : Int32) (tx_fault : Int32) (tx_place : Int32) (x1 : Int32) (r0 : Int32) (z_tx_signs : Nat → Int32) (z_tx_length : Int32) (hres : pX8_feed x1 tx_signs tx_length = some (r0, z_tx_signs, z_tx_length)) : krI l yX8_feed wsX8_feed { frames := 1, cells := 0, slots := 0, locals := 100 } D κ [.ref kro, .int x1] ([(kro, .inr (8, [.ref txo, .ref tlo, .ref dfo, .ref nwo, .ref aho, .ref pao, .ref iaA, .ref sco, .ref bko, .ref spo, .int kr_drawn])), (txo, .inr (7, [.ref tx_signsA, .int tx_length, .int tx_at, .int tx_fault, .int tx_place])), (tx_signsA, .inl (κ 0, 240, .inl tx_signs))]) ([(kro, .inr (8, [.ref txo, .ref tlo, .ref dfo, .ref nwo, .ref aho, .ref pao, .ref iaA, .ref sco, .ref bko, .ref spo, .int kr_drawn])), (txo, .inr (7, [.ref tx_signsA, .int z_tx_length, .int tx_at, .int tx_fault, .int tx_place])), (tx_signsA, .inl (κ 0, 240, .inl z_tx_signs))]) r0 := by
  refine krI_of (cc := cX8_feed) (maxL := 2) (rt := .int) (by decide) rfl (Nat.le_of_ble_eq_true rfl) ?_
  intro p e s m args below meth c A Q ls hx hb hml hown hts hK hA hret hP hD hS hl
  have hown : s.vm.findClass RX8 = some m.cls := hown
  have hl : lv_has ls 2 [(0, .ref kro), (1, .int x1)] := hl
  have iw8 : ∀ w ∈ u_ws RX8 TX8 11, w ∈ wsX8_feed := (fun _ h => List.mem_cons_of_mem _ (List.mem_append_left _ (List.mem_append_right _ h)))
  have iw7 : ∀ w ∈ u_ws RX7 TX7 5, w ∈ wsX8_feed := (fun _ h => List.mem_cons_of_mem _ (List.mem_append_right _ h))
  have k0 : (Cond.constant RX8 71 (-1000000002)).before args s = true := hts _ (List.mem_of_getElem? (i := 1) rfl)
  have k1 : (Cond.fieldLink RX8 10 "KingRansom" "text" "LKingRansom$Text;").before args s = true := hts _ (List.mem_of_getElem? (i := 2) rfl)
  have k2 : (Cond.initialized RX7).before args s = true := hts _ (List.mem_of_getElem? (i := 5) rfl)
  have k3 : (Cond.instanceMethod yX7_add).before args s = true := hts _ (List.mem_of_getElem? (i := 4) rfl)
  have k4 : (Cond.selects RX7 yX7_add yX7_add).before args s = true := hts _ (List.mem_of_getElem? (i := 6) rfl)
  have k5 : (Cond.constant RX8 80 (-1000000004)).before args s = true := hts _ (List.mem_of_getElem? (i := 3) rfl)
  unfold pX8_feed at hres
  refine lv_iload_n hx hb dX8_feed_0 rfl (lv_at hl 1 rfl) ?_
  refine lv_if_lt (tgt := 11) hx hb dX8_feed_1 (by decide) (fun c1 => ?_) (fun c1 => ?_)
  · replace hres := og_t c1 hres
    refine lv_ldc (v := (-1000000002)) hx hb hown k0 dX8_feed_11 ?_
    have hres := Option.some.inj hres
    have h0 := (Prod.mk.inj hres).1
    replace hres := (Prod.mk.inj hres).2
    have h1 := (Prod.mk.inj hres).1
    replace hres := (Prod.mk.inj hres).2
    have h2 := hres
    subst h0
    subst h1
    subst h2
    exact hret _ _ _ _ (vp_nar_int _) hP hD hS dX8_feed_13
  · replace hres := og_f c1 hres
    refine lv_iload_n hx hb dX8_feed_4 rfl (lv_at hl 1 rfl) ?_
    refine lv_sipush (v := 255) hx hb dX8_feed_5 (by decide) ?_
    refine lv_icmp_le (tgt := 14) hx hb dX8_feed_8 (by decide) (fun c2 => ?_) (fun c2 => ?_)
    · replace hres := og_t c2 hres
      refine lv_aload_n hx hb dX8_feed_14 rfl (lv_at hl 0 rfl) ?_
      refine va_get (D := D) (ci := 8) (v := .ref txo) (C := RX8) (T := TX8) (N := 11) hx hb hts iw8 hown hK.1 hP 0 rfl rfl 0 (by decide) k1 (fun _ h9 => h9) rfl dX8_feed_15 ?_
      refine lv_iload_n hx hb dX8_feed_18 rfl (lv_at hl 1 rfl) ?_
      obtain ⟨r3, w4, w5, hc6, hres⟩ := kb3_s hres
      refine krI_VN (As := [.int x1]) (rest := []) (wr := [(kro, .inr (8, [.ref txo, .ref tlo, .ref dfo, .ref nwo, .ref aho, .ref pao, .ref iaA, .ref sco, .ref bko, .ref spo, .int kr_drawn]))]) ⟨hx, hb, hml, hown, hts⟩ hK (tX7_add l D κ txo tx_signsA tx_signs tx_length tx_at tx_fault tx_place x1 r3 w4 w5 hc6) ⟨va_cnB 1 hts gX8_feed_X7_add_n72 rfl rfl rfl (hK.ml 10 rfl) k2 (by decide +kernel) ⟨(Nat.le_of_ble_eq_true rfl), (Nat.le_of_ble_eq_true rfl)⟩, k3, k4⟩ rfl rfl rfl hP hD hS hA [1, 2] [0] rfl rfl rfl rfl (by decide) rfl hl.1 rfl (Nat.le_of_ble_eq_true rfl) dX8_feed_19 ⟨Nat.zero_le _, Nat.zero_le _⟩ (fun H locs hP hD hS => ?_)
      have hP : va_P D vwCl ([(kro, .inr (8, [.ref txo, .ref tlo, .ref dfo, .ref nwo, .ref aho, .ref pao, .ref iaA, .ref sco, .ref bko, .ref spo, .int kr_drawn])), (txo, .inr (7, [.ref tx_signsA, .int w5, .int tx_at, .int tx_fault, .int tx_place])), (tx_signsA, .inl (κ 0, 240, .inl w4))]) H := hP
      have hD : va_D A ([(kro, .inr (8, [.ref txo, .ref tlo, .ref dfo, .ref nwo, .ref aho, .ref pao, .ref iaA, .ref sco, .ref bko, .ref spo, .int kr_drawn])), (txo, .inr (7, [.ref tx_signsA, .int w5, .int tx_at, .int tx_fault, .int tx_place])), (tx_signsA, .inl (κ 0, 240, .inl w4))]) := hD
      refine lv_if_eq (tgt := 35) hx hb dX8_feed_22 (by decide) (fun c7 => ?_) (fun c7 => ?_)
      · replace hres := og_t c7 hres
        refine lv_ldc (v := (-1000000004)) hx hb hown k5 dX8_feed_35 ?_
        have hres := Option.some.inj hres
        have h0 := (Prod.mk.inj hres).1
        replace hres := (Prod.mk.inj hres).2
        have h1 := (Prod.mk.inj hres).1
        replace hres := (Prod.mk.inj hres).2
        have h2 := hres
        subst h0
        subst h1
        subst h2
        exact hret _ _ _ _ (vp_nar_int _) hP hD hS dX8_feed_37
      · replace hres := og_f c7 hres
        refine lv_aload_n hx hb dX8_feed_25 rfl (lv_at hl 0 rfl) ?_
        refine va_get (D := D) (ci := 8) (v := .ref txo) (C := RX8) (T := TX8) (N := 11) hx hb hts iw8 hown hK.1 hP 0 rfl rfl 0 (by decide) k1 (fun _ h9 => h9) rfl dX8_feed_26 ?_
        refine va_getN (D := D) (ci := 7) (v := .int w5) (C := RX7) (T := TX7) (N := 5) hx hb hts iw7 hown hK.1 hP 1 rfl rfl 1 (by decide) (hK.fl 0 rfl) (fun _ h9 => h9) rfl dX8_feed_29 ?_
        refine lv_goto (tgt := 37) hx hb dX8_feed_32 (by decide) ?_
        have hres := Option.some.inj hres
        have h0 := (Prod.mk.inj hres).1
        replace hres := (Prod.mk.inj hres).2
        have h1 := (Prod.mk.inj hres).1
        replace hres := (Prod.mk.inj hres).2
        have h2 := hres
        subst h0
        subst h1
        subst h2
        exact hret _ _ _ _ (vp_nar_int _) hP hD hS dX8_feed_37
    · replace hres := og_f c2 hres
      refine lv_ldc (v := (-1000000002)) hx hb hown k0 dX8_feed_11 ?_
      have hres := Option.some.inj hres
      have h0 := (Prod.mk.inj hres).1
      replace hres := (Prod.mk.inj hres).2
      have h1 := (Prod.mk.inj hres).1
      replace hres := (Prod.mk.inj hres).2
      have h2 := hres
      subst h0
      subst h1
      subst h2
      exact hret _ _ _ _ (vp_nar_int _) hP hD hS dX8_feed_13

def pX8_fault (tx_place : Int32) : Option (Int32) :=
    some (tx_place)
set_option maxHeartbeats 8000000 in
set_option maxRecDepth 100000 in
theorem tX8_fault (l : Launch) (D : va_G) (κ : Nat → ClassId) (kro : Nat) (txo : Nat) (tlo : Nat) (dfo : Nat) (nwo : Nat) (aho : Nat) (pao : Nat) (iaA : Nat) (sco : Nat) (bko : Nat) (spo : Nat) (tx_signsA : Nat) (kr_drawn : Int32) (tx_signs : Nat → Int32) (tx_length : Int32) (tx_at : Int32) (tx_fault : Int32) (tx_place : Int32) (r0 : Int32) (hres : pX8_fault tx_place = some (r0)) : krI l yX8_fault wsX8_fault { frames := 0, cells := 0, slots := 0, locals := 0 } D κ [.ref kro] ([(kro, .inr (8, [.ref txo, .ref tlo, .ref dfo, .ref nwo, .ref aho, .ref pao, .ref iaA, .ref sco, .ref bko, .ref spo, .int kr_drawn])), (txo, .inr (7, [.ref tx_signsA, .int tx_length, .int tx_at, .int tx_fault, .int tx_place])), (tx_signsA, .inl (κ 0, 240, .inl tx_signs))]) ([(kro, .inr (8, [.ref txo, .ref tlo, .ref dfo, .ref nwo, .ref aho, .ref pao, .ref iaA, .ref sco, .ref bko, .ref spo, .int kr_drawn])), (txo, .inr (7, [.ref tx_signsA, .int tx_length, .int tx_at, .int tx_fault, .int tx_place])), (tx_signsA, .inl (κ 0, 240, .inl tx_signs))]) r0 := by
  refine krI_of (cc := cX8_fault) (maxL := 1) (rt := .int) (by decide) rfl (Nat.le_of_ble_eq_true rfl) ?_
  intro p e s m args below meth c A Q ls hx hb hml hown hts hK hA hret hP hD hS hl
  have hown : s.vm.findClass RX8 = some m.cls := hown
  have hl : lv_has ls 1 [(0, .ref kro)] := hl
  have iw8 : ∀ w ∈ u_ws RX8 TX8 11, w ∈ wsX8_fault := (fun _ h => List.mem_cons_of_mem _ (List.mem_append_left _ (List.mem_append_right _ h)))
  have iw7 : ∀ w ∈ u_ws RX7 TX7 5, w ∈ wsX8_fault := (fun _ h => List.mem_cons_of_mem _ (List.mem_append_right _ h))
  have k0 : (Cond.fieldLink RX8 10 "KingRansom" "text" "LKingRansom$Text;").before args s = true := hts _ (List.mem_of_getElem? (i := 1) rfl)
  unfold pX8_fault at hres
  refine lv_aload_n hx hb dX8_fault_0 rfl (lv_at hl 0 rfl) ?_
  refine va_get (D := D) (ci := 8) (v := .ref txo) (C := RX8) (T := TX8) (N := 11) hx hb hts iw8 hown hK.1 hP 0 rfl rfl 0 (by decide) k0 (fun _ h9 => h9) rfl dX8_fault_1 ?_
  refine va_getN (D := D) (ci := 7) (v := .int tx_place) (C := RX7) (T := TX7) (N := 5) hx hb hts iw7 hown hK.1 hP 1 rfl rfl 4 (by decide) (hK.fl 2 rfl) (fun _ h9 => h9) rfl dX8_fault_4 ?_
  have hres := Option.some.inj hres
  have h0 := hres
  subst h0
  exact hret _ _ _ _ (vp_nar_int _) hP hD hS dX8_fault_7

def pX8_told (x1 : Int32) (tx_length : Int32) (tl_death : Int32) (tl_payers : Int32) (tl_bids : Int32) (tl_hostages : Int32) (tl_bags : Int32) (tl_bagMarks : Int32) (nw_price : Int32) (nw_months : Int32) (nw_chest : Int32) (nw_given : Int32) (nw_fate : Int32) (pa_count : Int32) (sc_count : Int32) (bk_count : Int32) : Option (Int32) :=
    (if x1 = 0 then
    some (nw_price)
    else
    (if x1 = 1 then
    some (tl_death)
    else
    (if x1 = 2 then
    some (tl_payers)
    else
    (if x1 = 3 then
    some (tl_bids)
    else
    (if x1 = 4 then
    some (tl_hostages)
    else
    (if x1 = 5 then
    some (tl_bags)
    else
    (if x1 = 6 then
    some (tl_bagMarks)
    else
    (if x1 = 7 then
    some (tx_length)
    else
    (if x1 = 8 then
    some (nw_months)
    else
    (if x1 = 9 then
    some (nw_chest)
    else
    (if x1 = 10 then
    some (nw_given)
    else
    (if x1 = 11 then
    some (nw_fate)
    else
    (if x1 = 12 then
    some (sc_count)
    else
    (if x1 = 13 then
    some (bk_count)
    else
    (if x1 = 14 then
    some (pa_count)
    else
    some ((-1000000002)))))))))))))))))
set_option maxHeartbeats 8000000 in
set_option maxRecDepth 100000 in
theorem tX8_told (l : Launch) (D : va_G) (κ : Nat → ClassId) (kro : Nat) (txo : Nat) (tlo : Nat) (dfo : Nat) (nwo : Nat) (aho : Nat) (pao : Nat) (iaA : Nat) (sco : Nat) (bko : Nat) (spo : Nat) (tx_signsA : Nat) (tl_goodsA : Nat) (tl_shyA : Nat) (tl_bidOfA : Nat) (tl_daysOfA : Nat) (nw_goodsA : Nat) (nw_ratesA : Nat) (saA : Nat) (sc_setsA : Nat) (sc_weightsA : Nat) (sc_bagsShortByA : Nat) (bk_whoseA : Nat) (bk_goodsA : Nat) (kr_drawn : Int32) (tx_signs : Nat → Int32) (tx_length : Int32) (tx_at : Int32) (tx_fault : Int32) (tx_place : Int32) (tl_stands : Int32) (tl_price : Int32) (tl_death : Int32) (tl_payers : Int32) (tl_bids : Int32) (tl_hostages : Int32) (tl_bags : Int32) (tl_bagMarks : Int32) (tl_goods : Nat → Int32) (tl_shy : Nat → Int32) (tl_bidOf : Nat → Int32) (tl_daysOf : Nat → Int32) (nw_price : Int32) (nw_months : Int32) (nw_chest : Int32) (nw_given : Int32) (nw_fate : Int32) (nw_goods : Nat → Int32) (nw_rates : Nat → Int32) (pa_next : Int32) (pa_count : Int32) (sc_sets : Nat → Int32) (sc_weights : Nat → Int32) (sc_count : Int32) (sc_bagsShortBy : Nat → Int32) (sc_fits : Int32) (bk_whose : Nat → Int32) (bk_goods : Nat → Int32) (bk_count : Int32) (x1 : Int32) (r0 : Int32) (hres : pX8_told x1 tx_length tl_death tl_payers tl_bids tl_hostages tl_bags tl_bagMarks nw_price nw_months nw_chest nw_given nw_fate pa_count sc_count bk_count = some (r0)) : krI l yX8_told wsX8_told { frames := 0, cells := 0, slots := 0, locals := 0 } D κ [.ref kro, .int x1] ([(kro, .inr (8, [.ref txo, .ref tlo, .ref dfo, .ref nwo, .ref aho, .ref pao, .ref iaA, .ref sco, .ref bko, .ref spo, .int kr_drawn])), (txo, .inr (7, [.ref tx_signsA, .int tx_length, .int tx_at, .int tx_fault, .int tx_place])), (tx_signsA, .inl (κ 0, 240, .inl tx_signs)), (tlo, .inr (6, [.int tl_stands, .int tl_price, .int tl_death, .int tl_payers, .int tl_bids, .int tl_hostages, .int tl_bags, .int tl_bagMarks, .ref tl_goodsA, .ref tl_shyA, .ref tl_bidOfA, .ref tl_daysOfA])), (tl_goodsA, .inl (κ 0, 6, .inl tl_goods)), (tl_shyA, .inl (κ 0, 6, .inl tl_shy)), (tl_bidOfA, .inl (κ 0, 9, .inl tl_bidOf)), (tl_daysOfA, .inl (κ 0, 6, .inl tl_daysOf)), (nwo, .inr (5, [.int nw_price, .int nw_months, .int nw_chest, .int nw_given, .int nw_fate, .ref nw_goodsA, .ref nw_ratesA])), (nw_goodsA, .inl (κ 0, 6, .inl nw_goods)), (nw_ratesA, .inl (κ 0, 6, .inl nw_rates)), (pao, .inr (2, [.ref saA, .int pa_next, .int pa_count])), (sco, .inr (3, [.ref sc_setsA, .ref sc_weightsA, .int sc_count, .ref sc_bagsShortByA, .int sc_fits])), (sc_setsA, .inl (κ 0, 6, .inl sc_sets)), (sc_weightsA, .inl (κ 0, 6, .inl sc_weights)), (sc_bagsShortByA, .inl (κ 0, 10, .inl sc_bagsShortBy)), (bko, .inr (0, [.ref bk_whoseA, .ref bk_goodsA, .int bk_count])), (bk_whoseA, .inl (κ 0, 15, .inl bk_whose)), (bk_goodsA, .inl (κ 0, 15, .inl bk_goods))]) ([(kro, .inr (8, [.ref txo, .ref tlo, .ref dfo, .ref nwo, .ref aho, .ref pao, .ref iaA, .ref sco, .ref bko, .ref spo, .int kr_drawn])), (txo, .inr (7, [.ref tx_signsA, .int tx_length, .int tx_at, .int tx_fault, .int tx_place])), (tx_signsA, .inl (κ 0, 240, .inl tx_signs)), (tlo, .inr (6, [.int tl_stands, .int tl_price, .int tl_death, .int tl_payers, .int tl_bids, .int tl_hostages, .int tl_bags, .int tl_bagMarks, .ref tl_goodsA, .ref tl_shyA, .ref tl_bidOfA, .ref tl_daysOfA])), (tl_goodsA, .inl (κ 0, 6, .inl tl_goods)), (tl_shyA, .inl (κ 0, 6, .inl tl_shy)), (tl_bidOfA, .inl (κ 0, 9, .inl tl_bidOf)), (tl_daysOfA, .inl (κ 0, 6, .inl tl_daysOf)), (nwo, .inr (5, [.int nw_price, .int nw_months, .int nw_chest, .int nw_given, .int nw_fate, .ref nw_goodsA, .ref nw_ratesA])), (nw_goodsA, .inl (κ 0, 6, .inl nw_goods)), (nw_ratesA, .inl (κ 0, 6, .inl nw_rates)), (pao, .inr (2, [.ref saA, .int pa_next, .int pa_count])), (sco, .inr (3, [.ref sc_setsA, .ref sc_weightsA, .int sc_count, .ref sc_bagsShortByA, .int sc_fits])), (sc_setsA, .inl (κ 0, 6, .inl sc_sets)), (sc_weightsA, .inl (κ 0, 6, .inl sc_weights)), (sc_bagsShortByA, .inl (κ 0, 10, .inl sc_bagsShortBy)), (bko, .inr (0, [.ref bk_whoseA, .ref bk_goodsA, .int bk_count])), (bk_whoseA, .inl (κ 0, 15, .inl bk_whose)), (bk_goodsA, .inl (κ 0, 15, .inl bk_goods))]) r0 := by
  refine krI_of (cc := cX8_told) (maxL := 2) (rt := .int) (by decide) rfl (Nat.le_of_ble_eq_true rfl) ?_
  intro p e s m args below meth c A Q ls hx hb hml hown hts hK hA hret hP hD hS hl
  have hown : s.vm.findClass RX8 = some m.cls := hown
  have hl : lv_has ls 2 [(0, .ref kro), (1, .int x1)] := hl
  have iw8 : ∀ w ∈ u_ws RX8 TX8 11, w ∈ wsX8_told := (fun _ h => List.mem_cons_of_mem _ (List.mem_append_left _ (List.mem_append_left _ (List.mem_append_left _ (List.mem_append_left _ (List.mem_append_left _ (List.mem_append_left _ (List.mem_append_right _ h))))))))
  have iw5 : ∀ w ∈ u_ws RX5 TX5 7, w ∈ wsX8_told := (fun _ h => List.mem_cons_of_mem _ (List.mem_append_left _ (List.mem_append_left _ (List.mem_append_left _ (List.mem_append_left _ (List.mem_append_left _ (List.mem_append_right _ h)))))))
  have iw6 : ∀ w ∈ u_ws RX6 TX6 12, w ∈ wsX8_told := (fun _ h => List.mem_cons_of_mem _ (List.mem_append_left _ (List.mem_append_left _ (List.mem_append_left _ (List.mem_append_left _ (List.mem_append_right _ h))))))
  have iw7 : ∀ w ∈ u_ws RX7 TX7 5, w ∈ wsX8_told := (fun _ h => List.mem_cons_of_mem _ (List.mem_append_left _ (List.mem_append_left _ (List.mem_append_left _ (List.mem_append_right _ h)))))
  have iw3 : ∀ w ∈ u_ws RX3 TX3 5, w ∈ wsX8_told := (fun _ h => List.mem_cons_of_mem _ (List.mem_append_left _ (List.mem_append_left _ (List.mem_append_right _ h))))
  have iw0 : ∀ w ∈ u_ws RX0 TX0 3, w ∈ wsX8_told := (fun _ h => List.mem_cons_of_mem _ (List.mem_append_left _ (List.mem_append_right _ h)))
  have iw2 : ∀ w ∈ u_ws RX2 TX2 3, w ∈ wsX8_told := (fun _ h => List.mem_cons_of_mem _ (List.mem_append_right _ h))
  have k0 : (Cond.fieldLink RX8 29 "KingRansom" "now" "LKingRansom$State;").before args s = true := hts _ (List.mem_of_getElem? (i := 1) rfl)
  have k1 : (Cond.fieldLink RX8 19 "KingRansom" "tale" "LKingRansom$Tale;").before args s = true := hts _ (List.mem_of_getElem? (i := 2) rfl)
  have k2 : (Cond.fieldLink RX8 10 "KingRansom" "text" "LKingRansom$Text;").before args s = true := hts _ (List.mem_of_getElem? (i := 3) rfl)
  have k3 : (Cond.fieldLink RX8 52 "KingRansom" "scales" "LKingRansom$Scales;").before args s = true := hts _ (List.mem_of_getElem? (i := 4) rfl)
  have k4 : (Cond.fieldLink RX8 59 "KingRansom" "book" "LKingRansom$Book;").before args s = true := hts _ (List.mem_of_getElem? (i := 5) rfl)
  have k5 : (Cond.fieldLink RX8 39 "KingRansom" "past" "LKingRansom$Past;").before args s = true := hts _ (List.mem_of_getElem? (i := 6) rfl)
  have k6 : (Cond.constant RX8 71 (-1000000002)).before args s = true := hts _ (List.mem_of_getElem? (i := 7) rfl)
  unfold pX8_told at hres
  refine lv_iload_n hx hb dX8_told_0 rfl (lv_at hl 1 rfl) ?_
  by_cases u0 : x1 = 0
  · refine lv_tableIn (off := 75) (tgt := 76) hx hb dX8_told_1 (by rw [u0]; decide) (by rw [u0]; decide) (by rw [u0]; rfl) (by decide) ?_
    replace hres := og_t u0 hres
    refine lv_aload_n hx hb dX8_told_76 rfl (lv_at hl 0 rfl) ?_
    refine va_get (D := D) (ci := 8) (v := .ref nwo) (C := RX8) (T := TX8) (N := 11) hx hb hts iw8 hown hK.1 hP 0 rfl rfl 3 (by decide) k0 (fun _ h9 => h9) rfl dX8_told_77 ?_
    refine va_getN (D := D) (ci := 5) (v := .int nw_price) (C := RX5) (T := TX5) (N := 7) hx hb hts iw5 hown hK.1 hP 8 rfl rfl 0 (by decide) (hK.fl 29 rfl) (fun _ h9 => h9) rfl dX8_told_80 ?_
    have hres := Option.some.inj hres
    have h0 := hres
    subst h0
    exact hret _ _ _ _ (vp_nar_int _) hP hD hS dX8_told_83
  replace hres := og_f u0 hres
  by_cases u1 : x1 = 1
  · refine lv_tableIn (off := 83) (tgt := 84) hx hb dX8_told_1 (by rw [u1]; decide) (by rw [u1]; decide) (by rw [u1]; rfl) (by decide) ?_
    replace hres := og_t u1 hres
    refine lv_aload_n hx hb dX8_told_84 rfl (lv_at hl 0 rfl) ?_
    refine va_get (D := D) (ci := 8) (v := .ref tlo) (C := RX8) (T := TX8) (N := 11) hx hb hts iw8 hown hK.1 hP 0 rfl rfl 1 (by decide) k1 (fun _ h9 => h9) rfl dX8_told_85 ?_
    refine va_getN (D := D) (ci := 6) (v := .int tl_death) (C := RX6) (T := TX6) (N := 12) hx hb hts iw6 hown hK.1 hP 3 rfl rfl 2 (by decide) (hK.fl 8 rfl) (fun _ h9 => h9) rfl dX8_told_88 ?_
    have hres := Option.some.inj hres
    have h0 := hres
    subst h0
    exact hret _ _ _ _ (vp_nar_int _) hP hD hS dX8_told_91
  replace hres := og_f u1 hres
  by_cases u2 : x1 = 2
  · refine lv_tableIn (off := 91) (tgt := 92) hx hb dX8_told_1 (by rw [u2]; decide) (by rw [u2]; decide) (by rw [u2]; rfl) (by decide) ?_
    replace hres := og_t u2 hres
    refine lv_aload_n hx hb dX8_told_92 rfl (lv_at hl 0 rfl) ?_
    refine va_get (D := D) (ci := 8) (v := .ref tlo) (C := RX8) (T := TX8) (N := 11) hx hb hts iw8 hown hK.1 hP 0 rfl rfl 1 (by decide) k1 (fun _ h9 => h9) rfl dX8_told_93 ?_
    refine va_getN (D := D) (ci := 6) (v := .int tl_payers) (C := RX6) (T := TX6) (N := 12) hx hb hts iw6 hown hK.1 hP 3 rfl rfl 3 (by decide) (hK.fl 10 rfl) (fun _ h9 => h9) rfl dX8_told_96 ?_
    have hres := Option.some.inj hres
    have h0 := hres
    subst h0
    exact hret _ _ _ _ (vp_nar_int _) hP hD hS dX8_told_99
  replace hres := og_f u2 hres
  by_cases u3 : x1 = 3
  · refine lv_tableIn (off := 99) (tgt := 100) hx hb dX8_told_1 (by rw [u3]; decide) (by rw [u3]; decide) (by rw [u3]; rfl) (by decide) ?_
    replace hres := og_t u3 hres
    refine lv_aload_n hx hb dX8_told_100 rfl (lv_at hl 0 rfl) ?_
    refine va_get (D := D) (ci := 8) (v := .ref tlo) (C := RX8) (T := TX8) (N := 11) hx hb hts iw8 hown hK.1 hP 0 rfl rfl 1 (by decide) k1 (fun _ h9 => h9) rfl dX8_told_101 ?_
    refine va_getN (D := D) (ci := 6) (v := .int tl_bids) (C := RX6) (T := TX6) (N := 12) hx hb hts iw6 hown hK.1 hP 3 rfl rfl 4 (by decide) (hK.fl 13 rfl) (fun _ h9 => h9) rfl dX8_told_104 ?_
    have hres := Option.some.inj hres
    have h0 := hres
    subst h0
    exact hret _ _ _ _ (vp_nar_int _) hP hD hS dX8_told_107
  replace hres := og_f u3 hres
  by_cases u4 : x1 = 4
  · refine lv_tableIn (off := 107) (tgt := 108) hx hb dX8_told_1 (by rw [u4]; decide) (by rw [u4]; decide) (by rw [u4]; rfl) (by decide) ?_
    replace hres := og_t u4 hres
    refine lv_aload_n hx hb dX8_told_108 rfl (lv_at hl 0 rfl) ?_
    refine va_get (D := D) (ci := 8) (v := .ref tlo) (C := RX8) (T := TX8) (N := 11) hx hb hts iw8 hown hK.1 hP 0 rfl rfl 1 (by decide) k1 (fun _ h9 => h9) rfl dX8_told_109 ?_
    refine va_getN (D := D) (ci := 6) (v := .int tl_hostages) (C := RX6) (T := TX6) (N := 12) hx hb hts iw6 hown hK.1 hP 3 rfl rfl 5 (by decide) (hK.fl 15 rfl) (fun _ h9 => h9) rfl dX8_told_112 ?_
    have hres := Option.some.inj hres
    have h0 := hres
    subst h0
    exact hret _ _ _ _ (vp_nar_int _) hP hD hS dX8_told_115
  replace hres := og_f u4 hres
  by_cases u5 : x1 = 5
  · refine lv_tableIn (off := 115) (tgt := 116) hx hb dX8_told_1 (by rw [u5]; decide) (by rw [u5]; decide) (by rw [u5]; rfl) (by decide) ?_
    replace hres := og_t u5 hres
    refine lv_aload_n hx hb dX8_told_116 rfl (lv_at hl 0 rfl) ?_
    refine va_get (D := D) (ci := 8) (v := .ref tlo) (C := RX8) (T := TX8) (N := 11) hx hb hts iw8 hown hK.1 hP 0 rfl rfl 1 (by decide) k1 (fun _ h9 => h9) rfl dX8_told_117 ?_
    refine va_getN (D := D) (ci := 6) (v := .int tl_bags) (C := RX6) (T := TX6) (N := 12) hx hb hts iw6 hown hK.1 hP 3 rfl rfl 6 (by decide) (hK.fl 18 rfl) (fun _ h9 => h9) rfl dX8_told_120 ?_
    have hres := Option.some.inj hres
    have h0 := hres
    subst h0
    exact hret _ _ _ _ (vp_nar_int _) hP hD hS dX8_told_123
  replace hres := og_f u5 hres
  by_cases u6 : x1 = 6
  · refine lv_tableIn (off := 123) (tgt := 124) hx hb dX8_told_1 (by rw [u6]; decide) (by rw [u6]; decide) (by rw [u6]; rfl) (by decide) ?_
    replace hres := og_t u6 hres
    refine lv_aload_n hx hb dX8_told_124 rfl (lv_at hl 0 rfl) ?_
    refine va_get (D := D) (ci := 8) (v := .ref tlo) (C := RX8) (T := TX8) (N := 11) hx hb hts iw8 hown hK.1 hP 0 rfl rfl 1 (by decide) k1 (fun _ h9 => h9) rfl dX8_told_125 ?_
    refine va_getN (D := D) (ci := 6) (v := .int tl_bagMarks) (C := RX6) (T := TX6) (N := 12) hx hb hts iw6 hown hK.1 hP 3 rfl rfl 7 (by decide) (hK.fl 21 rfl) (fun _ h9 => h9) rfl dX8_told_128 ?_
    have hres := Option.some.inj hres
    have h0 := hres
    subst h0
    exact hret _ _ _ _ (vp_nar_int _) hP hD hS dX8_told_131
  replace hres := og_f u6 hres
  by_cases u7 : x1 = 7
  · refine lv_tableIn (off := 131) (tgt := 132) hx hb dX8_told_1 (by rw [u7]; decide) (by rw [u7]; decide) (by rw [u7]; rfl) (by decide) ?_
    replace hres := og_t u7 hres
    refine lv_aload_n hx hb dX8_told_132 rfl (lv_at hl 0 rfl) ?_
    refine va_get (D := D) (ci := 8) (v := .ref txo) (C := RX8) (T := TX8) (N := 11) hx hb hts iw8 hown hK.1 hP 0 rfl rfl 0 (by decide) k2 (fun _ h9 => h9) rfl dX8_told_133 ?_
    refine va_getN (D := D) (ci := 7) (v := .int tx_length) (C := RX7) (T := TX7) (N := 5) hx hb hts iw7 hown hK.1 hP 1 rfl rfl 1 (by decide) (hK.fl 0 rfl) (fun _ h9 => h9) rfl dX8_told_136 ?_
    have hres := Option.some.inj hres
    have h0 := hres
    subst h0
    exact hret _ _ _ _ (vp_nar_int _) hP hD hS dX8_told_139
  replace hres := og_f u7 hres
  by_cases u8 : x1 = 8
  · refine lv_tableIn (off := 139) (tgt := 140) hx hb dX8_told_1 (by rw [u8]; decide) (by rw [u8]; decide) (by rw [u8]; rfl) (by decide) ?_
    replace hres := og_t u8 hres
    refine lv_aload_n hx hb dX8_told_140 rfl (lv_at hl 0 rfl) ?_
    refine va_get (D := D) (ci := 8) (v := .ref nwo) (C := RX8) (T := TX8) (N := 11) hx hb hts iw8 hown hK.1 hP 0 rfl rfl 3 (by decide) k0 (fun _ h9 => h9) rfl dX8_told_141 ?_
    refine va_getN (D := D) (ci := 5) (v := .int nw_months) (C := RX5) (T := TX5) (N := 7) hx hb hts iw5 hown hK.1 hP 8 rfl rfl 1 (by decide) (hK.fl 30 rfl) (fun _ h9 => h9) rfl dX8_told_144 ?_
    have hres := Option.some.inj hres
    have h0 := hres
    subst h0
    exact hret _ _ _ _ (vp_nar_int _) hP hD hS dX8_told_147
  replace hres := og_f u8 hres
  by_cases u9 : x1 = 9
  · refine lv_tableIn (off := 147) (tgt := 148) hx hb dX8_told_1 (by rw [u9]; decide) (by rw [u9]; decide) (by rw [u9]; rfl) (by decide) ?_
    replace hres := og_t u9 hres
    refine lv_aload_n hx hb dX8_told_148 rfl (lv_at hl 0 rfl) ?_
    refine va_get (D := D) (ci := 8) (v := .ref nwo) (C := RX8) (T := TX8) (N := 11) hx hb hts iw8 hown hK.1 hP 0 rfl rfl 3 (by decide) k0 (fun _ h9 => h9) rfl dX8_told_149 ?_
    refine va_getN (D := D) (ci := 5) (v := .int nw_chest) (C := RX5) (T := TX5) (N := 7) hx hb hts iw5 hown hK.1 hP 8 rfl rfl 2 (by decide) (hK.fl 31 rfl) (fun _ h9 => h9) rfl dX8_told_152 ?_
    have hres := Option.some.inj hres
    have h0 := hres
    subst h0
    exact hret _ _ _ _ (vp_nar_int _) hP hD hS dX8_told_155
  replace hres := og_f u9 hres
  by_cases u10 : x1 = 10
  · refine lv_tableIn (off := 155) (tgt := 156) hx hb dX8_told_1 (by rw [u10]; decide) (by rw [u10]; decide) (by rw [u10]; rfl) (by decide) ?_
    replace hres := og_t u10 hres
    refine lv_aload_n hx hb dX8_told_156 rfl (lv_at hl 0 rfl) ?_
    refine va_get (D := D) (ci := 8) (v := .ref nwo) (C := RX8) (T := TX8) (N := 11) hx hb hts iw8 hown hK.1 hP 0 rfl rfl 3 (by decide) k0 (fun _ h9 => h9) rfl dX8_told_157 ?_
    refine va_getN (D := D) (ci := 5) (v := .int nw_given) (C := RX5) (T := TX5) (N := 7) hx hb hts iw5 hown hK.1 hP 8 rfl rfl 3 (by decide) (hK.fl 32 rfl) (fun _ h9 => h9) rfl dX8_told_160 ?_
    have hres := Option.some.inj hres
    have h0 := hres
    subst h0
    exact hret _ _ _ _ (vp_nar_int _) hP hD hS dX8_told_163
  replace hres := og_f u10 hres
  by_cases u11 : x1 = 11
  · refine lv_tableIn (off := 163) (tgt := 164) hx hb dX8_told_1 (by rw [u11]; decide) (by rw [u11]; decide) (by rw [u11]; rfl) (by decide) ?_
    replace hres := og_t u11 hres
    refine lv_aload_n hx hb dX8_told_164 rfl (lv_at hl 0 rfl) ?_
    refine va_get (D := D) (ci := 8) (v := .ref nwo) (C := RX8) (T := TX8) (N := 11) hx hb hts iw8 hown hK.1 hP 0 rfl rfl 3 (by decide) k0 (fun _ h9 => h9) rfl dX8_told_165 ?_
    refine va_getN (D := D) (ci := 5) (v := .int nw_fate) (C := RX5) (T := TX5) (N := 7) hx hb hts iw5 hown hK.1 hP 8 rfl rfl 4 (by decide) (hK.fl 33 rfl) (fun _ h9 => h9) rfl dX8_told_168 ?_
    have hres := Option.some.inj hres
    have h0 := hres
    subst h0
    exact hret _ _ _ _ (vp_nar_int _) hP hD hS dX8_told_171
  replace hres := og_f u11 hres
  by_cases u12 : x1 = 12
  · refine lv_tableIn (off := 171) (tgt := 172) hx hb dX8_told_1 (by rw [u12]; decide) (by rw [u12]; decide) (by rw [u12]; rfl) (by decide) ?_
    replace hres := og_t u12 hres
    refine lv_aload_n hx hb dX8_told_172 rfl (lv_at hl 0 rfl) ?_
    refine va_get (D := D) (ci := 8) (v := .ref sco) (C := RX8) (T := TX8) (N := 11) hx hb hts iw8 hown hK.1 hP 0 rfl rfl 7 (by decide) k3 (fun _ h9 => h9) rfl dX8_told_173 ?_
    refine va_getN (D := D) (ci := 3) (v := .int sc_count) (C := RX3) (T := TX3) (N := 5) hx hb hts iw3 hown hK.1 hP 12 rfl rfl 2 (by decide) (hK.fl 39 rfl) (fun _ h9 => h9) rfl dX8_told_176 ?_
    have hres := Option.some.inj hres
    have h0 := hres
    subst h0
    exact hret _ _ _ _ (vp_nar_int _) hP hD hS dX8_told_179
  replace hres := og_f u12 hres
  by_cases u13 : x1 = 13
  · refine lv_tableIn (off := 179) (tgt := 180) hx hb dX8_told_1 (by rw [u13]; decide) (by rw [u13]; decide) (by rw [u13]; rfl) (by decide) ?_
    replace hres := og_t u13 hres
    refine lv_aload_n hx hb dX8_told_180 rfl (lv_at hl 0 rfl) ?_
    refine va_get (D := D) (ci := 8) (v := .ref bko) (C := RX8) (T := TX8) (N := 11) hx hb hts iw8 hown hK.1 hP 0 rfl rfl 8 (by decide) k4 (fun _ h9 => h9) rfl dX8_told_181 ?_
    refine va_getN (D := D) (ci := 0) (v := .int bk_count) (C := RX0) (T := TX0) (N := 3) hx hb hts iw0 hown hK.1 hP 16 rfl rfl 2 (by decide) (hK.fl 41 rfl) (fun _ h9 => h9) rfl dX8_told_184 ?_
    have hres := Option.some.inj hres
    have h0 := hres
    subst h0
    exact hret _ _ _ _ (vp_nar_int _) hP hD hS dX8_told_187
  replace hres := og_f u13 hres
  by_cases u14 : x1 = 14
  · refine lv_tableIn (off := 187) (tgt := 188) hx hb dX8_told_1 (by rw [u14]; decide) (by rw [u14]; decide) (by rw [u14]; rfl) (by decide) ?_
    replace hres := og_t u14 hres
    refine lv_aload_n hx hb dX8_told_188 rfl (lv_at hl 0 rfl) ?_
    refine va_get (D := D) (ci := 8) (v := .ref pao) (C := RX8) (T := TX8) (N := 11) hx hb hts iw8 hown hK.1 hP 0 rfl rfl 5 (by decide) k5 (fun _ h9 => h9) rfl dX8_told_189 ?_
    refine va_getN (D := D) (ci := 2) (v := .int pa_count) (C := RX2) (T := TX2) (N := 3) hx hb hts iw2 hown hK.1 hP 11 rfl rfl 2 (by decide) (hK.fl 38 rfl) (fun _ h9 => h9) rfl dX8_told_192 ?_
    have hres := Option.some.inj hres
    have h0 := hres
    subst h0
    exact hret _ _ _ _ (vp_nar_int _) hP hD hS dX8_told_195
  replace hres := og_f u14 hres
  have v0 := lv_neT u0 (a := 0) (by decide)
  have v1 := lv_neT u1 (a := 1) (by decide)
  have v2 := lv_neT u2 (a := 2) (by decide)
  have v3 := lv_neT u3 (a := 3) (by decide)
  have v4 := lv_neT u4 (a := 4) (by decide)
  have v5 := lv_neT u5 (a := 5) (by decide)
  have v6 := lv_neT u6 (a := 6) (by decide)
  have v7 := lv_neT u7 (a := 7) (by decide)
  have v8 := lv_neT u8 (a := 8) (by decide)
  have v9 := lv_neT u9 (a := 9) (by decide)
  have v10 := lv_neT u10 (a := 10) (by decide)
  have v11 := lv_neT u11 (a := 11) (by decide)
  have v12 := lv_neT u12 (a := 12) (by decide)
  have v13 := lv_neT u13 (a := 13) (by decide)
  have v14 := lv_neT u14 (a := 14) (by decide)
  refine lv_tableOut (tgt := 196) hx hb dX8_told_1 (by omega) (by decide) ?_
  refine lv_ldc (v := (-1000000002)) hx hb hown k6 dX8_told_196 ?_
  have hres := Option.some.inj hres
  have h0 := hres
  subst h0
  exact hret _ _ _ _ (vp_nar_int _) hP hD hS dX8_told_198

def pX8_isPayer (x1 : Int32) (tl_payers : Int32) : Option (Int32) :=
    (if x1 < 0 then
    some (0)
    else
    (if tl_payers ≤ x1 then
    some (0)
    else
    some (1)))
set_option maxHeartbeats 8000000 in
set_option maxRecDepth 100000 in
theorem tX8_isPayer (l : Launch) (D : va_G) (κ : Nat → ClassId) (kro : Nat) (txo : Nat) (tlo : Nat) (dfo : Nat) (nwo : Nat) (aho : Nat) (pao : Nat) (iaA : Nat) (sco : Nat) (bko : Nat) (spo : Nat) (tl_goodsA : Nat) (tl_shyA : Nat) (tl_bidOfA : Nat) (tl_daysOfA : Nat) (kr_drawn : Int32) (tl_stands : Int32) (tl_price : Int32) (tl_death : Int32) (tl_payers : Int32) (tl_bids : Int32) (tl_hostages : Int32) (tl_bags : Int32) (tl_bagMarks : Int32) (tl_goods : Nat → Int32) (tl_shy : Nat → Int32) (tl_bidOf : Nat → Int32) (tl_daysOf : Nat → Int32) (x1 : Int32) (r0 : Int32) (hres : pX8_isPayer x1 tl_payers = some (r0)) : krI l yX8_isPayer wsX8_isPayer { frames := 0, cells := 0, slots := 0, locals := 0 } D κ [.ref kro, .int x1] ([(kro, .inr (8, [.ref txo, .ref tlo, .ref dfo, .ref nwo, .ref aho, .ref pao, .ref iaA, .ref sco, .ref bko, .ref spo, .int kr_drawn])), (tlo, .inr (6, [.int tl_stands, .int tl_price, .int tl_death, .int tl_payers, .int tl_bids, .int tl_hostages, .int tl_bags, .int tl_bagMarks, .ref tl_goodsA, .ref tl_shyA, .ref tl_bidOfA, .ref tl_daysOfA])), (tl_goodsA, .inl (κ 0, 6, .inl tl_goods)), (tl_shyA, .inl (κ 0, 6, .inl tl_shy)), (tl_bidOfA, .inl (κ 0, 9, .inl tl_bidOf)), (tl_daysOfA, .inl (κ 0, 6, .inl tl_daysOf))]) ([(kro, .inr (8, [.ref txo, .ref tlo, .ref dfo, .ref nwo, .ref aho, .ref pao, .ref iaA, .ref sco, .ref bko, .ref spo, .int kr_drawn])), (tlo, .inr (6, [.int tl_stands, .int tl_price, .int tl_death, .int tl_payers, .int tl_bids, .int tl_hostages, .int tl_bags, .int tl_bagMarks, .ref tl_goodsA, .ref tl_shyA, .ref tl_bidOfA, .ref tl_daysOfA])), (tl_goodsA, .inl (κ 0, 6, .inl tl_goods)), (tl_shyA, .inl (κ 0, 6, .inl tl_shy)), (tl_bidOfA, .inl (κ 0, 9, .inl tl_bidOf)), (tl_daysOfA, .inl (κ 0, 6, .inl tl_daysOf))]) r0 := by
  refine krI_of (cc := cX8_isPayer) (maxL := 2) (rt := .boolean) (by decide) rfl (Nat.le_of_ble_eq_true rfl) ?_
  intro p e s m args below meth c A Q ls hx hb hml hown hts hK hA hret hP hD hS hl
  have hown : s.vm.findClass RX8 = some m.cls := hown
  have hl : lv_has ls 2 [(0, .ref kro), (1, .int x1)] := hl
  have iw8 : ∀ w ∈ u_ws RX8 TX8 11, w ∈ wsX8_isPayer := (fun _ h => List.mem_cons_of_mem _ (List.mem_append_left _ (List.mem_append_right _ h)))
  have iw6 : ∀ w ∈ u_ws RX6 TX6 12, w ∈ wsX8_isPayer := (fun _ h => List.mem_cons_of_mem _ (List.mem_append_right _ h))
  have k0 : (Cond.fieldLink RX8 19 "KingRansom" "tale" "LKingRansom$Tale;").before args s = true := hts _ (List.mem_of_getElem? (i := 1) rfl)
  unfold pX8_isPayer at hres
  refine lv_iload_n hx hb dX8_isPayer_0 rfl (lv_at hl 1 rfl) ?_
  refine lv_if_lt (tgt := 19) hx hb dX8_isPayer_1 (by decide) (fun c1 => ?_) (fun c1 => ?_)
  · replace hres := og_t c1 hres
    refine lv_iconst (v := 0) hx hb dX8_isPayer_19 (by decide) ?_
    have hres := Option.some.inj hres
    have h0 := hres
    subst h0
    exact hret _ _ _ _ (by decide) hP hD hS dX8_isPayer_20
  · replace hres := og_f c1 hres
    refine lv_iload_n hx hb dX8_isPayer_4 rfl (lv_at hl 1 rfl) ?_
    refine lv_aload_n hx hb dX8_isPayer_5 rfl (lv_at hl 0 rfl) ?_
    refine va_get (D := D) (ci := 8) (v := .ref tlo) (C := RX8) (T := TX8) (N := 11) hx hb hts iw8 hown hK.1 hP 0 rfl rfl 1 (by decide) k0 (fun _ h9 => h9) rfl dX8_isPayer_6 ?_
    refine va_getN (D := D) (ci := 6) (v := .int tl_payers) (C := RX6) (T := TX6) (N := 12) hx hb hts iw6 hown hK.1 hP 1 rfl rfl 3 (by decide) (hK.fl 10 rfl) (fun _ h9 => h9) rfl dX8_isPayer_9 ?_
    refine lv_icmp_ge (tgt := 19) hx hb dX8_isPayer_12 (by decide) (fun c2 => ?_) (fun c2 => ?_)
    · replace hres := og_t c2 hres
      refine lv_iconst (v := 0) hx hb dX8_isPayer_19 (by decide) ?_
      have hres := Option.some.inj hres
      have h0 := hres
      subst h0
      exact hret _ _ _ _ (by decide) hP hD hS dX8_isPayer_20
    · replace hres := og_f c2 hres
      refine lv_iconst (v := 1) hx hb dX8_isPayer_15 (by decide) ?_
      refine lv_goto (tgt := 20) hx hb dX8_isPayer_16 (by decide) ?_
      have hres := Option.some.inj hres
      have h0 := hres
      subst h0
      exact hret _ _ _ _ (by decide) hP hD hS dX8_isPayer_20

def pX8_isKept (tl_stands : Int32) (nw_fate : Int32) : Option (Int32) :=
    (if tl_stands = 0 then
    some (0)
    else
    (if nw_fate = 0 then
    some (1)
    else
    some (0)))
set_option maxHeartbeats 8000000 in
set_option maxRecDepth 100000 in
theorem tX8_isKept (l : Launch) (D : va_G) (κ : Nat → ClassId) (kro : Nat) (txo : Nat) (tlo : Nat) (dfo : Nat) (nwo : Nat) (aho : Nat) (pao : Nat) (iaA : Nat) (sco : Nat) (bko : Nat) (spo : Nat) (tl_goodsA : Nat) (tl_shyA : Nat) (tl_bidOfA : Nat) (tl_daysOfA : Nat) (nw_goodsA : Nat) (nw_ratesA : Nat) (kr_drawn : Int32) (tl_stands : Int32) (tl_price : Int32) (tl_death : Int32) (tl_payers : Int32) (tl_bids : Int32) (tl_hostages : Int32) (tl_bags : Int32) (tl_bagMarks : Int32) (tl_goods : Nat → Int32) (tl_shy : Nat → Int32) (tl_bidOf : Nat → Int32) (tl_daysOf : Nat → Int32) (nw_price : Int32) (nw_months : Int32) (nw_chest : Int32) (nw_given : Int32) (nw_fate : Int32) (nw_goods : Nat → Int32) (nw_rates : Nat → Int32) (r0 : Int32) (hres : pX8_isKept tl_stands nw_fate = some (r0)) : krI l yX8_isKept wsX8_isKept { frames := 0, cells := 0, slots := 0, locals := 0 } D κ [.ref kro] ([(kro, .inr (8, [.ref txo, .ref tlo, .ref dfo, .ref nwo, .ref aho, .ref pao, .ref iaA, .ref sco, .ref bko, .ref spo, .int kr_drawn])), (tlo, .inr (6, [.int tl_stands, .int tl_price, .int tl_death, .int tl_payers, .int tl_bids, .int tl_hostages, .int tl_bags, .int tl_bagMarks, .ref tl_goodsA, .ref tl_shyA, .ref tl_bidOfA, .ref tl_daysOfA])), (tl_goodsA, .inl (κ 0, 6, .inl tl_goods)), (tl_shyA, .inl (κ 0, 6, .inl tl_shy)), (tl_bidOfA, .inl (κ 0, 9, .inl tl_bidOf)), (tl_daysOfA, .inl (κ 0, 6, .inl tl_daysOf)), (nwo, .inr (5, [.int nw_price, .int nw_months, .int nw_chest, .int nw_given, .int nw_fate, .ref nw_goodsA, .ref nw_ratesA])), (nw_goodsA, .inl (κ 0, 6, .inl nw_goods)), (nw_ratesA, .inl (κ 0, 6, .inl nw_rates))]) ([(kro, .inr (8, [.ref txo, .ref tlo, .ref dfo, .ref nwo, .ref aho, .ref pao, .ref iaA, .ref sco, .ref bko, .ref spo, .int kr_drawn])), (tlo, .inr (6, [.int tl_stands, .int tl_price, .int tl_death, .int tl_payers, .int tl_bids, .int tl_hostages, .int tl_bags, .int tl_bagMarks, .ref tl_goodsA, .ref tl_shyA, .ref tl_bidOfA, .ref tl_daysOfA])), (tl_goodsA, .inl (κ 0, 6, .inl tl_goods)), (tl_shyA, .inl (κ 0, 6, .inl tl_shy)), (tl_bidOfA, .inl (κ 0, 9, .inl tl_bidOf)), (tl_daysOfA, .inl (κ 0, 6, .inl tl_daysOf)), (nwo, .inr (5, [.int nw_price, .int nw_months, .int nw_chest, .int nw_given, .int nw_fate, .ref nw_goodsA, .ref nw_ratesA])), (nw_goodsA, .inl (κ 0, 6, .inl nw_goods)), (nw_ratesA, .inl (κ 0, 6, .inl nw_rates))]) r0 := by
  refine krI_of (cc := cX8_isKept) (maxL := 1) (rt := .boolean) (by decide) rfl (Nat.le_of_ble_eq_true rfl) ?_
  intro p e s m args below meth c A Q ls hx hb hml hown hts hK hA hret hP hD hS hl
  have hown : s.vm.findClass RX8 = some m.cls := hown
  have hl : lv_has ls 1 [(0, .ref kro)] := hl
  have iw8 : ∀ w ∈ u_ws RX8 TX8 11, w ∈ wsX8_isKept := (fun _ h => List.mem_cons_of_mem _ (List.mem_append_left _ (List.mem_append_left _ (List.mem_append_right _ h))))
  have iw6 : ∀ w ∈ u_ws RX6 TX6 12, w ∈ wsX8_isKept := (fun _ h => List.mem_cons_of_mem _ (List.mem_append_left _ (List.mem_append_right _ h)))
  have iw5 : ∀ w ∈ u_ws RX5 TX5 7, w ∈ wsX8_isKept := (fun _ h => List.mem_cons_of_mem _ (List.mem_append_right _ h))
  have k0 : (Cond.fieldLink RX8 19 "KingRansom" "tale" "LKingRansom$Tale;").before args s = true := hts _ (List.mem_of_getElem? (i := 1) rfl)
  have k1 : (Cond.fieldLink RX8 29 "KingRansom" "now" "LKingRansom$State;").before args s = true := hts _ (List.mem_of_getElem? (i := 2) rfl)
  unfold pX8_isKept at hres
  refine lv_aload_n hx hb dX8_isKept_0 rfl (lv_at hl 0 rfl) ?_
  refine va_get (D := D) (ci := 8) (v := .ref tlo) (C := RX8) (T := TX8) (N := 11) hx hb hts iw8 hown hK.1 hP 0 rfl rfl 1 (by decide) k0 (fun _ h9 => h9) rfl dX8_isKept_1 ?_
  refine va_getN (D := D) (ci := 6) (v := .int tl_stands) (C := RX6) (T := TX6) (N := 12) hx hb hts iw6 hown hK.1 hP 1 rfl rfl 0 (by decide) (hK.fl 4 rfl) (fun _ h9 => h9) rfl dX8_isKept_4 ?_
  refine lv_if_eq (tgt := 24) hx hb dX8_isKept_7 (by decide) (fun c1 => ?_) (fun c1 => ?_)
  · replace hres := og_t c1 hres
    refine lv_iconst (v := 0) hx hb dX8_isKept_24 (by decide) ?_
    have hres := Option.some.inj hres
    have h0 := hres
    subst h0
    exact hret _ _ _ _ (by decide) hP hD hS dX8_isKept_25
  · replace hres := og_f c1 hres
    refine lv_aload_n hx hb dX8_isKept_10 rfl (lv_at hl 0 rfl) ?_
    refine va_get (D := D) (ci := 8) (v := .ref nwo) (C := RX8) (T := TX8) (N := 11) hx hb hts iw8 hown hK.1 hP 0 rfl rfl 3 (by decide) k1 (fun _ h9 => h9) rfl dX8_isKept_11 ?_
    refine va_getN (D := D) (ci := 5) (v := .int nw_fate) (C := RX5) (T := TX5) (N := 7) hx hb hts iw5 hown hK.1 hP 6 rfl rfl 4 (by decide) (hK.fl 33 rfl) (fun _ h9 => h9) rfl dX8_isKept_14 ?_
    refine lv_if_ne (tgt := 24) hx hb dX8_isKept_17 (by decide) (fun c2 => ?_) (fun c2 => ?_)
    · replace hres := og_f c2 hres
      refine lv_iconst (v := 0) hx hb dX8_isKept_24 (by decide) ?_
      have hres := Option.some.inj hres
      have h0 := hres
      subst h0
      exact hret _ _ _ _ (by decide) hP hD hS dX8_isKept_25
    · replace hres := og_t c2 hres
      refine lv_iconst (v := 1) hx hb dX8_isKept_20 (by decide) ?_
      refine lv_goto (tgt := 25) hx hb dX8_isKept_21 (by decide) ?_
      have hres := Option.some.inj hres
      have h0 := hres
      subst h0
      exact hret _ _ _ _ (by decide) hP hD hS dX8_isKept_25

def pX8_refusalOfMonths (x1 : Int32) (tl_stands : Int32) (nw_months : Int32) (nw_fate : Int32) : Option (Int32) :=
    (if x1 < 1 then
    some ((-1000000002))
    else
    (if x1 ≤ 24 then
    kb1 (pX8_isKept tl_stands nw_fate) fun r3 =>
    (if r3 = 0 then
    some ((-1000000003))
    else
    (if nw_months ≤ 9000 then
    some (0)
    else
    some ((-1000000004))))
    else
    some ((-1000000002))))
set_option maxHeartbeats 8000000 in
set_option maxRecDepth 100000 in
theorem tX8_refusalOfMonths (l : Launch) (D : va_G) (κ : Nat → ClassId) (kro : Nat) (txo : Nat) (tlo : Nat) (dfo : Nat) (nwo : Nat) (aho : Nat) (pao : Nat) (iaA : Nat) (sco : Nat) (bko : Nat) (spo : Nat) (tl_goodsA : Nat) (tl_shyA : Nat) (tl_bidOfA : Nat) (tl_daysOfA : Nat) (nw_goodsA : Nat) (nw_ratesA : Nat) (kr_drawn : Int32) (tl_stands : Int32) (tl_price : Int32) (tl_death : Int32) (tl_payers : Int32) (tl_bids : Int32) (tl_hostages : Int32) (tl_bags : Int32) (tl_bagMarks : Int32) (tl_goods : Nat → Int32) (tl_shy : Nat → Int32) (tl_bidOf : Nat → Int32) (tl_daysOf : Nat → Int32) (nw_price : Int32) (nw_months : Int32) (nw_chest : Int32) (nw_given : Int32) (nw_fate : Int32) (nw_goods : Nat → Int32) (nw_rates : Nat → Int32) (x1 : Int32) (r0 : Int32) (hres : pX8_refusalOfMonths x1 tl_stands nw_months nw_fate = some (r0)) : krI l yX8_refusalOfMonths wsX8_refusalOfMonths { frames := 1, cells := 0, slots := 0, locals := 100 } D κ [.ref kro, .int x1] ([(kro, .inr (8, [.ref txo, .ref tlo, .ref dfo, .ref nwo, .ref aho, .ref pao, .ref iaA, .ref sco, .ref bko, .ref spo, .int kr_drawn])), (tlo, .inr (6, [.int tl_stands, .int tl_price, .int tl_death, .int tl_payers, .int tl_bids, .int tl_hostages, .int tl_bags, .int tl_bagMarks, .ref tl_goodsA, .ref tl_shyA, .ref tl_bidOfA, .ref tl_daysOfA])), (tl_goodsA, .inl (κ 0, 6, .inl tl_goods)), (tl_shyA, .inl (κ 0, 6, .inl tl_shy)), (tl_bidOfA, .inl (κ 0, 9, .inl tl_bidOf)), (tl_daysOfA, .inl (κ 0, 6, .inl tl_daysOf)), (nwo, .inr (5, [.int nw_price, .int nw_months, .int nw_chest, .int nw_given, .int nw_fate, .ref nw_goodsA, .ref nw_ratesA])), (nw_goodsA, .inl (κ 0, 6, .inl nw_goods)), (nw_ratesA, .inl (κ 0, 6, .inl nw_rates))]) ([(kro, .inr (8, [.ref txo, .ref tlo, .ref dfo, .ref nwo, .ref aho, .ref pao, .ref iaA, .ref sco, .ref bko, .ref spo, .int kr_drawn])), (tlo, .inr (6, [.int tl_stands, .int tl_price, .int tl_death, .int tl_payers, .int tl_bids, .int tl_hostages, .int tl_bags, .int tl_bagMarks, .ref tl_goodsA, .ref tl_shyA, .ref tl_bidOfA, .ref tl_daysOfA])), (tl_goodsA, .inl (κ 0, 6, .inl tl_goods)), (tl_shyA, .inl (κ 0, 6, .inl tl_shy)), (tl_bidOfA, .inl (κ 0, 9, .inl tl_bidOf)), (tl_daysOfA, .inl (κ 0, 6, .inl tl_daysOf)), (nwo, .inr (5, [.int nw_price, .int nw_months, .int nw_chest, .int nw_given, .int nw_fate, .ref nw_goodsA, .ref nw_ratesA])), (nw_goodsA, .inl (κ 0, 6, .inl nw_goods)), (nw_ratesA, .inl (κ 0, 6, .inl nw_rates))]) r0 := by
  refine krI_of (cc := cX8_refusalOfMonths) (maxL := 2) (rt := .int) (by decide) rfl (Nat.le_of_ble_eq_true rfl) ?_
  intro p e s m args below meth c A Q ls hx hb hml hown hts hK hA hret hP hD hS hl
  have hown : s.vm.findClass RX8 = some m.cls := hown
  have hl : lv_has ls 2 [(0, .ref kro), (1, .int x1)] := hl
  have iw8 : ∀ w ∈ u_ws RX8 TX8 11, w ∈ wsX8_refusalOfMonths := (fun _ h => List.mem_cons_of_mem _ (List.mem_append_left _ (List.mem_append_left _ (List.mem_append_right _ h))))
  have iw5 : ∀ w ∈ u_ws RX5 TX5 7, w ∈ wsX8_refusalOfMonths := (fun _ h => List.mem_cons_of_mem _ (List.mem_append_left _ (List.mem_append_right _ h)))
  have k0 : (Cond.constant RX8 71 (-1000000002)).before args s = true := hts _ (List.mem_of_getElem? (i := 1) rfl)
  have k1 : (Cond.fieldLink RX8 29 "KingRansom" "now" "LKingRansom$State;").before args s = true := hts _ (List.mem_of_getElem? (i := 3) rfl)
  have k2 : (Cond.constant RX8 80 (-1000000004)).before args s = true := hts _ (List.mem_of_getElem? (i := 4) rfl)
  have k3 : (Cond.constant RX8 185 (-1000000003)).before args s = true := hts _ (List.mem_of_getElem? (i := 2) rfl)
  unfold pX8_refusalOfMonths at hres
  refine lv_iload_n hx hb dX8_refusalOfMonths_0 rfl (lv_at hl 1 rfl) ?_
  refine lv_iconst (v := 1) hx hb dX8_refusalOfMonths_1 (by decide) ?_
  refine lv_icmp_lt (tgt := 11) hx hb dX8_refusalOfMonths_2 (by decide) (fun c1 => ?_) (fun c1 => ?_)
  · replace hres := og_t c1 hres
    refine lv_ldc (v := (-1000000002)) hx hb hown k0 dX8_refusalOfMonths_11 ?_
    have hres := Option.some.inj hres
    have h0 := hres
    subst h0
    exact hret _ _ _ _ (vp_nar_int _) hP hD hS dX8_refusalOfMonths_13
  · replace hres := og_f c1 hres
    refine lv_iload_n hx hb dX8_refusalOfMonths_5 rfl (lv_at hl 1 rfl) ?_
    refine lv_bipush (v := 24) hx hb dX8_refusalOfMonths_6 (by decide) ?_
    refine lv_icmp_le (tgt := 14) hx hb dX8_refusalOfMonths_8 (by decide) (fun c2 => ?_) (fun c2 => ?_)
    · replace hres := og_t c2 hres
      refine lv_aload_n hx hb dX8_refusalOfMonths_14 rfl (lv_at hl 0 rfl) ?_
      obtain ⟨r3, hc4, hres⟩ := kb1_s hres
      refine krI_V (As := []) (rest := []) (wr := []) ⟨hx, hb, hml, hown, hts⟩ hK (tX8_isKept l D κ kro txo tlo dfo nwo aho pao iaA sco bko spo tl_goodsA tl_shyA tl_bidOfA tl_daysOfA nw_goodsA nw_ratesA kr_drawn tl_stands tl_price tl_death tl_payers tl_bids tl_hostages tl_bags tl_bagMarks tl_goods tl_shy tl_bidOf tl_daysOf nw_price nw_months nw_chest nw_given nw_fate nw_goods nw_rates r3 hc4) (cwV 0 hts gX8_refusalOfMonths_X8_isKept rfl rfl rfl (by decide +kernel) ⟨(Nat.le_of_ble_eq_true rfl), (Nat.le_of_ble_eq_true rfl)⟩) rfl rfl rfl hP hD hS hA [0, 1, 2, 3, 4, 5, 6, 7, 8] [] rfl rfl rfl rfl (by decide) rfl hl.1 rfl (Nat.le_of_ble_eq_true rfl) dX8_refusalOfMonths_15 ⟨Nat.zero_le _, Nat.zero_le _⟩ (fun H locs hP hD hS => ?_)
      have hP : va_P D vwCl ([(kro, .inr (8, [.ref txo, .ref tlo, .ref dfo, .ref nwo, .ref aho, .ref pao, .ref iaA, .ref sco, .ref bko, .ref spo, .int kr_drawn])), (tlo, .inr (6, [.int tl_stands, .int tl_price, .int tl_death, .int tl_payers, .int tl_bids, .int tl_hostages, .int tl_bags, .int tl_bagMarks, .ref tl_goodsA, .ref tl_shyA, .ref tl_bidOfA, .ref tl_daysOfA])), (tl_goodsA, .inl (κ 0, 6, .inl tl_goods)), (tl_shyA, .inl (κ 0, 6, .inl tl_shy)), (tl_bidOfA, .inl (κ 0, 9, .inl tl_bidOf)), (tl_daysOfA, .inl (κ 0, 6, .inl tl_daysOf)), (nwo, .inr (5, [.int nw_price, .int nw_months, .int nw_chest, .int nw_given, .int nw_fate, .ref nw_goodsA, .ref nw_ratesA])), (nw_goodsA, .inl (κ 0, 6, .inl nw_goods)), (nw_ratesA, .inl (κ 0, 6, .inl nw_rates))]) H := hP
      have hD : va_D A ([(kro, .inr (8, [.ref txo, .ref tlo, .ref dfo, .ref nwo, .ref aho, .ref pao, .ref iaA, .ref sco, .ref bko, .ref spo, .int kr_drawn])), (tlo, .inr (6, [.int tl_stands, .int tl_price, .int tl_death, .int tl_payers, .int tl_bids, .int tl_hostages, .int tl_bags, .int tl_bagMarks, .ref tl_goodsA, .ref tl_shyA, .ref tl_bidOfA, .ref tl_daysOfA])), (tl_goodsA, .inl (κ 0, 6, .inl tl_goods)), (tl_shyA, .inl (κ 0, 6, .inl tl_shy)), (tl_bidOfA, .inl (κ 0, 9, .inl tl_bidOf)), (tl_daysOfA, .inl (κ 0, 6, .inl tl_daysOf)), (nwo, .inr (5, [.int nw_price, .int nw_months, .int nw_chest, .int nw_given, .int nw_fate, .ref nw_goodsA, .ref nw_ratesA])), (nw_goodsA, .inl (κ 0, 6, .inl nw_goods)), (nw_ratesA, .inl (κ 0, 6, .inl nw_rates))]) := hD
      refine lv_if_ne (tgt := 24) hx hb dX8_refusalOfMonths_18 (by decide) (fun c5 => ?_) (fun c5 => ?_)
      · replace hres := og_f c5 hres
        refine lv_aload_n hx hb dX8_refusalOfMonths_24 rfl (lv_at hl 0 rfl) ?_
        refine va_get (D := D) (ci := 8) (v := .ref nwo) (C := RX8) (T := TX8) (N := 11) hx hb hts iw8 hown hK.1 hP 0 rfl rfl 3 (by decide) k1 (fun _ h9 => h9) rfl dX8_refusalOfMonths_25 ?_
        refine va_getN (D := D) (ci := 5) (v := .int nw_months) (C := RX5) (T := TX5) (N := 7) hx hb hts iw5 hown hK.1 hP 6 rfl rfl 1 (by decide) (hK.fl 30 rfl) (fun _ h9 => h9) rfl dX8_refusalOfMonths_28 ?_
        refine lv_sipush (v := 9000) hx hb dX8_refusalOfMonths_31 (by decide) ?_
        refine lv_icmp_le (tgt := 42) hx hb dX8_refusalOfMonths_34 (by decide) (fun c6 => ?_) (fun c6 => ?_)
        · replace hres := og_t c6 hres
          refine lv_iconst (v := 0) hx hb dX8_refusalOfMonths_42 (by decide) ?_
          have hres := Option.some.inj hres
          have h0 := hres
          subst h0
          exact hret _ _ _ _ (vp_nar_int _) hP hD hS dX8_refusalOfMonths_43
        · replace hres := og_f c6 hres
          refine lv_ldc (v := (-1000000004)) hx hb hown k2 dX8_refusalOfMonths_37 ?_
          refine lv_goto (tgt := 43) hx hb dX8_refusalOfMonths_39 (by decide) ?_
          have hres := Option.some.inj hres
          have h0 := hres
          subst h0
          exact hret _ _ _ _ (vp_nar_int _) hP hD hS dX8_refusalOfMonths_43
      · replace hres := og_t c5 hres
        refine lv_ldc (v := (-1000000003)) hx hb hown k3 dX8_refusalOfMonths_21 ?_
        have hres := Option.some.inj hres
        have h0 := hres
        subst h0
        exact hret _ _ _ _ (vp_nar_int _) hP hD hS dX8_refusalOfMonths_23
    · replace hres := og_f c2 hres
      refine lv_ldc (v := (-1000000002)) hx hb hown k0 dX8_refusalOfMonths_11 ?_
      have hres := Option.some.inj hres
      have h0 := hres
      subst h0
      exact hret _ _ _ _ (vp_nar_int _) hP hD hS dX8_refusalOfMonths_13

def pX8_drawOfHundred (kr_drawn : Int32) : Option (Int32 × Int32) :=
    kl (((((kr_drawn.toInt64) * 1103515245) + 12345) - (((kr_drawn.toInt64) * 1103515245) + 12345) / 2147483648 * 2147483648).toInt32) fun y1 =>
    some (((y1 / 65536) - (y1 / 65536) / 100 * 100), y1)
set_option maxHeartbeats 8000000 in
set_option maxRecDepth 100000 in
theorem tX8_drawOfHundred (l : Launch) (D : va_G) (κ : Nat → ClassId) (kro : Nat) (txo : Nat) (tlo : Nat) (dfo : Nat) (nwo : Nat) (aho : Nat) (pao : Nat) (iaA : Nat) (sco : Nat) (bko : Nat) (spo : Nat) (kr_drawn : Int32) (r0 : Int32) (z_kr_drawn : Int32) (hres : pX8_drawOfHundred kr_drawn = some (r0, z_kr_drawn)) : krI l yX8_drawOfHundred wsX8_drawOfHundred { frames := 0, cells := 0, slots := 0, locals := 0 } D κ [.ref kro] ([(kro, .inr (8, [.ref txo, .ref tlo, .ref dfo, .ref nwo, .ref aho, .ref pao, .ref iaA, .ref sco, .ref bko, .ref spo, .int kr_drawn]))]) ([(kro, .inr (8, [.ref txo, .ref tlo, .ref dfo, .ref nwo, .ref aho, .ref pao, .ref iaA, .ref sco, .ref bko, .ref spo, .int z_kr_drawn]))]) r0 := by
  refine krI_of (cc := cX8_drawOfHundred) (maxL := 1) (rt := .int) (by decide) rfl (Nat.le_of_ble_eq_true rfl) ?_
  intro p e s m args below meth c A Q ls hx hb hml hown hts hK hA hret hP hD hS hl
  have hown : s.vm.findClass RX8 = some m.cls := hown
  have hl : lv_has ls 1 [(0, .ref kro)] := hl
  have iw8 : ∀ w ∈ u_ws RX8 TX8 11, w ∈ wsX8_drawOfHundred := (fun _ h => List.mem_cons_of_mem _ (List.mem_append_right _ h))
  have k0 : (Cond.fieldLink RX8 268 "KingRansom" "drawn" "I").before args s = true := hts _ (List.mem_of_getElem? (i := 1) rfl)
  have k1 : (Cond.constantLong RX8 281 (1103515245)).before args s = true := hts _ (List.mem_of_getElem? (i := 2) rfl)
  have k2 : (Cond.constantLong RX8 283 (12345)).before args s = true := hts _ (List.mem_of_getElem? (i := 3) rfl)
  have k3 : (Cond.constantLong RX8 285 (2147483648)).before args s = true := hts _ (List.mem_of_getElem? (i := 4) rfl)
  have k4 : (Cond.constant RX8 287 (65536)).before args s = true := hts _ (List.mem_of_getElem? (i := 5) rfl)
  unfold pX8_drawOfHundred at hres
  refine lv_aload_n hx hb dX8_drawOfHundred_0 rfl (lv_at hl 0 rfl) ?_
  refine lv_aload_n hx hb dX8_drawOfHundred_1 rfl (lv_at hl 0 rfl) ?_
  refine va_get (D := D) (ci := 8) (v := .int kr_drawn) (C := RX8) (T := TX8) (N := 11) hx hb hts iw8 hown hK.1 hP 0 rfl rfl 10 (by decide) k0 (fun _ h9 => h9) rfl dX8_drawOfHundred_2 ?_
  refine lv_i2l (v := kr_drawn.toInt64) hx hb dX8_drawOfHundred_5 rfl ?_
  refine lv_ldc2 (v := 1103515245) hx hb hown k1 dX8_drawOfHundred_6 ?_
  refine lv_lmul hx hb dX8_drawOfHundred_9 ?_
  refine lv_ldc2 (v := 12345) hx hb hown k2 dX8_drawOfHundred_10 ?_
  refine lv_ladd hx hb dX8_drawOfHundred_13 ?_
  refine lv_ldc2 (v := 2147483648) hx hb hown k3 dX8_drawOfHundred_14 ?_
  refine lv_lrem hx hb dX8_drawOfHundred_17 (by decide) ?_
  refine lv_l2i (v := ((((kr_drawn.toInt64) * 1103515245) + 12345) - (((kr_drawn.toInt64) * 1103515245) + 12345) / 2147483648 * 2147483648).toInt32) hx hb dX8_drawOfHundred_18 rfl ?_
  obtain ⟨y1, ey1, hres⟩ := kl_s hres
  refine kr_tope ey1 ?_
  refine va_put (D := D) (ci := 8) (v := .int y1) (ty := .int) (C := RX8) (T := TX8) (N := 11) hx hb hts iw8 tyX8 tyX8_ok nmX8 hown hK.1 hP hD hS 0 rfl rfl 10 (by decide) k0 (fun _ h9 => h9) rfl (tyX8_ok 10 (by decide)) rfl rfl (Nat.le_of_ble_eq_true rfl) dX8_drawOfHundred_19 (fun H locs hP hD hS => ?_)
  have hP : va_P D vwCl ([(kro, .inr (8, [.ref txo, .ref tlo, .ref dfo, .ref nwo, .ref aho, .ref pao, .ref iaA, .ref sco, .ref bko, .ref spo, .int y1]))]) H := hP
  have hD : va_D A ([(kro, .inr (8, [.ref txo, .ref tlo, .ref dfo, .ref nwo, .ref aho, .ref pao, .ref iaA, .ref sco, .ref bko, .ref spo, .int y1]))]) := hD
  refine lv_aload_n hx hb dX8_drawOfHundred_22 rfl (lv_at hl 0 rfl) ?_
  refine va_get (D := D) (ci := 8) (v := .int y1) (C := RX8) (T := TX8) (N := 11) hx hb hts iw8 hown hK.1 hP 0 rfl rfl 10 (by decide) k0 (fun _ h9 => h9) rfl dX8_drawOfHundred_23 ?_
  refine lv_ldcw (v := 65536) hx hb hown k4 dX8_drawOfHundred_26 ?_
  refine lv_idiv hx hb dX8_drawOfHundred_29 (by decide) ?_
  refine lv_bipush (v := 100) hx hb dX8_drawOfHundred_30 (by decide) ?_
  refine lv_irem hx hb dX8_drawOfHundred_32 (by decide) ?_
  have hres := Option.some.inj hres
  have h0 := (Prod.mk.inj hres).1
  replace hres := (Prod.mk.inj hres).2
  have h1 := hres
  subst h0
  subst h1
  exact hret _ _ _ _ (vp_nar_int _) hP hD hS dX8_drawOfHundred_33

def pX8_payer (x1 : Int32) (x2 : Int32) (tl_payers : Int32) (tl_shy : Nat → Int32) (nw_goods : Nat → Int32) (nw_rates : Nat → Int32) : Option (Int32) :=
    kb1 (pX8_isPayer x1 tl_payers) fun r1 =>
    (if r1 = 0 then
    some ((-1000000001))
    else
    if x1 < 0 ∨ 6 ≤ x1.toNatClampNeg then none else
    (if x2 = 0 then
    some ((nw_goods x1.toNatClampNeg))
    else
    (if x2 = 1 then
    some ((tl_shy x1.toNatClampNeg))
    else
    (if x2 = 2 then
    some ((nw_rates x1.toNatClampNeg))
    else
    (if x2 = 3 then
    kb1 (pX8_tells (nw_goods x1.toNatClampNeg) (tl_shy x1.toNatClampNeg) (nw_rates x1.toNatClampNeg)) fun r5 =>
    some (r5)
    else
    (if x2 = 4 then
    kb1 (pX8_tells (nw_goods x1.toNatClampNeg) (tl_shy x1.toNatClampNeg) (nw_rates x1.toNatClampNeg)) fun r7 =>
    some (((nw_goods x1.toNatClampNeg) - r7))
    else
    (if x2 = 5 then
    kb1 (pX8_pays (nw_goods x1.toNatClampNeg) (tl_shy x1.toNatClampNeg) (nw_rates x1.toNatClampNeg)) fun r9 =>
    some (r9)
    else
    some ((-1000000002)))))))))
set_option maxHeartbeats 8000000 in
set_option maxRecDepth 100000 in
theorem tX8_payer (l : Launch) (D : va_G) (κ : Nat → ClassId) (kro : Nat) (txo : Nat) (tlo : Nat) (dfo : Nat) (nwo : Nat) (aho : Nat) (pao : Nat) (iaA : Nat) (sco : Nat) (bko : Nat) (spo : Nat) (tl_goodsA : Nat) (tl_shyA : Nat) (tl_bidOfA : Nat) (tl_daysOfA : Nat) (nw_goodsA : Nat) (nw_ratesA : Nat) (kr_drawn : Int32) (tl_stands : Int32) (tl_price : Int32) (tl_death : Int32) (tl_payers : Int32) (tl_bids : Int32) (tl_hostages : Int32) (tl_bags : Int32) (tl_bagMarks : Int32) (tl_goods : Nat → Int32) (tl_shy : Nat → Int32) (tl_bidOf : Nat → Int32) (tl_daysOf : Nat → Int32) (nw_price : Int32) (nw_months : Int32) (nw_chest : Int32) (nw_given : Int32) (nw_fate : Int32) (nw_goods : Nat → Int32) (nw_rates : Nat → Int32) (x1 : Int32) (x2 : Int32) (r0 : Int32) (hres : pX8_payer x1 x2 tl_payers tl_shy nw_goods nw_rates = some (r0)) : krI l yX8_payer wsX8_payer { frames := 3, cells := 0, slots := 0, locals := 300 } D κ [.ref kro, .int x1, .int x2] ([(kro, .inr (8, [.ref txo, .ref tlo, .ref dfo, .ref nwo, .ref aho, .ref pao, .ref iaA, .ref sco, .ref bko, .ref spo, .int kr_drawn])), (tlo, .inr (6, [.int tl_stands, .int tl_price, .int tl_death, .int tl_payers, .int tl_bids, .int tl_hostages, .int tl_bags, .int tl_bagMarks, .ref tl_goodsA, .ref tl_shyA, .ref tl_bidOfA, .ref tl_daysOfA])), (tl_goodsA, .inl (κ 0, 6, .inl tl_goods)), (tl_shyA, .inl (κ 0, 6, .inl tl_shy)), (tl_bidOfA, .inl (κ 0, 9, .inl tl_bidOf)), (tl_daysOfA, .inl (κ 0, 6, .inl tl_daysOf)), (nwo, .inr (5, [.int nw_price, .int nw_months, .int nw_chest, .int nw_given, .int nw_fate, .ref nw_goodsA, .ref nw_ratesA])), (nw_goodsA, .inl (κ 0, 6, .inl nw_goods)), (nw_ratesA, .inl (κ 0, 6, .inl nw_rates))]) ([(kro, .inr (8, [.ref txo, .ref tlo, .ref dfo, .ref nwo, .ref aho, .ref pao, .ref iaA, .ref sco, .ref bko, .ref spo, .int kr_drawn])), (tlo, .inr (6, [.int tl_stands, .int tl_price, .int tl_death, .int tl_payers, .int tl_bids, .int tl_hostages, .int tl_bags, .int tl_bagMarks, .ref tl_goodsA, .ref tl_shyA, .ref tl_bidOfA, .ref tl_daysOfA])), (tl_goodsA, .inl (κ 0, 6, .inl tl_goods)), (tl_shyA, .inl (κ 0, 6, .inl tl_shy)), (tl_bidOfA, .inl (κ 0, 9, .inl tl_bidOf)), (tl_daysOfA, .inl (κ 0, 6, .inl tl_daysOf)), (nwo, .inr (5, [.int nw_price, .int nw_months, .int nw_chest, .int nw_given, .int nw_fate, .ref nw_goodsA, .ref nw_ratesA])), (nw_goodsA, .inl (κ 0, 6, .inl nw_goods)), (nw_ratesA, .inl (κ 0, 6, .inl nw_rates))]) r0 := by
  refine krI_of (cc := cX8_payer) (maxL := 6) (rt := .int) (by decide) rfl (Nat.le_of_ble_eq_true rfl) ?_
  intro p e s m args below meth c A Q ls hx hb hml hown hts hK hA hret hP hD hS hl
  have hown : s.vm.findClass RX8 = some m.cls := hown
  have hl : lv_has ls 6 [(0, .ref kro), (1, .int x1), (2, .int x2)] := hl
  have iw8 : ∀ w ∈ u_ws RX8 TX8 11, w ∈ wsX8_payer := (fun _ h => List.mem_cons_of_mem _ (List.mem_append_left _ (List.mem_append_left _ (List.mem_append_right _ h))))
  have iw5 : ∀ w ∈ u_ws RX5 TX5 7, w ∈ wsX8_payer := (fun _ h => List.mem_cons_of_mem _ (List.mem_append_left _ (List.mem_append_right _ h)))
  have iw6 : ∀ w ∈ u_ws RX6 TX6 12, w ∈ wsX8_payer := (fun _ h => List.mem_cons_of_mem _ (List.mem_append_right _ h))
  have k0 : (Cond.fieldLink RX8 29 "KingRansom" "now" "LKingRansom$State;").before args s = true := hts _ (List.mem_of_getElem? (i := 2) rfl)
  have k1 : (Cond.fieldLink RX8 19 "KingRansom" "tale" "LKingRansom$Tale;").before args s = true := hts _ (List.mem_of_getElem? (i := 3) rfl)
  have k2 : (Cond.constant RX8 71 (-1000000002)).before args s = true := hts _ (List.mem_of_getElem? (i := 4) rfl)
  have k3 : (Cond.constant RX8 146 (-1000000001)).before args s = true := hts _ (List.mem_of_getElem? (i := 1) rfl)
  unfold pX8_payer at hres
  refine lv_aload_n hx hb dX8_payer_0 rfl (lv_at hl 0 rfl) ?_
  refine lv_iload_n hx hb dX8_payer_1 rfl (lv_at hl 1 rfl) ?_
  obtain ⟨r1, hc2, hres⟩ := kb1_s hres
  refine krI_V (As := [.int x1]) (rest := []) (wr := [(nwo, .inr (5, [.int nw_price, .int nw_months, .int nw_chest, .int nw_given, .int nw_fate, .ref nw_goodsA, .ref nw_ratesA])), (nw_goodsA, .inl (κ 0, 6, .inl nw_goods)), (nw_ratesA, .inl (κ 0, 6, .inl nw_rates))]) ⟨hx, hb, hml, hown, hts⟩ hK (tX8_isPayer l D κ kro txo tlo dfo nwo aho pao iaA sco bko spo tl_goodsA tl_shyA tl_bidOfA tl_daysOfA kr_drawn tl_stands tl_price tl_death tl_payers tl_bids tl_hostages tl_bags tl_bagMarks tl_goods tl_shy tl_bidOf tl_daysOf x1 r1 hc2) (cwV 1 hts gX8_payer_X8_isPayer rfl rfl rfl (by decide +kernel) ⟨(Nat.le_of_ble_eq_true rfl), (Nat.le_of_ble_eq_true rfl)⟩) rfl rfl rfl hP hD hS hA [0, 1, 2, 3, 4, 5] [6, 7, 8] rfl rfl rfl rfl (by decide) rfl hl.1 rfl (Nat.le_of_ble_eq_true rfl) dX8_payer_2 ⟨Nat.zero_le _, Nat.zero_le _⟩ (fun H locs hP hD hS => ?_)
  have hP : va_P D vwCl ([(nwo, .inr (5, [.int nw_price, .int nw_months, .int nw_chest, .int nw_given, .int nw_fate, .ref nw_goodsA, .ref nw_ratesA])), (nw_goodsA, .inl (κ 0, 6, .inl nw_goods)), (nw_ratesA, .inl (κ 0, 6, .inl nw_rates)), (kro, .inr (8, [.ref txo, .ref tlo, .ref dfo, .ref nwo, .ref aho, .ref pao, .ref iaA, .ref sco, .ref bko, .ref spo, .int kr_drawn])), (tlo, .inr (6, [.int tl_stands, .int tl_price, .int tl_death, .int tl_payers, .int tl_bids, .int tl_hostages, .int tl_bags, .int tl_bagMarks, .ref tl_goodsA, .ref tl_shyA, .ref tl_bidOfA, .ref tl_daysOfA])), (tl_goodsA, .inl (κ 0, 6, .inl tl_goods)), (tl_shyA, .inl (κ 0, 6, .inl tl_shy)), (tl_bidOfA, .inl (κ 0, 9, .inl tl_bidOf)), (tl_daysOfA, .inl (κ 0, 6, .inl tl_daysOf))]) H := hP
  have hD : va_D A ([(nwo, .inr (5, [.int nw_price, .int nw_months, .int nw_chest, .int nw_given, .int nw_fate, .ref nw_goodsA, .ref nw_ratesA])), (nw_goodsA, .inl (κ 0, 6, .inl nw_goods)), (nw_ratesA, .inl (κ 0, 6, .inl nw_rates)), (kro, .inr (8, [.ref txo, .ref tlo, .ref dfo, .ref nwo, .ref aho, .ref pao, .ref iaA, .ref sco, .ref bko, .ref spo, .int kr_drawn])), (tlo, .inr (6, [.int tl_stands, .int tl_price, .int tl_death, .int tl_payers, .int tl_bids, .int tl_hostages, .int tl_bags, .int tl_bagMarks, .ref tl_goodsA, .ref tl_shyA, .ref tl_bidOfA, .ref tl_daysOfA])), (tl_goodsA, .inl (κ 0, 6, .inl tl_goods)), (tl_shyA, .inl (κ 0, 6, .inl tl_shy)), (tl_bidOfA, .inl (κ 0, 9, .inl tl_bidOf)), (tl_daysOfA, .inl (κ 0, 6, .inl tl_daysOf))]) := hD
  refine lv_if_ne (tgt := 11) hx hb dX8_payer_5 (by decide) (fun c3 => ?_) (fun c3 => ?_)
  · replace hres := og_f c3 hres
    refine lv_aload_n hx hb dX8_payer_11 rfl (lv_at hl 0 rfl) ?_
    refine va_get (D := D) (ci := 8) (v := .ref nwo) (C := RX8) (T := TX8) (N := 11) hx hb hts iw8 hown hK.1 hP 3 rfl rfl 3 (by decide) k0 (fun _ h9 => h9) rfl dX8_payer_12 ?_
    refine va_getN (D := D) (ci := 5) (v := .ref nw_goodsA) (C := RX5) (T := TX5) (N := 7) hx hb hts iw5 hown hK.1 hP 0 rfl rfl 5 (by decide) (hK.fl 36 rfl) (fun _ h9 => h9) rfl dX8_payer_15 ?_
    refine lv_iload_n hx hb dX8_payer_18 rfl (lv_at hl 1 rfl) ?_
    obtain ⟨g4, hres⟩ := og_no hres
    refine kr_iald (f := nw_goods) (j := x1.toNatClampNeg) hx hb hK hP 1 rfl g4 rfl dX8_payer_19 ?_
    refine lv_istore_n (lv' := [(3, .int (nw_goods x1.toNatClampNeg)), (0, .ref kro), (1, .int x1), (2, .int x2)]) hx hb dX8_payer_20 rfl hl (by decide) rfl (fun ls hl => ?_)
    refine lv_aload_n hx hb dX8_payer_21 rfl (lv_at hl 1 rfl) ?_
    refine va_get (D := D) (ci := 8) (v := .ref tlo) (C := RX8) (T := TX8) (N := 11) hx hb hts iw8 hown hK.1 hP 3 rfl rfl 1 (by decide) k1 (fun _ h9 => h9) rfl dX8_payer_22 ?_
    refine va_getN (D := D) (ci := 6) (v := .ref tl_shyA) (C := RX6) (T := TX6) (N := 12) hx hb hts iw6 hown hK.1 hP 4 rfl rfl 9 (by decide) (hK.fl 26 rfl) (fun _ h9 => h9) rfl dX8_payer_25 ?_
    refine lv_iload_n hx hb dX8_payer_28 rfl (lv_at hl 2 rfl) ?_
    refine kr_iald (f := tl_shy) (j := x1.toNatClampNeg) hx hb hK hP 6 rfl g4 rfl dX8_payer_29 ?_
    refine lv_istore (lv' := [(4, .int (tl_shy x1.toNatClampNeg)), (3, .int (nw_goods x1.toNatClampNeg)), (0, .ref kro), (1, .int x1), (2, .int x2)]) hx hb dX8_payer_30 hl (by decide) rfl (fun ls hl => ?_)
    refine lv_aload_n hx hb dX8_payer_32 rfl (lv_at hl 2 rfl) ?_
    refine va_get (D := D) (ci := 8) (v := .ref nwo) (C := RX8) (T := TX8) (N := 11) hx hb hts iw8 hown hK.1 hP 3 rfl rfl 3 (by decide) k0 (fun _ h9 => h9) rfl dX8_payer_33 ?_
    refine va_getN (D := D) (ci := 5) (v := .ref nw_ratesA) (C := RX5) (T := TX5) (N := 7) hx hb hts iw5 hown hK.1 hP 0 rfl rfl 6 (by decide) (hK.fl 37 rfl) (fun _ h9 => h9) rfl dX8_payer_36 ?_
    refine lv_iload_n hx hb dX8_payer_39 rfl (lv_at hl 3 rfl) ?_
    refine kr_iald (f := nw_rates) (j := x1.toNatClampNeg) hx hb hK hP 2 rfl g4 rfl dX8_payer_40 ?_
    refine lv_istore (lv' := [(5, .int (nw_rates x1.toNatClampNeg)), (4, .int (tl_shy x1.toNatClampNeg)), (3, .int (nw_goods x1.toNatClampNeg)), (0, .ref kro), (1, .int x1), (2, .int x2)]) hx hb dX8_payer_41 hl (by decide) rfl (fun ls hl => ?_)
    refine lv_iload_n hx hb dX8_payer_43 rfl (lv_at hl 5 rfl) ?_
    by_cases u0 : x2 = 0
    · refine lv_tableIn (off := 40) (tgt := 84) hx hb dX8_payer_44 (by rw [u0]; decide) (by rw [u0]; decide) (by rw [u0]; rfl) (by decide) ?_
      replace hres := og_t u0 hres
      refine lv_iload_n hx hb dX8_payer_84 rfl (lv_at hl 2 rfl) ?_
      have hres := Option.some.inj hres
      have h0 := hres
      subst h0
      exact hret _ _ _ _ (vp_nar_int _) (hP.sub [3, 4, 5, 6, 7, 8, 0, 1, 2] rfl) (hD.sub [3, 4, 5, 6, 7, 8, 0, 1, 2] (by decide) rfl) hS dX8_payer_85
    replace hres := og_f u0 hres
    by_cases u1 : x2 = 1
    · refine lv_tableIn (off := 42) (tgt := 86) hx hb dX8_payer_44 (by rw [u1]; decide) (by rw [u1]; decide) (by rw [u1]; rfl) (by decide) ?_
      replace hres := og_t u1 hres
      refine lv_iload hx hb dX8_payer_86 (lv_at hl 1 rfl) ?_
      have hres := Option.some.inj hres
      have h0 := hres
      subst h0
      exact hret _ _ _ _ (vp_nar_int _) (hP.sub [3, 4, 5, 6, 7, 8, 0, 1, 2] rfl) (hD.sub [3, 4, 5, 6, 7, 8, 0, 1, 2] (by decide) rfl) hS dX8_payer_88
    replace hres := og_f u1 hres
    by_cases u2 : x2 = 2
    · refine lv_tableIn (off := 45) (tgt := 89) hx hb dX8_payer_44 (by rw [u2]; decide) (by rw [u2]; decide) (by rw [u2]; rfl) (by decide) ?_
      replace hres := og_t u2 hres
      refine lv_iload hx hb dX8_payer_89 (lv_at hl 0 rfl) ?_
      have hres := Option.some.inj hres
      have h0 := hres
      subst h0
      exact hret _ _ _ _ (vp_nar_int _) (hP.sub [3, 4, 5, 6, 7, 8, 0, 1, 2] rfl) (hD.sub [3, 4, 5, 6, 7, 8, 0, 1, 2] (by decide) rfl) hS dX8_payer_91
    replace hres := og_f u2 hres
    by_cases u3 : x2 = 3
    · refine lv_tableIn (off := 48) (tgt := 92) hx hb dX8_payer_44 (by rw [u3]; decide) (by rw [u3]; decide) (by rw [u3]; rfl) (by decide) ?_
      replace hres := og_t u3 hres
      refine lv_iload_n hx hb dX8_payer_92 rfl (lv_at hl 2 rfl) ?_
      refine lv_iload hx hb dX8_payer_93 (lv_at hl 1 rfl) ?_
      refine lv_iload hx hb dX8_payer_95 (lv_at hl 0 rfl) ?_
      obtain ⟨r5, hc6, hres⟩ := kb1_s hres
      refine krI_S0 (As := [.int (nw_goods x1.toNatClampNeg), .int (tl_shy x1.toNatClampNeg), .int (nw_rates x1.toNatClampNeg)]) (rest := []) ⟨hx, hb, hml, hown, hts⟩ hK (tX8_tells l D κ (nw_goods x1.toNatClampNeg) (tl_shy x1.toNatClampNeg) (nw_rates x1.toNatClampNeg) r5 hc6) (va_cwS 3 hts gX8_payer_X8_tells rfl rfl rfl (by decide +kernel) ⟨(Nat.le_of_ble_eq_true rfl), (Nat.le_of_ble_eq_true rfl)⟩) hP hD hS hA rfl hl.1 rfl (Nat.le_of_ble_eq_true rfl) dX8_payer_97 ⟨Nat.zero_le _, Nat.zero_le _⟩ (fun H locs hP hD hS => ?_)
      have hres := Option.some.inj hres
      have h0 := hres
      subst h0
      exact hret _ _ _ _ (vp_nar_int _) (hP.sub [3, 4, 5, 6, 7, 8, 0, 1, 2] rfl) (hD.sub [3, 4, 5, 6, 7, 8, 0, 1, 2] (by decide) rfl) hS dX8_payer_100
    replace hres := og_f u3 hres
    by_cases u4 : x2 = 4
    · refine lv_tableIn (off := 57) (tgt := 101) hx hb dX8_payer_44 (by rw [u4]; decide) (by rw [u4]; decide) (by rw [u4]; rfl) (by decide) ?_
      replace hres := og_t u4 hres
      refine lv_iload_n hx hb dX8_payer_101 rfl (lv_at hl 2 rfl) ?_
      refine lv_iload_n hx hb dX8_payer_102 rfl (lv_at hl 2 rfl) ?_
      refine lv_iload hx hb dX8_payer_103 (lv_at hl 1 rfl) ?_
      refine lv_iload hx hb dX8_payer_105 (lv_at hl 0 rfl) ?_
      obtain ⟨r7, hc8, hres⟩ := kb1_s hres
      refine krI_S0 (As := [.int (nw_goods x1.toNatClampNeg), .int (tl_shy x1.toNatClampNeg), .int (nw_rates x1.toNatClampNeg)]) (rest := [.int (nw_goods x1.toNatClampNeg)]) ⟨hx, hb, hml, hown, hts⟩ hK (tX8_tells l D κ (nw_goods x1.toNatClampNeg) (tl_shy x1.toNatClampNeg) (nw_rates x1.toNatClampNeg) r7 hc8) (va_cwS 3 hts gX8_payer_X8_tells rfl rfl rfl (by decide +kernel) ⟨(Nat.le_of_ble_eq_true rfl), (Nat.le_of_ble_eq_true rfl)⟩) hP hD hS hA rfl hl.1 rfl (Nat.le_of_ble_eq_true rfl) dX8_payer_107 ⟨Nat.zero_le _, Nat.zero_le _⟩ (fun H locs hP hD hS => ?_)
      refine lv_isub hx hb dX8_payer_110 ?_
      have hres := Option.some.inj hres
      have h0 := hres
      subst h0
      exact hret _ _ _ _ (vp_nar_int _) (hP.sub [3, 4, 5, 6, 7, 8, 0, 1, 2] rfl) (hD.sub [3, 4, 5, 6, 7, 8, 0, 1, 2] (by decide) rfl) hS dX8_payer_111
    replace hres := og_f u4 hres
    by_cases u5 : x2 = 5
    · refine lv_tableIn (off := 68) (tgt := 112) hx hb dX8_payer_44 (by rw [u5]; decide) (by rw [u5]; decide) (by rw [u5]; rfl) (by decide) ?_
      replace hres := og_t u5 hres
      refine lv_iload_n hx hb dX8_payer_112 rfl (lv_at hl 2 rfl) ?_
      refine lv_iload hx hb dX8_payer_113 (lv_at hl 1 rfl) ?_
      refine lv_iload hx hb dX8_payer_115 (lv_at hl 0 rfl) ?_
      obtain ⟨r9, hc10, hres⟩ := kb1_s hres
      refine krI_S0 (As := [.int (nw_goods x1.toNatClampNeg), .int (tl_shy x1.toNatClampNeg), .int (nw_rates x1.toNatClampNeg)]) (rest := []) ⟨hx, hb, hml, hown, hts⟩ hK (tX8_pays l D κ (nw_goods x1.toNatClampNeg) (tl_shy x1.toNatClampNeg) (nw_rates x1.toNatClampNeg) r9 hc10) (va_cwS 3 hts gX8_payer_X8_pays rfl rfl rfl (by decide +kernel) ⟨(Nat.le_of_ble_eq_true rfl), (Nat.le_of_ble_eq_true rfl)⟩) hP hD hS hA rfl hl.1 rfl (Nat.le_of_ble_eq_true rfl) dX8_payer_117 ⟨Nat.zero_le _, Nat.zero_le _⟩ (fun H locs hP hD hS => ?_)
      have hres := Option.some.inj hres
      have h0 := hres
      subst h0
      exact hret _ _ _ _ (vp_nar_int _) (hP.sub [3, 4, 5, 6, 7, 8, 0, 1, 2] rfl) (hD.sub [3, 4, 5, 6, 7, 8, 0, 1, 2] (by decide) rfl) hS dX8_payer_120
    replace hres := og_f u5 hres
    have v0 := lv_neT u0 (a := 0) (by decide)
    have v1 := lv_neT u1 (a := 1) (by decide)
    have v2 := lv_neT u2 (a := 2) (by decide)
    have v3 := lv_neT u3 (a := 3) (by decide)
    have v4 := lv_neT u4 (a := 4) (by decide)
    have v5 := lv_neT u5 (a := 5) (by decide)
    refine lv_tableOut (tgt := 121) hx hb dX8_payer_44 (by omega) (by decide) ?_
    refine lv_ldc (v := (-1000000002)) hx hb hown k2 dX8_payer_121 ?_
    have hres := Option.some.inj hres
    have h0 := hres
    subst h0
    exact hret _ _ _ _ (vp_nar_int _) (hP.sub [3, 4, 5, 6, 7, 8, 0, 1, 2] rfl) (hD.sub [3, 4, 5, 6, 7, 8, 0, 1, 2] (by decide) rfl) hS dX8_payer_123
  · replace hres := og_t c3 hres
    refine lv_ldc (v := (-1000000001)) hx hb hown k3 dX8_payer_8 ?_
    have hres := Option.some.inj hres
    have h0 := hres
    subst h0
    exact hret _ _ _ _ (vp_nar_int _) (hP.sub [3, 4, 5, 6, 7, 8, 0, 1, 2] rfl) (hD.sub [3, 4, 5, 6, 7, 8, 0, 1, 2] (by decide) rfl) hS dX8_payer_10

def pX8_bid (x1 : Int32) (tl_bids : Int32) (tl_bidOf : Nat → Int32) : Option (Int32) :=
    (if x1 < 0 then
    some ((-1))
    else
    (if tl_bids ≤ x1 then
    some ((-1))
    else
    if x1 < 0 ∨ 9 ≤ x1.toNatClampNeg then none else
    some ((tl_bidOf x1.toNatClampNeg))))
set_option maxHeartbeats 8000000 in
set_option maxRecDepth 100000 in
theorem tX8_bid (l : Launch) (D : va_G) (κ : Nat → ClassId) (kro : Nat) (txo : Nat) (tlo : Nat) (dfo : Nat) (nwo : Nat) (aho : Nat) (pao : Nat) (iaA : Nat) (sco : Nat) (bko : Nat) (spo : Nat) (tl_goodsA : Nat) (tl_shyA : Nat) (tl_bidOfA : Nat) (tl_daysOfA : Nat) (kr_drawn : Int32) (tl_stands : Int32) (tl_price : Int32) (tl_death : Int32) (tl_payers : Int32) (tl_bids : Int32) (tl_hostages : Int32) (tl_bags : Int32) (tl_bagMarks : Int32) (tl_goods : Nat → Int32) (tl_shy : Nat → Int32) (tl_bidOf : Nat → Int32) (tl_daysOf : Nat → Int32) (x1 : Int32) (r0 : Int32) (hres : pX8_bid x1 tl_bids tl_bidOf = some (r0)) : krI l yX8_bid wsX8_bid { frames := 0, cells := 0, slots := 0, locals := 0 } D κ [.ref kro, .int x1] ([(kro, .inr (8, [.ref txo, .ref tlo, .ref dfo, .ref nwo, .ref aho, .ref pao, .ref iaA, .ref sco, .ref bko, .ref spo, .int kr_drawn])), (tlo, .inr (6, [.int tl_stands, .int tl_price, .int tl_death, .int tl_payers, .int tl_bids, .int tl_hostages, .int tl_bags, .int tl_bagMarks, .ref tl_goodsA, .ref tl_shyA, .ref tl_bidOfA, .ref tl_daysOfA])), (tl_goodsA, .inl (κ 0, 6, .inl tl_goods)), (tl_shyA, .inl (κ 0, 6, .inl tl_shy)), (tl_bidOfA, .inl (κ 0, 9, .inl tl_bidOf)), (tl_daysOfA, .inl (κ 0, 6, .inl tl_daysOf))]) ([(kro, .inr (8, [.ref txo, .ref tlo, .ref dfo, .ref nwo, .ref aho, .ref pao, .ref iaA, .ref sco, .ref bko, .ref spo, .int kr_drawn])), (tlo, .inr (6, [.int tl_stands, .int tl_price, .int tl_death, .int tl_payers, .int tl_bids, .int tl_hostages, .int tl_bags, .int tl_bagMarks, .ref tl_goodsA, .ref tl_shyA, .ref tl_bidOfA, .ref tl_daysOfA])), (tl_goodsA, .inl (κ 0, 6, .inl tl_goods)), (tl_shyA, .inl (κ 0, 6, .inl tl_shy)), (tl_bidOfA, .inl (κ 0, 9, .inl tl_bidOf)), (tl_daysOfA, .inl (κ 0, 6, .inl tl_daysOf))]) r0 := by
  refine krI_of (cc := cX8_bid) (maxL := 2) (rt := .int) (by decide) rfl (Nat.le_of_ble_eq_true rfl) ?_
  intro p e s m args below meth c A Q ls hx hb hml hown hts hK hA hret hP hD hS hl
  have hown : s.vm.findClass RX8 = some m.cls := hown
  have hl : lv_has ls 2 [(0, .ref kro), (1, .int x1)] := hl
  have iw8 : ∀ w ∈ u_ws RX8 TX8 11, w ∈ wsX8_bid := (fun _ h => List.mem_cons_of_mem _ (List.mem_append_left _ (List.mem_append_right _ h)))
  have iw6 : ∀ w ∈ u_ws RX6 TX6 12, w ∈ wsX8_bid := (fun _ h => List.mem_cons_of_mem _ (List.mem_append_right _ h))
  have k0 : (Cond.fieldLink RX8 19 "KingRansom" "tale" "LKingRansom$Tale;").before args s = true := hts _ (List.mem_of_getElem? (i := 1) rfl)
  unfold pX8_bid at hres
  refine lv_iload_n hx hb dX8_bid_0 rfl (lv_at hl 1 rfl) ?_
  refine lv_if_lt (tgt := 27) hx hb dX8_bid_1 (by decide) (fun c1 => ?_) (fun c1 => ?_)
  · replace hres := og_t c1 hres
    refine lv_iconst (v := (-1)) hx hb dX8_bid_27 (by decide) ?_
    have hres := Option.some.inj hres
    have h0 := hres
    subst h0
    exact hret _ _ _ _ (vp_nar_int _) hP hD hS dX8_bid_28
  · replace hres := og_f c1 hres
    refine lv_iload_n hx hb dX8_bid_4 rfl (lv_at hl 1 rfl) ?_
    refine lv_aload_n hx hb dX8_bid_5 rfl (lv_at hl 0 rfl) ?_
    refine va_get (D := D) (ci := 8) (v := .ref tlo) (C := RX8) (T := TX8) (N := 11) hx hb hts iw8 hown hK.1 hP 0 rfl rfl 1 (by decide) k0 (fun _ h9 => h9) rfl dX8_bid_6 ?_
    refine va_getN (D := D) (ci := 6) (v := .int tl_bids) (C := RX6) (T := TX6) (N := 12) hx hb hts iw6 hown hK.1 hP 1 rfl rfl 4 (by decide) (hK.fl 13 rfl) (fun _ h9 => h9) rfl dX8_bid_9 ?_
    refine lv_icmp_ge (tgt := 27) hx hb dX8_bid_12 (by decide) (fun c2 => ?_) (fun c2 => ?_)
    · replace hres := og_t c2 hres
      refine lv_iconst (v := (-1)) hx hb dX8_bid_27 (by decide) ?_
      have hres := Option.some.inj hres
      have h0 := hres
      subst h0
      exact hret _ _ _ _ (vp_nar_int _) hP hD hS dX8_bid_28
    · replace hres := og_f c2 hres
      refine lv_aload_n hx hb dX8_bid_15 rfl (lv_at hl 0 rfl) ?_
      refine va_get (D := D) (ci := 8) (v := .ref tlo) (C := RX8) (T := TX8) (N := 11) hx hb hts iw8 hown hK.1 hP 0 rfl rfl 1 (by decide) k0 (fun _ h9 => h9) rfl dX8_bid_16 ?_
      refine va_getN (D := D) (ci := 6) (v := .ref tl_bidOfA) (C := RX6) (T := TX6) (N := 12) hx hb hts iw6 hown hK.1 hP 1 rfl rfl 10 (by decide) (hK.fl 27 rfl) (fun _ h9 => h9) rfl dX8_bid_19 ?_
      refine lv_iload_n hx hb dX8_bid_22 rfl (lv_at hl 1 rfl) ?_
      obtain ⟨g3, hres⟩ := og_no hres
      refine kr_iald (f := tl_bidOf) (j := x1.toNatClampNeg) hx hb hK hP 4 rfl g3 rfl dX8_bid_23 ?_
      refine lv_goto (tgt := 28) hx hb dX8_bid_24 (by decide) ?_
      have hres := Option.some.inj hres
      have h0 := hres
      subst h0
      exact hret _ _ _ _ (vp_nar_int _) hP hD hS dX8_bid_28

def pX8_comesBy_L53 (k5 : Int32 → Int32 → Option (Int32)) (v3 : Int32) (v4 : Int32) : Option (Int32) :=
    k5 v3 (v4 + 1)
def pX8_comesBy_L5 (x1 : Int32) (x2 : Int32) (tl_payers : Int32) (tl_shy : Nat → Int32) (nw_goods : Nat → Int32) : Nat → Int32 → Int32 → Option (Int32)
  | 0, _, _ => none
  | n5 + 1, v3, v4 =>
    (if tl_payers ≤ v4 then
    some (v3)
    else
    (if ((x2 >>> (v4 &&& 31)) &&& 1) = 0 then
    if v4 < 0 ∨ 6 ≤ v4.toNatClampNeg then none else
    kb1 (pX8_pays (nw_goods v4.toNatClampNeg) (tl_shy v4.toNatClampNeg) x1) fun r4 =>
    pX8_comesBy_L53 (pX8_comesBy_L5 x1 x2 tl_payers tl_shy nw_goods n5) (v3 + r4) v4
    else
    pX8_comesBy_L53 (pX8_comesBy_L5 x1 x2 tl_payers tl_shy nw_goods n5) v3 v4))
def pX8_comesBy (N : Nat) (x1 : Int32) (x2 : Int32) (tl_payers : Int32) (tl_shy : Nat → Int32) (nw_goods : Nat → Int32) : Option (Int32) :=
    pX8_comesBy_L5 x1 x2 tl_payers tl_shy nw_goods N 0 0
set_option maxHeartbeats 8000000 in
set_option maxRecDepth 100000 in
theorem tX8_comesBy (l : Launch) (D : va_G) (κ : Nat → ClassId) (kro : Nat) (txo : Nat) (tlo : Nat) (dfo : Nat) (nwo : Nat) (aho : Nat) (pao : Nat) (iaA : Nat) (sco : Nat) (bko : Nat) (spo : Nat) (tl_goodsA : Nat) (tl_shyA : Nat) (tl_bidOfA : Nat) (tl_daysOfA : Nat) (nw_goodsA : Nat) (nw_ratesA : Nat) (N : Nat) (kr_drawn : Int32) (tl_stands : Int32) (tl_price : Int32) (tl_death : Int32) (tl_payers : Int32) (tl_bids : Int32) (tl_hostages : Int32) (tl_bags : Int32) (tl_bagMarks : Int32) (tl_goods : Nat → Int32) (tl_shy : Nat → Int32) (tl_bidOf : Nat → Int32) (tl_daysOf : Nat → Int32) (nw_price : Int32) (nw_months : Int32) (nw_chest : Int32) (nw_given : Int32) (nw_fate : Int32) (nw_goods : Nat → Int32) (nw_rates : Nat → Int32) (x1 : Int32) (x2 : Int32) (r0 : Int32) (hres : pX8_comesBy N x1 x2 tl_payers tl_shy nw_goods = some (r0)) : krI l yX8_comesBy wsX8_comesBy { frames := 3, cells := 0, slots := 0, locals := 300 } D κ [.ref kro, .int x1, .int x2] ([(kro, .inr (8, [.ref txo, .ref tlo, .ref dfo, .ref nwo, .ref aho, .ref pao, .ref iaA, .ref sco, .ref bko, .ref spo, .int kr_drawn])), (tlo, .inr (6, [.int tl_stands, .int tl_price, .int tl_death, .int tl_payers, .int tl_bids, .int tl_hostages, .int tl_bags, .int tl_bagMarks, .ref tl_goodsA, .ref tl_shyA, .ref tl_bidOfA, .ref tl_daysOfA])), (tl_goodsA, .inl (κ 0, 6, .inl tl_goods)), (tl_shyA, .inl (κ 0, 6, .inl tl_shy)), (tl_bidOfA, .inl (κ 0, 9, .inl tl_bidOf)), (tl_daysOfA, .inl (κ 0, 6, .inl tl_daysOf)), (nwo, .inr (5, [.int nw_price, .int nw_months, .int nw_chest, .int nw_given, .int nw_fate, .ref nw_goodsA, .ref nw_ratesA])), (nw_goodsA, .inl (κ 0, 6, .inl nw_goods)), (nw_ratesA, .inl (κ 0, 6, .inl nw_rates))]) ([(kro, .inr (8, [.ref txo, .ref tlo, .ref dfo, .ref nwo, .ref aho, .ref pao, .ref iaA, .ref sco, .ref bko, .ref spo, .int kr_drawn])), (tlo, .inr (6, [.int tl_stands, .int tl_price, .int tl_death, .int tl_payers, .int tl_bids, .int tl_hostages, .int tl_bags, .int tl_bagMarks, .ref tl_goodsA, .ref tl_shyA, .ref tl_bidOfA, .ref tl_daysOfA])), (tl_goodsA, .inl (κ 0, 6, .inl tl_goods)), (tl_shyA, .inl (κ 0, 6, .inl tl_shy)), (tl_bidOfA, .inl (κ 0, 9, .inl tl_bidOf)), (tl_daysOfA, .inl (κ 0, 6, .inl tl_daysOf)), (nwo, .inr (5, [.int nw_price, .int nw_months, .int nw_chest, .int nw_given, .int nw_fate, .ref nw_goodsA, .ref nw_ratesA])), (nw_goodsA, .inl (κ 0, 6, .inl nw_goods)), (nw_ratesA, .inl (κ 0, 6, .inl nw_rates))]) r0 := by
  refine krI_of (cc := cX8_comesBy) (maxL := 5) (rt := .int) (by decide) rfl (Nat.le_of_ble_eq_true rfl) ?_
  intro p e s m args below meth c A Q ls hx hb hml hown hts hK hA hret hP hD hS hl
  have hown : s.vm.findClass RX8 = some m.cls := hown
  have hl : lv_has ls 5 [(0, .ref kro), (1, .int x1), (2, .int x2)] := hl
  have iw8 : ∀ w ∈ u_ws RX8 TX8 11, w ∈ wsX8_comesBy := (fun _ h => List.mem_cons_of_mem _ (List.mem_append_left _ (List.mem_append_left _ (List.mem_append_right _ h))))
  have iw6 : ∀ w ∈ u_ws RX6 TX6 12, w ∈ wsX8_comesBy := (fun _ h => List.mem_cons_of_mem _ (List.mem_append_left _ (List.mem_append_right _ h)))
  have iw5 : ∀ w ∈ u_ws RX5 TX5 7, w ∈ wsX8_comesBy := (fun _ h => List.mem_cons_of_mem _ (List.mem_append_right _ h))
  have k0 : (Cond.fieldLink RX8 19 "KingRansom" "tale" "LKingRansom$Tale;").before args s = true := hts _ (List.mem_of_getElem? (i := 1) rfl)
  have k1 : (Cond.fieldLink RX8 29 "KingRansom" "now" "LKingRansom$State;").before args s = true := hts _ (List.mem_of_getElem? (i := 2) rfl)
  have L5 : ∀ (n5 : Nat) (v3 : Int32) (v4 : Int32) (H : Heap) (locs : List Loc) (ls : Array Slot), va_P D vwCl ([(kro, .inr (8, [.ref txo, .ref tlo, .ref dfo, .ref nwo, .ref aho, .ref pao, .ref iaA, .ref sco, .ref bko, .ref spo, .int kr_drawn])), (tlo, .inr (6, [.int tl_stands, .int tl_price, .int tl_death, .int tl_payers, .int tl_bids, .int tl_hostages, .int tl_bags, .int tl_bagMarks, .ref tl_goodsA, .ref tl_shyA, .ref tl_bidOfA, .ref tl_daysOfA])), (tl_goodsA, .inl (κ 0, 6, .inl tl_goods)), (tl_shyA, .inl (κ 0, 6, .inl tl_shy)), (tl_bidOfA, .inl (κ 0, 9, .inl tl_bidOf)), (tl_daysOfA, .inl (κ 0, 6, .inl tl_daysOf)), (nwo, .inr (5, [.int nw_price, .int nw_months, .int nw_chest, .int nw_given, .int nw_fate, .ref nw_goodsA, .ref nw_ratesA])), (nw_goodsA, .inl (κ 0, 6, .inl nw_goods)), (nw_ratesA, .inl (κ 0, 6, .inl nw_rates))]) H → va_D A ([(kro, .inr (8, [.ref txo, .ref tlo, .ref dfo, .ref nwo, .ref aho, .ref pao, .ref iaA, .ref sco, .ref bko, .ref spo, .int kr_drawn])), (tlo, .inr (6, [.int tl_stands, .int tl_price, .int tl_death, .int tl_payers, .int tl_bids, .int tl_hostages, .int tl_bags, .int tl_bagMarks, .ref tl_goodsA, .ref tl_shyA, .ref tl_bidOfA, .ref tl_daysOfA])), (tl_goodsA, .inl (κ 0, 6, .inl tl_goods)), (tl_shyA, .inl (κ 0, 6, .inl tl_shy)), (tl_bidOfA, .inl (κ 0, 9, .inl tl_bidOf)), (tl_daysOfA, .inl (κ 0, 6, .inl tl_daysOf)), (nwo, .inr (5, [.int nw_price, .int nw_months, .int nw_chest, .int nw_given, .int nw_fate, .ref nw_goodsA, .ref nw_ratesA])), (nw_goodsA, .inl (κ 0, 6, .inl nw_goods)), (nw_ratesA, .inl (κ 0, 6, .inl nw_rates))]) → va_S A s.heap H locs → lv_has ls 5 [(0, .ref kro), (1, .int x1), (2, .int x2), (3, .int v3), (4, .int v4)] → pX8_comesBy_L5 x1 x2 tl_payers tl_shy nw_goods n5 v3 v4 = some (r0) → W p l e { frames := 3, cells := 0, slots := 0, locals := 300 } s m args below meth c H locs 0 0 Q (F0 m 5 ls []) := by
    intro n5
    induction n5 with
    | zero =>
      intro v3 v4 H locs ls hP hD hS hl hres
      exact absurd (show none = some _ from hres) (by simp)
    | succ n5 ih5 =>
      intro v3 v4 H locs ls hP hD hS hl hres
      have L53 : ∀ (v3 : Int32) (v4 : Int32) (H : Heap) (locs : List Loc) (ls : Array Slot), va_P D vwCl ([(kro, .inr (8, [.ref txo, .ref tlo, .ref dfo, .ref nwo, .ref aho, .ref pao, .ref iaA, .ref sco, .ref bko, .ref spo, .int kr_drawn])), (tlo, .inr (6, [.int tl_stands, .int tl_price, .int tl_death, .int tl_payers, .int tl_bids, .int tl_hostages, .int tl_bags, .int tl_bagMarks, .ref tl_goodsA, .ref tl_shyA, .ref tl_bidOfA, .ref tl_daysOfA])), (tl_goodsA, .inl (κ 0, 6, .inl tl_goods)), (tl_shyA, .inl (κ 0, 6, .inl tl_shy)), (tl_bidOfA, .inl (κ 0, 9, .inl tl_bidOf)), (tl_daysOfA, .inl (κ 0, 6, .inl tl_daysOf)), (nwo, .inr (5, [.int nw_price, .int nw_months, .int nw_chest, .int nw_given, .int nw_fate, .ref nw_goodsA, .ref nw_ratesA])), (nw_goodsA, .inl (κ 0, 6, .inl nw_goods)), (nw_ratesA, .inl (κ 0, 6, .inl nw_rates))]) H → va_D A ([(kro, .inr (8, [.ref txo, .ref tlo, .ref dfo, .ref nwo, .ref aho, .ref pao, .ref iaA, .ref sco, .ref bko, .ref spo, .int kr_drawn])), (tlo, .inr (6, [.int tl_stands, .int tl_price, .int tl_death, .int tl_payers, .int tl_bids, .int tl_hostages, .int tl_bags, .int tl_bagMarks, .ref tl_goodsA, .ref tl_shyA, .ref tl_bidOfA, .ref tl_daysOfA])), (tl_goodsA, .inl (κ 0, 6, .inl tl_goods)), (tl_shyA, .inl (κ 0, 6, .inl tl_shy)), (tl_bidOfA, .inl (κ 0, 9, .inl tl_bidOf)), (tl_daysOfA, .inl (κ 0, 6, .inl tl_daysOf)), (nwo, .inr (5, [.int nw_price, .int nw_months, .int nw_chest, .int nw_given, .int nw_fate, .ref nw_goodsA, .ref nw_ratesA])), (nw_goodsA, .inl (κ 0, 6, .inl nw_goods)), (nw_ratesA, .inl (κ 0, 6, .inl nw_rates))]) → va_S A s.heap H locs → lv_has ls 5 [(0, .ref kro), (1, .int x1), (2, .int x2), (3, .int v3), (4, .int v4)] → pX8_comesBy_L53 (pX8_comesBy_L5 x1 x2 tl_payers tl_shy nw_goods n5) v3 v4 = some (r0) → W p l e { frames := 3, cells := 0, slots := 0, locals := 300 } s m args below meth c H locs 0 0 Q (F0 m 53 ls []) := by
        intro v3 v4 H locs ls hP hD hS hl hres
        unfold pX8_comesBy_L53 at hres
        refine lv_iinc (v := (v4 + 1)) (lv' := [(4, .int (v4 + 1)), (0, .ref kro), (1, .int x1), (2, .int x2), (3, .int v3)]) hx hb dX8_comesBy_53 hl (k := 4) rfl rfl (by decide) rfl (fun ls hl => ?_)
        refine lv_goto (tgt := 5) hx hb dX8_comesBy_56 (by decide) ?_
        exact ih5 v3 (v4 + 1) _ _ _ hP hD hS (lv_sub hl [1, 2, 3, 4, 0] rfl) hres
      rw [pX8_comesBy_L5] at hres
      refine lv_iload hx hb dX8_comesBy_5 (lv_at hl 4 rfl) ?_
      refine lv_aload_n hx hb dX8_comesBy_7 rfl (lv_at hl 0 rfl) ?_
      refine va_get (D := D) (ci := 8) (v := .ref tlo) (C := RX8) (T := TX8) (N := 11) hx hb hts iw8 hown hK.1 hP 0 rfl rfl 1 (by decide) k0 (fun _ h9 => h9) rfl dX8_comesBy_8 ?_
      refine va_getN (D := D) (ci := 6) (v := .int tl_payers) (C := RX6) (T := TX6) (N := 12) hx hb hts iw6 hown hK.1 hP 1 rfl rfl 3 (by decide) (hK.fl 10 rfl) (fun _ h9 => h9) rfl dX8_comesBy_11 ?_
      refine lv_icmp_ge (tgt := 59) hx hb dX8_comesBy_14 (by decide) (fun c1 => ?_) (fun c1 => ?_)
      · replace hres := og_t c1 hres
        refine lv_iload_n hx hb dX8_comesBy_59 rfl (lv_at hl 3 rfl) ?_
        have hres := Option.some.inj hres
        have h0 := hres
        subst h0
        exact hret _ _ _ _ (vp_nar_int _) hP hD hS dX8_comesBy_60
      · replace hres := og_f c1 hres
        refine lv_iload_n hx hb dX8_comesBy_17 rfl (lv_at hl 2 rfl) ?_
        refine lv_iload hx hb dX8_comesBy_18 (lv_at hl 4 rfl) ?_
        refine lv_ishr hx hb dX8_comesBy_20 ?_
        refine lv_iconst (v := 1) hx hb dX8_comesBy_21 (by decide) ?_
        refine lv_iand hx hb dX8_comesBy_22 ?_
        refine lv_if_ne (tgt := 53) hx hb dX8_comesBy_23 (by decide) (fun c2 => ?_) (fun c2 => ?_)
        · replace hres := og_f c2 hres
          exact L53 v3 v4 _ _ _ hP hD hS (lv_sub hl [0, 1, 2, 3, 4] rfl) hres
        · replace hres := og_t c2 hres
          refine lv_iload_n hx hb dX8_comesBy_26 rfl (lv_at hl 3 rfl) ?_
          refine lv_aload_n hx hb dX8_comesBy_27 rfl (lv_at hl 0 rfl) ?_
          refine va_get (D := D) (ci := 8) (v := .ref nwo) (C := RX8) (T := TX8) (N := 11) hx hb hts iw8 hown hK.1 hP 0 rfl rfl 3 (by decide) k1 (fun _ h9 => h9) rfl dX8_comesBy_28 ?_
          refine va_getN (D := D) (ci := 5) (v := .ref nw_goodsA) (C := RX5) (T := TX5) (N := 7) hx hb hts iw5 hown hK.1 hP 6 rfl rfl 5 (by decide) (hK.fl 36 rfl) (fun _ h9 => h9) rfl dX8_comesBy_31 ?_
          refine lv_iload hx hb dX8_comesBy_34 (lv_at hl 4 rfl) ?_
          obtain ⟨g3, hres⟩ := og_no hres
          refine kr_iald (f := nw_goods) (j := v4.toNatClampNeg) hx hb hK hP 7 rfl g3 rfl dX8_comesBy_36 ?_
          refine lv_aload_n hx hb dX8_comesBy_37 rfl (lv_at hl 0 rfl) ?_
          refine va_get (D := D) (ci := 8) (v := .ref tlo) (C := RX8) (T := TX8) (N := 11) hx hb hts iw8 hown hK.1 hP 0 rfl rfl 1 (by decide) k0 (fun _ h9 => h9) rfl dX8_comesBy_38 ?_
          refine va_getN (D := D) (ci := 6) (v := .ref tl_shyA) (C := RX6) (T := TX6) (N := 12) hx hb hts iw6 hown hK.1 hP 1 rfl rfl 9 (by decide) (hK.fl 26 rfl) (fun _ h9 => h9) rfl dX8_comesBy_41 ?_
          refine lv_iload hx hb dX8_comesBy_44 (lv_at hl 4 rfl) ?_
          refine kr_iald (f := tl_shy) (j := v4.toNatClampNeg) hx hb hK hP 3 rfl g3 rfl dX8_comesBy_46 ?_
          refine lv_iload_n hx hb dX8_comesBy_47 rfl (lv_at hl 1 rfl) ?_
          obtain ⟨r4, hc5, hres⟩ := kb1_s hres
          refine krI_S0 (As := [.int (nw_goods v4.toNatClampNeg), .int (tl_shy v4.toNatClampNeg), .int x1]) (rest := [.int v3]) ⟨hx, hb, hml, hown, hts⟩ hK (tX8_pays l D κ (nw_goods v4.toNatClampNeg) (tl_shy v4.toNatClampNeg) x1 r4 hc5) (va_cwS 3 hts gX8_comesBy_X8_pays rfl rfl rfl (by decide +kernel) ⟨(Nat.le_of_ble_eq_true rfl), (Nat.le_of_ble_eq_true rfl)⟩) hP hD hS hA rfl hl.1 rfl (Nat.le_of_ble_eq_true rfl) dX8_comesBy_48 ⟨Nat.zero_le _, Nat.zero_le _⟩ (fun H locs hP hD hS => ?_)
          refine lv_iadd hx hb dX8_comesBy_51 ?_
          refine lv_istore_n (lv' := [(3, .int (v3 + r4)), (0, .ref kro), (1, .int x1), (2, .int x2), (4, .int v4)]) hx hb dX8_comesBy_52 rfl hl (by decide) rfl (fun ls hl => ?_)
          exact L53 (v3 + r4) v4 _ _ _ hP hD hS (lv_sub hl [1, 2, 3, 0, 4] rfl) hres
  unfold pX8_comesBy at hres
  refine lv_iconst (v := 0) hx hb dX8_comesBy_0 (by decide) ?_
  refine lv_istore_n (lv' := [(3, .int 0), (0, .ref kro), (1, .int x1), (2, .int x2)]) hx hb dX8_comesBy_1 rfl hl (by decide) rfl (fun ls hl => ?_)
  refine lv_iconst (v := 0) hx hb dX8_comesBy_2 (by decide) ?_
  refine lv_istore (lv' := [(4, .int 0), (3, .int 0), (0, .ref kro), (1, .int x1), (2, .int x2)]) hx hb dX8_comesBy_3 hl (by decide) rfl (fun ls hl => ?_)
  exact L5 N 0 0 _ _ _ hP hD hS (lv_sub hl [2, 3, 4, 1, 0] rfl) hres

def pX8_brings (N : Nat) (x1 : Int32) (tl_payers : Int32) (tl_shy : Nat → Int32) (nw_goods : Nat → Int32) : Option (Int32) :=
    kb1 (pX8_isRate x1) fun r1 =>
    (if r1 = 0 then
    some ((-1000000002))
    else
    kb1 (pX8_comesBy N x1 0 tl_payers tl_shy nw_goods) fun r4 =>
    some (r4))
set_option maxHeartbeats 8000000 in
set_option maxRecDepth 100000 in
theorem tX8_brings (l : Launch) (D : va_G) (κ : Nat → ClassId) (kro : Nat) (txo : Nat) (tlo : Nat) (dfo : Nat) (nwo : Nat) (aho : Nat) (pao : Nat) (iaA : Nat) (sco : Nat) (bko : Nat) (spo : Nat) (tl_goodsA : Nat) (tl_shyA : Nat) (tl_bidOfA : Nat) (tl_daysOfA : Nat) (nw_goodsA : Nat) (nw_ratesA : Nat) (N : Nat) (kr_drawn : Int32) (tl_stands : Int32) (tl_price : Int32) (tl_death : Int32) (tl_payers : Int32) (tl_bids : Int32) (tl_hostages : Int32) (tl_bags : Int32) (tl_bagMarks : Int32) (tl_goods : Nat → Int32) (tl_shy : Nat → Int32) (tl_bidOf : Nat → Int32) (tl_daysOf : Nat → Int32) (nw_price : Int32) (nw_months : Int32) (nw_chest : Int32) (nw_given : Int32) (nw_fate : Int32) (nw_goods : Nat → Int32) (nw_rates : Nat → Int32) (x1 : Int32) (r0 : Int32) (hres : pX8_brings N x1 tl_payers tl_shy nw_goods = some (r0)) : krI l yX8_brings wsX8_brings { frames := 4, cells := 0, slots := 0, locals := 400 } D κ [.ref kro, .int x1] ([(kro, .inr (8, [.ref txo, .ref tlo, .ref dfo, .ref nwo, .ref aho, .ref pao, .ref iaA, .ref sco, .ref bko, .ref spo, .int kr_drawn])), (tlo, .inr (6, [.int tl_stands, .int tl_price, .int tl_death, .int tl_payers, .int tl_bids, .int tl_hostages, .int tl_bags, .int tl_bagMarks, .ref tl_goodsA, .ref tl_shyA, .ref tl_bidOfA, .ref tl_daysOfA])), (tl_goodsA, .inl (κ 0, 6, .inl tl_goods)), (tl_shyA, .inl (κ 0, 6, .inl tl_shy)), (tl_bidOfA, .inl (κ 0, 9, .inl tl_bidOf)), (tl_daysOfA, .inl (κ 0, 6, .inl tl_daysOf)), (nwo, .inr (5, [.int nw_price, .int nw_months, .int nw_chest, .int nw_given, .int nw_fate, .ref nw_goodsA, .ref nw_ratesA])), (nw_goodsA, .inl (κ 0, 6, .inl nw_goods)), (nw_ratesA, .inl (κ 0, 6, .inl nw_rates))]) ([(kro, .inr (8, [.ref txo, .ref tlo, .ref dfo, .ref nwo, .ref aho, .ref pao, .ref iaA, .ref sco, .ref bko, .ref spo, .int kr_drawn])), (tlo, .inr (6, [.int tl_stands, .int tl_price, .int tl_death, .int tl_payers, .int tl_bids, .int tl_hostages, .int tl_bags, .int tl_bagMarks, .ref tl_goodsA, .ref tl_shyA, .ref tl_bidOfA, .ref tl_daysOfA])), (tl_goodsA, .inl (κ 0, 6, .inl tl_goods)), (tl_shyA, .inl (κ 0, 6, .inl tl_shy)), (tl_bidOfA, .inl (κ 0, 9, .inl tl_bidOf)), (tl_daysOfA, .inl (κ 0, 6, .inl tl_daysOf)), (nwo, .inr (5, [.int nw_price, .int nw_months, .int nw_chest, .int nw_given, .int nw_fate, .ref nw_goodsA, .ref nw_ratesA])), (nw_goodsA, .inl (κ 0, 6, .inl nw_goods)), (nw_ratesA, .inl (κ 0, 6, .inl nw_rates))]) r0 := by
  refine krI_of (cc := cX8_brings) (maxL := 2) (rt := .int) (by decide) rfl (Nat.le_of_ble_eq_true rfl) ?_
  intro p e s m args below meth c A Q ls hx hb hml hown hts hK hA hret hP hD hS hl
  have hown : s.vm.findClass RX8 = some m.cls := hown
  have hl : lv_has ls 2 [(0, .ref kro), (1, .int x1)] := hl
  have k0 : (Cond.constant RX8 71 (-1000000002)).before args s = true := hts _ (List.mem_of_getElem? (i := 1) rfl)
  unfold pX8_brings at hres
  refine lv_iload_n hx hb dX8_brings_0 rfl (lv_at hl 1 rfl) ?_
  obtain ⟨r1, hc2, hres⟩ := kb1_s hres
  refine krI_S0 (As := [.int x1]) (rest := []) ⟨hx, hb, hml, hown, hts⟩ hK (tX8_isRate l D κ x1 r1 hc2) (va_cwS 1 hts gX8_brings_X8_isRate rfl rfl rfl (by decide +kernel) ⟨(Nat.le_of_ble_eq_true rfl), (Nat.le_of_ble_eq_true rfl)⟩) hP hD hS hA rfl hl.1 rfl (Nat.le_of_ble_eq_true rfl) dX8_brings_1 ⟨Nat.zero_le _, Nat.zero_le _⟩ (fun H locs hP hD hS => ?_)
  refine lv_if_eq (tgt := 16) hx hb dX8_brings_4 (by decide) (fun c3 => ?_) (fun c3 => ?_)
  · replace hres := og_t c3 hres
    refine lv_ldc (v := (-1000000002)) hx hb hown k0 dX8_brings_16 ?_
    have hres := Option.some.inj hres
    have h0 := hres
    subst h0
    exact hret _ _ _ _ (vp_nar_int _) hP hD hS dX8_brings_18
  · replace hres := og_f c3 hres
    refine lv_aload_n hx hb dX8_brings_7 rfl (lv_at hl 0 rfl) ?_
    refine lv_iload_n hx hb dX8_brings_8 rfl (lv_at hl 1 rfl) ?_
    refine lv_iconst (v := 0) hx hb dX8_brings_9 (by decide) ?_
    obtain ⟨r4, hc5, hres⟩ := kb1_s hres
    refine krI_V (As := [.int x1, .int 0]) (rest := []) (wr := []) ⟨hx, hb, hml, hown, hts⟩ hK (tX8_comesBy l D κ kro txo tlo dfo nwo aho pao iaA sco bko spo tl_goodsA tl_shyA tl_bidOfA tl_daysOfA nw_goodsA nw_ratesA N kr_drawn tl_stands tl_price tl_death tl_payers tl_bids tl_hostages tl_bags tl_bagMarks tl_goods tl_shy tl_bidOf tl_daysOf nw_price nw_months nw_chest nw_given nw_fate nw_goods nw_rates x1 0 r4 hc5) (cwV 2 hts gX8_brings_X8_comesBy rfl rfl rfl (by decide +kernel) ⟨(Nat.le_of_ble_eq_true rfl), (Nat.le_of_ble_eq_true rfl)⟩) rfl rfl rfl hP hD hS hA [0, 1, 2, 3, 4, 5, 6, 7, 8] [] rfl rfl rfl rfl (by decide) rfl hl.1 rfl (Nat.le_of_ble_eq_true rfl) dX8_brings_10 ⟨Nat.zero_le _, Nat.zero_le _⟩ (fun H locs hP hD hS => ?_)
    have hP : va_P D vwCl ([(kro, .inr (8, [.ref txo, .ref tlo, .ref dfo, .ref nwo, .ref aho, .ref pao, .ref iaA, .ref sco, .ref bko, .ref spo, .int kr_drawn])), (tlo, .inr (6, [.int tl_stands, .int tl_price, .int tl_death, .int tl_payers, .int tl_bids, .int tl_hostages, .int tl_bags, .int tl_bagMarks, .ref tl_goodsA, .ref tl_shyA, .ref tl_bidOfA, .ref tl_daysOfA])), (tl_goodsA, .inl (κ 0, 6, .inl tl_goods)), (tl_shyA, .inl (κ 0, 6, .inl tl_shy)), (tl_bidOfA, .inl (κ 0, 9, .inl tl_bidOf)), (tl_daysOfA, .inl (κ 0, 6, .inl tl_daysOf)), (nwo, .inr (5, [.int nw_price, .int nw_months, .int nw_chest, .int nw_given, .int nw_fate, .ref nw_goodsA, .ref nw_ratesA])), (nw_goodsA, .inl (κ 0, 6, .inl nw_goods)), (nw_ratesA, .inl (κ 0, 6, .inl nw_rates))]) H := hP
    have hD : va_D A ([(kro, .inr (8, [.ref txo, .ref tlo, .ref dfo, .ref nwo, .ref aho, .ref pao, .ref iaA, .ref sco, .ref bko, .ref spo, .int kr_drawn])), (tlo, .inr (6, [.int tl_stands, .int tl_price, .int tl_death, .int tl_payers, .int tl_bids, .int tl_hostages, .int tl_bags, .int tl_bagMarks, .ref tl_goodsA, .ref tl_shyA, .ref tl_bidOfA, .ref tl_daysOfA])), (tl_goodsA, .inl (κ 0, 6, .inl tl_goods)), (tl_shyA, .inl (κ 0, 6, .inl tl_shy)), (tl_bidOfA, .inl (κ 0, 9, .inl tl_bidOf)), (tl_daysOfA, .inl (κ 0, 6, .inl tl_daysOf)), (nwo, .inr (5, [.int nw_price, .int nw_months, .int nw_chest, .int nw_given, .int nw_fate, .ref nw_goodsA, .ref nw_ratesA])), (nw_goodsA, .inl (κ 0, 6, .inl nw_goods)), (nw_ratesA, .inl (κ 0, 6, .inl nw_rates))]) := hD
    refine lv_goto (tgt := 18) hx hb dX8_brings_13 (by decide) ?_
    have hres := Option.some.inj hres
    have h0 := hres
    subst h0
    exact hret _ _ _ _ (vp_nar_int _) hP hD hS dX8_brings_18

def pX8_leastRate_L12 (N : Nat) (x1 : Int32) (tl_payers : Int32) (tl_shy : Nat → Int32) (nw_goods : Nat → Int32) : Nat → Int32 → Option (Int32)
  | 0, _ => none
  | n12 + 1, v2 =>
    (if 100 < v2 then
    some ((-1))
    else
    kb1 (pX8_comesBy N v2 0 tl_payers tl_shy nw_goods) fun r5 =>
    (if r5 < x1 then
    pX8_leastRate_L12 N x1 tl_payers tl_shy nw_goods n12 (v2 + 1)
    else
    some (v2)))
def pX8_leastRate (N : Nat) (x1 : Int32) (tl_payers : Int32) (tl_shy : Nat → Int32) (nw_goods : Nat → Int32) : Option (Int32) :=
    kb1 (pX8_isMuch x1) fun r1 =>
    (if r1 = 0 then
    some ((-1000000002))
    else
    pX8_leastRate_L12 N x1 tl_payers tl_shy nw_goods N 0)
set_option maxHeartbeats 8000000 in
set_option maxRecDepth 100000 in
theorem tX8_leastRate (l : Launch) (D : va_G) (κ : Nat → ClassId) (kro : Nat) (txo : Nat) (tlo : Nat) (dfo : Nat) (nwo : Nat) (aho : Nat) (pao : Nat) (iaA : Nat) (sco : Nat) (bko : Nat) (spo : Nat) (tl_goodsA : Nat) (tl_shyA : Nat) (tl_bidOfA : Nat) (tl_daysOfA : Nat) (nw_goodsA : Nat) (nw_ratesA : Nat) (N : Nat) (kr_drawn : Int32) (tl_stands : Int32) (tl_price : Int32) (tl_death : Int32) (tl_payers : Int32) (tl_bids : Int32) (tl_hostages : Int32) (tl_bags : Int32) (tl_bagMarks : Int32) (tl_goods : Nat → Int32) (tl_shy : Nat → Int32) (tl_bidOf : Nat → Int32) (tl_daysOf : Nat → Int32) (nw_price : Int32) (nw_months : Int32) (nw_chest : Int32) (nw_given : Int32) (nw_fate : Int32) (nw_goods : Nat → Int32) (nw_rates : Nat → Int32) (x1 : Int32) (r0 : Int32) (hres : pX8_leastRate N x1 tl_payers tl_shy nw_goods = some (r0)) : krI l yX8_leastRate wsX8_leastRate { frames := 4, cells := 0, slots := 0, locals := 400 } D κ [.ref kro, .int x1] ([(kro, .inr (8, [.ref txo, .ref tlo, .ref dfo, .ref nwo, .ref aho, .ref pao, .ref iaA, .ref sco, .ref bko, .ref spo, .int kr_drawn])), (tlo, .inr (6, [.int tl_stands, .int tl_price, .int tl_death, .int tl_payers, .int tl_bids, .int tl_hostages, .int tl_bags, .int tl_bagMarks, .ref tl_goodsA, .ref tl_shyA, .ref tl_bidOfA, .ref tl_daysOfA])), (tl_goodsA, .inl (κ 0, 6, .inl tl_goods)), (tl_shyA, .inl (κ 0, 6, .inl tl_shy)), (tl_bidOfA, .inl (κ 0, 9, .inl tl_bidOf)), (tl_daysOfA, .inl (κ 0, 6, .inl tl_daysOf)), (nwo, .inr (5, [.int nw_price, .int nw_months, .int nw_chest, .int nw_given, .int nw_fate, .ref nw_goodsA, .ref nw_ratesA])), (nw_goodsA, .inl (κ 0, 6, .inl nw_goods)), (nw_ratesA, .inl (κ 0, 6, .inl nw_rates))]) ([(kro, .inr (8, [.ref txo, .ref tlo, .ref dfo, .ref nwo, .ref aho, .ref pao, .ref iaA, .ref sco, .ref bko, .ref spo, .int kr_drawn])), (tlo, .inr (6, [.int tl_stands, .int tl_price, .int tl_death, .int tl_payers, .int tl_bids, .int tl_hostages, .int tl_bags, .int tl_bagMarks, .ref tl_goodsA, .ref tl_shyA, .ref tl_bidOfA, .ref tl_daysOfA])), (tl_goodsA, .inl (κ 0, 6, .inl tl_goods)), (tl_shyA, .inl (κ 0, 6, .inl tl_shy)), (tl_bidOfA, .inl (κ 0, 9, .inl tl_bidOf)), (tl_daysOfA, .inl (κ 0, 6, .inl tl_daysOf)), (nwo, .inr (5, [.int nw_price, .int nw_months, .int nw_chest, .int nw_given, .int nw_fate, .ref nw_goodsA, .ref nw_ratesA])), (nw_goodsA, .inl (κ 0, 6, .inl nw_goods)), (nw_ratesA, .inl (κ 0, 6, .inl nw_rates))]) r0 := by
  refine krI_of (cc := cX8_leastRate) (maxL := 3) (rt := .int) (by decide) rfl (Nat.le_of_ble_eq_true rfl) ?_
  intro p e s m args below meth c A Q ls hx hb hml hown hts hK hA hret hP hD hS hl
  have hown : s.vm.findClass RX8 = some m.cls := hown
  have hl : lv_has ls 3 [(0, .ref kro), (1, .int x1)] := hl
  have k0 : (Cond.constant RX8 71 (-1000000002)).before args s = true := hts _ (List.mem_of_getElem? (i := 1) rfl)
  have L12 : ∀ (n12 : Nat) (v2 : Int32) (H : Heap) (locs : List Loc) (ls : Array Slot), va_P D vwCl ([(kro, .inr (8, [.ref txo, .ref tlo, .ref dfo, .ref nwo, .ref aho, .ref pao, .ref iaA, .ref sco, .ref bko, .ref spo, .int kr_drawn])), (tlo, .inr (6, [.int tl_stands, .int tl_price, .int tl_death, .int tl_payers, .int tl_bids, .int tl_hostages, .int tl_bags, .int tl_bagMarks, .ref tl_goodsA, .ref tl_shyA, .ref tl_bidOfA, .ref tl_daysOfA])), (tl_goodsA, .inl (κ 0, 6, .inl tl_goods)), (tl_shyA, .inl (κ 0, 6, .inl tl_shy)), (tl_bidOfA, .inl (κ 0, 9, .inl tl_bidOf)), (tl_daysOfA, .inl (κ 0, 6, .inl tl_daysOf)), (nwo, .inr (5, [.int nw_price, .int nw_months, .int nw_chest, .int nw_given, .int nw_fate, .ref nw_goodsA, .ref nw_ratesA])), (nw_goodsA, .inl (κ 0, 6, .inl nw_goods)), (nw_ratesA, .inl (κ 0, 6, .inl nw_rates))]) H → va_D A ([(kro, .inr (8, [.ref txo, .ref tlo, .ref dfo, .ref nwo, .ref aho, .ref pao, .ref iaA, .ref sco, .ref bko, .ref spo, .int kr_drawn])), (tlo, .inr (6, [.int tl_stands, .int tl_price, .int tl_death, .int tl_payers, .int tl_bids, .int tl_hostages, .int tl_bags, .int tl_bagMarks, .ref tl_goodsA, .ref tl_shyA, .ref tl_bidOfA, .ref tl_daysOfA])), (tl_goodsA, .inl (κ 0, 6, .inl tl_goods)), (tl_shyA, .inl (κ 0, 6, .inl tl_shy)), (tl_bidOfA, .inl (κ 0, 9, .inl tl_bidOf)), (tl_daysOfA, .inl (κ 0, 6, .inl tl_daysOf)), (nwo, .inr (5, [.int nw_price, .int nw_months, .int nw_chest, .int nw_given, .int nw_fate, .ref nw_goodsA, .ref nw_ratesA])), (nw_goodsA, .inl (κ 0, 6, .inl nw_goods)), (nw_ratesA, .inl (κ 0, 6, .inl nw_rates))]) → va_S A s.heap H locs → lv_has ls 3 [(0, .ref kro), (1, .int x1), (2, .int v2)] → pX8_leastRate_L12 N x1 tl_payers tl_shy nw_goods n12 v2 = some (r0) → W p l e { frames := 4, cells := 0, slots := 0, locals := 400 } s m args below meth c H locs 0 0 Q (F0 m 12 ls []) := by
    intro n12
    induction n12 with
    | zero =>
      intro v2 H locs ls hP hD hS hl hres
      exact absurd (show none = some _ from hres) (by simp)
    | succ n12 ih12 =>
      intro v2 H locs ls hP hD hS hl hres
      rw [pX8_leastRate_L12] at hres
      refine lv_iload_n hx hb dX8_leastRate_12 rfl (lv_at hl 2 rfl) ?_
      refine lv_bipush (v := 100) hx hb dX8_leastRate_13 (by decide) ?_
      refine lv_icmp_gt (tgt := 36) hx hb dX8_leastRate_15 (by decide) (fun c4 => ?_) (fun c4 => ?_)
      · replace hres := og_t c4 hres
        refine lv_iconst (v := (-1)) hx hb dX8_leastRate_36 (by decide) ?_
        have hres := Option.some.inj hres
        have h0 := hres
        subst h0
        exact hret _ _ _ _ (vp_nar_int _) hP hD hS dX8_leastRate_37
      · replace hres := og_f c4 hres
        refine lv_aload_n hx hb dX8_leastRate_18 rfl (lv_at hl 0 rfl) ?_
        refine lv_iload_n hx hb dX8_leastRate_19 rfl (lv_at hl 2 rfl) ?_
        refine lv_iconst (v := 0) hx hb dX8_leastRate_20 (by decide) ?_
        obtain ⟨r5, hc6, hres⟩ := kb1_s hres
        refine krI_V (As := [.int v2, .int 0]) (rest := []) (wr := []) ⟨hx, hb, hml, hown, hts⟩ hK (tX8_comesBy l D κ kro txo tlo dfo nwo aho pao iaA sco bko spo tl_goodsA tl_shyA tl_bidOfA tl_daysOfA nw_goodsA nw_ratesA N kr_drawn tl_stands tl_price tl_death tl_payers tl_bids tl_hostages tl_bags tl_bagMarks tl_goods tl_shy tl_bidOf tl_daysOf nw_price nw_months nw_chest nw_given nw_fate nw_goods nw_rates v2 0 r5 hc6) (cwV 2 hts gX8_leastRate_X8_comesBy rfl rfl rfl (by decide +kernel) ⟨(Nat.le_of_ble_eq_true rfl), (Nat.le_of_ble_eq_true rfl)⟩) rfl rfl rfl hP hD hS hA [0, 1, 2, 3, 4, 5, 6, 7, 8] [] rfl rfl rfl rfl (by decide) rfl hl.1 rfl (Nat.le_of_ble_eq_true rfl) dX8_leastRate_21 ⟨Nat.zero_le _, Nat.zero_le _⟩ (fun H locs hP hD hS => ?_)
        have hP : va_P D vwCl ([(kro, .inr (8, [.ref txo, .ref tlo, .ref dfo, .ref nwo, .ref aho, .ref pao, .ref iaA, .ref sco, .ref bko, .ref spo, .int kr_drawn])), (tlo, .inr (6, [.int tl_stands, .int tl_price, .int tl_death, .int tl_payers, .int tl_bids, .int tl_hostages, .int tl_bags, .int tl_bagMarks, .ref tl_goodsA, .ref tl_shyA, .ref tl_bidOfA, .ref tl_daysOfA])), (tl_goodsA, .inl (κ 0, 6, .inl tl_goods)), (tl_shyA, .inl (κ 0, 6, .inl tl_shy)), (tl_bidOfA, .inl (κ 0, 9, .inl tl_bidOf)), (tl_daysOfA, .inl (κ 0, 6, .inl tl_daysOf)), (nwo, .inr (5, [.int nw_price, .int nw_months, .int nw_chest, .int nw_given, .int nw_fate, .ref nw_goodsA, .ref nw_ratesA])), (nw_goodsA, .inl (κ 0, 6, .inl nw_goods)), (nw_ratesA, .inl (κ 0, 6, .inl nw_rates))]) H := hP
        have hD : va_D A ([(kro, .inr (8, [.ref txo, .ref tlo, .ref dfo, .ref nwo, .ref aho, .ref pao, .ref iaA, .ref sco, .ref bko, .ref spo, .int kr_drawn])), (tlo, .inr (6, [.int tl_stands, .int tl_price, .int tl_death, .int tl_payers, .int tl_bids, .int tl_hostages, .int tl_bags, .int tl_bagMarks, .ref tl_goodsA, .ref tl_shyA, .ref tl_bidOfA, .ref tl_daysOfA])), (tl_goodsA, .inl (κ 0, 6, .inl tl_goods)), (tl_shyA, .inl (κ 0, 6, .inl tl_shy)), (tl_bidOfA, .inl (κ 0, 9, .inl tl_bidOf)), (tl_daysOfA, .inl (κ 0, 6, .inl tl_daysOf)), (nwo, .inr (5, [.int nw_price, .int nw_months, .int nw_chest, .int nw_given, .int nw_fate, .ref nw_goodsA, .ref nw_ratesA])), (nw_goodsA, .inl (κ 0, 6, .inl nw_goods)), (nw_ratesA, .inl (κ 0, 6, .inl nw_rates))]) := hD
        refine lv_iload_n hx hb dX8_leastRate_24 rfl (lv_at hl 1 rfl) ?_
        refine lv_icmp_lt (tgt := 30) hx hb dX8_leastRate_25 (by decide) (fun c7 => ?_) (fun c7 => ?_)
        · replace hres := og_t c7 hres
          refine lv_iinc (v := (v2 + 1)) (lv' := [(2, .int (v2 + 1)), (0, .ref kro), (1, .int x1)]) hx hb dX8_leastRate_30 hl (k := 2) rfl rfl (by decide) rfl (fun ls hl => ?_)
          refine lv_goto (tgt := 12) hx hb dX8_leastRate_33 (by decide) ?_
          exact ih12 (v2 + 1) _ _ _ hP hD hS (lv_sub hl [1, 2, 0] rfl) hres
        · replace hres := og_f c7 hres
          refine lv_iload_n hx hb dX8_leastRate_28 rfl (lv_at hl 2 rfl) ?_
          have hres := Option.some.inj hres
          have h0 := hres
          subst h0
          exact hret _ _ _ _ (vp_nar_int _) hP hD hS dX8_leastRate_29
  unfold pX8_leastRate at hres
  refine lv_iload_n hx hb dX8_leastRate_0 rfl (lv_at hl 1 rfl) ?_
  obtain ⟨r1, hc2, hres⟩ := kb1_s hres
  refine krI_S0 (As := [.int x1]) (rest := []) ⟨hx, hb, hml, hown, hts⟩ hK (tX8_isMuch l D κ x1 r1 hc2) (va_cwS 1 hts gX8_leastRate_X8_isMuch rfl rfl rfl (by decide +kernel) ⟨(Nat.le_of_ble_eq_true rfl), (Nat.le_of_ble_eq_true rfl)⟩) hP hD hS hA rfl hl.1 rfl (Nat.le_of_ble_eq_true rfl) dX8_leastRate_1 ⟨Nat.zero_le _, Nat.zero_le _⟩ (fun H locs hP hD hS => ?_)
  refine lv_if_ne (tgt := 10) hx hb dX8_leastRate_4 (by decide) (fun c3 => ?_) (fun c3 => ?_)
  · replace hres := og_f c3 hres
    refine lv_iconst (v := 0) hx hb dX8_leastRate_10 (by decide) ?_
    refine lv_istore_n (lv' := [(2, .int 0), (0, .ref kro), (1, .int x1)]) hx hb dX8_leastRate_11 rfl hl (by decide) rfl (fun ls hl => ?_)
    exact L12 N 0 _ _ _ hP hD hS (lv_sub hl [1, 2, 0] rfl) hres
  · replace hres := og_t c3 hres
    refine lv_ldc (v := (-1000000002)) hx hb hown k0 dX8_leastRate_7 ?_
    have hres := Option.some.inj hres
    have h0 := hres
    subst h0
    exact hret _ _ _ _ (vp_nar_int _) hP hD hS dX8_leastRate_9

def pX8_rateOfMost_L36 (k11 : Int32 → Int32 → Int32 → Option (Int32)) (v1 : Int32) (v2 : Int32) (v3 : Int32) : Option (Int32) :=
    k11 v1 v2 (v3 + 1)
def pX8_rateOfMost_L11 (N : Nat) (tl_payers : Int32) (tl_shy : Nat → Int32) (nw_goods : Nat → Int32) : Nat → Int32 → Int32 → Int32 → Option (Int32)
  | 0, _, _, _ => none
  | n11 + 1, v1, v2, v3 =>
    (if 100 < v3 then
    some (v1)
    else
    kb1 (pX8_comesBy N v3 0 tl_payers tl_shy nw_goods) fun r4 =>
    (if r4 ≤ v2 then
    pX8_rateOfMost_L36 (pX8_rateOfMost_L11 N tl_payers tl_shy nw_goods n11) v1 v2 v3
    else
    pX8_rateOfMost_L36 (pX8_rateOfMost_L11 N tl_payers tl_shy nw_goods n11) v3 r4 v3))
def pX8_rateOfMost (N : Nat) (tl_payers : Int32) (tl_shy : Nat → Int32) (nw_goods : Nat → Int32) : Option (Int32) :=
    kb1 (pX8_comesBy N 0 0 tl_payers tl_shy nw_goods) fun r1 =>
    pX8_rateOfMost_L11 N tl_payers tl_shy nw_goods N 0 r1 1
set_option maxHeartbeats 8000000 in
set_option maxRecDepth 100000 in
theorem tX8_rateOfMost (l : Launch) (D : va_G) (κ : Nat → ClassId) (kro : Nat) (txo : Nat) (tlo : Nat) (dfo : Nat) (nwo : Nat) (aho : Nat) (pao : Nat) (iaA : Nat) (sco : Nat) (bko : Nat) (spo : Nat) (tl_goodsA : Nat) (tl_shyA : Nat) (tl_bidOfA : Nat) (tl_daysOfA : Nat) (nw_goodsA : Nat) (nw_ratesA : Nat) (N : Nat) (kr_drawn : Int32) (tl_stands : Int32) (tl_price : Int32) (tl_death : Int32) (tl_payers : Int32) (tl_bids : Int32) (tl_hostages : Int32) (tl_bags : Int32) (tl_bagMarks : Int32) (tl_goods : Nat → Int32) (tl_shy : Nat → Int32) (tl_bidOf : Nat → Int32) (tl_daysOf : Nat → Int32) (nw_price : Int32) (nw_months : Int32) (nw_chest : Int32) (nw_given : Int32) (nw_fate : Int32) (nw_goods : Nat → Int32) (nw_rates : Nat → Int32) (r0 : Int32) (hres : pX8_rateOfMost N tl_payers tl_shy nw_goods = some (r0)) : krI l yX8_rateOfMost wsX8_rateOfMost { frames := 4, cells := 0, slots := 0, locals := 400 } D κ [.ref kro] ([(kro, .inr (8, [.ref txo, .ref tlo, .ref dfo, .ref nwo, .ref aho, .ref pao, .ref iaA, .ref sco, .ref bko, .ref spo, .int kr_drawn])), (tlo, .inr (6, [.int tl_stands, .int tl_price, .int tl_death, .int tl_payers, .int tl_bids, .int tl_hostages, .int tl_bags, .int tl_bagMarks, .ref tl_goodsA, .ref tl_shyA, .ref tl_bidOfA, .ref tl_daysOfA])), (tl_goodsA, .inl (κ 0, 6, .inl tl_goods)), (tl_shyA, .inl (κ 0, 6, .inl tl_shy)), (tl_bidOfA, .inl (κ 0, 9, .inl tl_bidOf)), (tl_daysOfA, .inl (κ 0, 6, .inl tl_daysOf)), (nwo, .inr (5, [.int nw_price, .int nw_months, .int nw_chest, .int nw_given, .int nw_fate, .ref nw_goodsA, .ref nw_ratesA])), (nw_goodsA, .inl (κ 0, 6, .inl nw_goods)), (nw_ratesA, .inl (κ 0, 6, .inl nw_rates))]) ([(kro, .inr (8, [.ref txo, .ref tlo, .ref dfo, .ref nwo, .ref aho, .ref pao, .ref iaA, .ref sco, .ref bko, .ref spo, .int kr_drawn])), (tlo, .inr (6, [.int tl_stands, .int tl_price, .int tl_death, .int tl_payers, .int tl_bids, .int tl_hostages, .int tl_bags, .int tl_bagMarks, .ref tl_goodsA, .ref tl_shyA, .ref tl_bidOfA, .ref tl_daysOfA])), (tl_goodsA, .inl (κ 0, 6, .inl tl_goods)), (tl_shyA, .inl (κ 0, 6, .inl tl_shy)), (tl_bidOfA, .inl (κ 0, 9, .inl tl_bidOf)), (tl_daysOfA, .inl (κ 0, 6, .inl tl_daysOf)), (nwo, .inr (5, [.int nw_price, .int nw_months, .int nw_chest, .int nw_given, .int nw_fate, .ref nw_goodsA, .ref nw_ratesA])), (nw_goodsA, .inl (κ 0, 6, .inl nw_goods)), (nw_ratesA, .inl (κ 0, 6, .inl nw_rates))]) r0 := by
  refine krI_of (cc := cX8_rateOfMost) (maxL := 5) (rt := .int) (by decide) rfl (Nat.le_of_ble_eq_true rfl) ?_
  intro p e s m args below meth c A Q ls hx hb hml hown hts hK hA hret hP hD hS hl
  have hown : s.vm.findClass RX8 = some m.cls := hown
  have hl : lv_has ls 5 [(0, .ref kro)] := hl
  have L11 : ∀ (n11 : Nat) (v1 : Int32) (v2 : Int32) (v3 : Int32) (H : Heap) (locs : List Loc) (ls : Array Slot), va_P D vwCl ([(kro, .inr (8, [.ref txo, .ref tlo, .ref dfo, .ref nwo, .ref aho, .ref pao, .ref iaA, .ref sco, .ref bko, .ref spo, .int kr_drawn])), (tlo, .inr (6, [.int tl_stands, .int tl_price, .int tl_death, .int tl_payers, .int tl_bids, .int tl_hostages, .int tl_bags, .int tl_bagMarks, .ref tl_goodsA, .ref tl_shyA, .ref tl_bidOfA, .ref tl_daysOfA])), (tl_goodsA, .inl (κ 0, 6, .inl tl_goods)), (tl_shyA, .inl (κ 0, 6, .inl tl_shy)), (tl_bidOfA, .inl (κ 0, 9, .inl tl_bidOf)), (tl_daysOfA, .inl (κ 0, 6, .inl tl_daysOf)), (nwo, .inr (5, [.int nw_price, .int nw_months, .int nw_chest, .int nw_given, .int nw_fate, .ref nw_goodsA, .ref nw_ratesA])), (nw_goodsA, .inl (κ 0, 6, .inl nw_goods)), (nw_ratesA, .inl (κ 0, 6, .inl nw_rates))]) H → va_D A ([(kro, .inr (8, [.ref txo, .ref tlo, .ref dfo, .ref nwo, .ref aho, .ref pao, .ref iaA, .ref sco, .ref bko, .ref spo, .int kr_drawn])), (tlo, .inr (6, [.int tl_stands, .int tl_price, .int tl_death, .int tl_payers, .int tl_bids, .int tl_hostages, .int tl_bags, .int tl_bagMarks, .ref tl_goodsA, .ref tl_shyA, .ref tl_bidOfA, .ref tl_daysOfA])), (tl_goodsA, .inl (κ 0, 6, .inl tl_goods)), (tl_shyA, .inl (κ 0, 6, .inl tl_shy)), (tl_bidOfA, .inl (κ 0, 9, .inl tl_bidOf)), (tl_daysOfA, .inl (κ 0, 6, .inl tl_daysOf)), (nwo, .inr (5, [.int nw_price, .int nw_months, .int nw_chest, .int nw_given, .int nw_fate, .ref nw_goodsA, .ref nw_ratesA])), (nw_goodsA, .inl (κ 0, 6, .inl nw_goods)), (nw_ratesA, .inl (κ 0, 6, .inl nw_rates))]) → va_S A s.heap H locs → lv_has ls 5 [(0, .ref kro), (1, .int v1), (2, .int v2), (3, .int v3)] → pX8_rateOfMost_L11 N tl_payers tl_shy nw_goods n11 v1 v2 v3 = some (r0) → W p l e { frames := 4, cells := 0, slots := 0, locals := 400 } s m args below meth c H locs 0 0 Q (F0 m 11 ls []) := by
    intro n11
    induction n11 with
    | zero =>
      intro v1 v2 v3 H locs ls hP hD hS hl hres
      exact absurd (show none = some _ from hres) (by simp)
    | succ n11 ih11 =>
      intro v1 v2 v3 H locs ls hP hD hS hl hres
      have L36 : ∀ (v1 : Int32) (v2 : Int32) (v3 : Int32) (H : Heap) (locs : List Loc) (ls : Array Slot), va_P D vwCl ([(kro, .inr (8, [.ref txo, .ref tlo, .ref dfo, .ref nwo, .ref aho, .ref pao, .ref iaA, .ref sco, .ref bko, .ref spo, .int kr_drawn])), (tlo, .inr (6, [.int tl_stands, .int tl_price, .int tl_death, .int tl_payers, .int tl_bids, .int tl_hostages, .int tl_bags, .int tl_bagMarks, .ref tl_goodsA, .ref tl_shyA, .ref tl_bidOfA, .ref tl_daysOfA])), (tl_goodsA, .inl (κ 0, 6, .inl tl_goods)), (tl_shyA, .inl (κ 0, 6, .inl tl_shy)), (tl_bidOfA, .inl (κ 0, 9, .inl tl_bidOf)), (tl_daysOfA, .inl (κ 0, 6, .inl tl_daysOf)), (nwo, .inr (5, [.int nw_price, .int nw_months, .int nw_chest, .int nw_given, .int nw_fate, .ref nw_goodsA, .ref nw_ratesA])), (nw_goodsA, .inl (κ 0, 6, .inl nw_goods)), (nw_ratesA, .inl (κ 0, 6, .inl nw_rates))]) H → va_D A ([(kro, .inr (8, [.ref txo, .ref tlo, .ref dfo, .ref nwo, .ref aho, .ref pao, .ref iaA, .ref sco, .ref bko, .ref spo, .int kr_drawn])), (tlo, .inr (6, [.int tl_stands, .int tl_price, .int tl_death, .int tl_payers, .int tl_bids, .int tl_hostages, .int tl_bags, .int tl_bagMarks, .ref tl_goodsA, .ref tl_shyA, .ref tl_bidOfA, .ref tl_daysOfA])), (tl_goodsA, .inl (κ 0, 6, .inl tl_goods)), (tl_shyA, .inl (κ 0, 6, .inl tl_shy)), (tl_bidOfA, .inl (κ 0, 9, .inl tl_bidOf)), (tl_daysOfA, .inl (κ 0, 6, .inl tl_daysOf)), (nwo, .inr (5, [.int nw_price, .int nw_months, .int nw_chest, .int nw_given, .int nw_fate, .ref nw_goodsA, .ref nw_ratesA])), (nw_goodsA, .inl (κ 0, 6, .inl nw_goods)), (nw_ratesA, .inl (κ 0, 6, .inl nw_rates))]) → va_S A s.heap H locs → lv_has ls 5 [(0, .ref kro), (1, .int v1), (2, .int v2), (3, .int v3)] → pX8_rateOfMost_L36 (pX8_rateOfMost_L11 N tl_payers tl_shy nw_goods n11) v1 v2 v3 = some (r0) → W p l e { frames := 4, cells := 0, slots := 0, locals := 400 } s m args below meth c H locs 0 0 Q (F0 m 36 ls []) := by
        intro v1 v2 v3 H locs ls hP hD hS hl hres
        unfold pX8_rateOfMost_L36 at hres
        refine lv_iinc (v := (v3 + 1)) (lv' := [(3, .int (v3 + 1)), (0, .ref kro), (1, .int v1), (2, .int v2)]) hx hb dX8_rateOfMost_36 hl (k := 3) rfl rfl (by decide) rfl (fun ls hl => ?_)
        refine lv_goto (tgt := 11) hx hb dX8_rateOfMost_39 (by decide) ?_
        exact ih11 v1 v2 (v3 + 1) _ _ _ hP hD hS (lv_sub hl [1, 2, 3, 0] rfl) hres
      rw [pX8_rateOfMost_L11] at hres
      refine lv_iload_n hx hb dX8_rateOfMost_11 rfl (lv_at hl 3 rfl) ?_
      refine lv_bipush (v := 100) hx hb dX8_rateOfMost_12 (by decide) ?_
      refine lv_icmp_gt (tgt := 42) hx hb dX8_rateOfMost_14 (by decide) (fun c3 => ?_) (fun c3 => ?_)
      · replace hres := og_t c3 hres
        refine lv_iload_n hx hb dX8_rateOfMost_42 rfl (lv_at hl 1 rfl) ?_
        have hres := Option.some.inj hres
        have h0 := hres
        subst h0
        exact hret _ _ _ _ (vp_nar_int _) hP hD hS dX8_rateOfMost_43
      · replace hres := og_f c3 hres
        refine lv_aload_n hx hb dX8_rateOfMost_17 rfl (lv_at hl 0 rfl) ?_
        refine lv_iload_n hx hb dX8_rateOfMost_18 rfl (lv_at hl 3 rfl) ?_
        refine lv_iconst (v := 0) hx hb dX8_rateOfMost_19 (by decide) ?_
        obtain ⟨r4, hc5, hres⟩ := kb1_s hres
        refine krI_V (As := [.int v3, .int 0]) (rest := []) (wr := []) ⟨hx, hb, hml, hown, hts⟩ hK (tX8_comesBy l D κ kro txo tlo dfo nwo aho pao iaA sco bko spo tl_goodsA tl_shyA tl_bidOfA tl_daysOfA nw_goodsA nw_ratesA N kr_drawn tl_stands tl_price tl_death tl_payers tl_bids tl_hostages tl_bags tl_bagMarks tl_goods tl_shy tl_bidOf tl_daysOf nw_price nw_months nw_chest nw_given nw_fate nw_goods nw_rates v3 0 r4 hc5) (cwV 2 hts gX8_rateOfMost_X8_comesBy rfl rfl rfl (by decide +kernel) ⟨(Nat.le_of_ble_eq_true rfl), (Nat.le_of_ble_eq_true rfl)⟩) rfl rfl rfl hP hD hS hA [0, 1, 2, 3, 4, 5, 6, 7, 8] [] rfl rfl rfl rfl (by decide) rfl hl.1 rfl (Nat.le_of_ble_eq_true rfl) dX8_rateOfMost_20 ⟨Nat.zero_le _, Nat.zero_le _⟩ (fun H locs hP hD hS => ?_)
        have hP : va_P D vwCl ([(kro, .inr (8, [.ref txo, .ref tlo, .ref dfo, .ref nwo, .ref aho, .ref pao, .ref iaA, .ref sco, .ref bko, .ref spo, .int kr_drawn])), (tlo, .inr (6, [.int tl_stands, .int tl_price, .int tl_death, .int tl_payers, .int tl_bids, .int tl_hostages, .int tl_bags, .int tl_bagMarks, .ref tl_goodsA, .ref tl_shyA, .ref tl_bidOfA, .ref tl_daysOfA])), (tl_goodsA, .inl (κ 0, 6, .inl tl_goods)), (tl_shyA, .inl (κ 0, 6, .inl tl_shy)), (tl_bidOfA, .inl (κ 0, 9, .inl tl_bidOf)), (tl_daysOfA, .inl (κ 0, 6, .inl tl_daysOf)), (nwo, .inr (5, [.int nw_price, .int nw_months, .int nw_chest, .int nw_given, .int nw_fate, .ref nw_goodsA, .ref nw_ratesA])), (nw_goodsA, .inl (κ 0, 6, .inl nw_goods)), (nw_ratesA, .inl (κ 0, 6, .inl nw_rates))]) H := hP
        have hD : va_D A ([(kro, .inr (8, [.ref txo, .ref tlo, .ref dfo, .ref nwo, .ref aho, .ref pao, .ref iaA, .ref sco, .ref bko, .ref spo, .int kr_drawn])), (tlo, .inr (6, [.int tl_stands, .int tl_price, .int tl_death, .int tl_payers, .int tl_bids, .int tl_hostages, .int tl_bags, .int tl_bagMarks, .ref tl_goodsA, .ref tl_shyA, .ref tl_bidOfA, .ref tl_daysOfA])), (tl_goodsA, .inl (κ 0, 6, .inl tl_goods)), (tl_shyA, .inl (κ 0, 6, .inl tl_shy)), (tl_bidOfA, .inl (κ 0, 9, .inl tl_bidOf)), (tl_daysOfA, .inl (κ 0, 6, .inl tl_daysOf)), (nwo, .inr (5, [.int nw_price, .int nw_months, .int nw_chest, .int nw_given, .int nw_fate, .ref nw_goodsA, .ref nw_ratesA])), (nw_goodsA, .inl (κ 0, 6, .inl nw_goods)), (nw_ratesA, .inl (κ 0, 6, .inl nw_rates))]) := hD
        refine lv_istore (lv' := [(4, .int r4), (0, .ref kro), (1, .int v1), (2, .int v2), (3, .int v3)]) hx hb dX8_rateOfMost_23 hl (by decide) rfl (fun ls hl => ?_)
        refine lv_iload hx hb dX8_rateOfMost_25 (lv_at hl 0 rfl) ?_
        refine lv_iload_n hx hb dX8_rateOfMost_27 rfl (lv_at hl 3 rfl) ?_
        refine lv_icmp_le (tgt := 36) hx hb dX8_rateOfMost_28 (by decide) (fun c6 => ?_) (fun c6 => ?_)
        · replace hres := og_t c6 hres
          exact L36 v1 v2 v3 _ _ _ hP hD hS (lv_sub hl [1, 2, 3, 4] rfl) hres
        · replace hres := og_f c6 hres
          refine lv_iload hx hb dX8_rateOfMost_31 (lv_at hl 0 rfl) ?_
          refine lv_istore_n (lv' := [(2, .int r4), (4, .int r4), (0, .ref kro), (1, .int v1), (3, .int v3)]) hx hb dX8_rateOfMost_33 rfl hl (by decide) rfl (fun ls hl => ?_)
          refine lv_iload_n hx hb dX8_rateOfMost_34 rfl (lv_at hl 4 rfl) ?_
          refine lv_istore_n (lv' := [(1, .int v3), (2, .int r4), (4, .int r4), (0, .ref kro), (3, .int v3)]) hx hb dX8_rateOfMost_35 rfl hl (by decide) rfl (fun ls hl => ?_)
          exact L36 v3 r4 v3 _ _ _ hP hD hS (lv_sub hl [3, 0, 1, 4] rfl) hres
  unfold pX8_rateOfMost at hres
  refine lv_iconst (v := 0) hx hb dX8_rateOfMost_0 (by decide) ?_
  refine lv_istore_n (lv' := [(1, .int 0), (0, .ref kro)]) hx hb dX8_rateOfMost_1 rfl hl (by decide) rfl (fun ls hl => ?_)
  refine lv_aload_n hx hb dX8_rateOfMost_2 rfl (lv_at hl 1 rfl) ?_
  refine lv_iconst (v := 0) hx hb dX8_rateOfMost_3 (by decide) ?_
  refine lv_iconst (v := 0) hx hb dX8_rateOfMost_4 (by decide) ?_
  obtain ⟨r1, hc2, hres⟩ := kb1_s hres
  refine krI_V (As := [.int 0, .int 0]) (rest := []) (wr := []) ⟨hx, hb, hml, hown, hts⟩ hK (tX8_comesBy l D κ kro txo tlo dfo nwo aho pao iaA sco bko spo tl_goodsA tl_shyA tl_bidOfA tl_daysOfA nw_goodsA nw_ratesA N kr_drawn tl_stands tl_price tl_death tl_payers tl_bids tl_hostages tl_bags tl_bagMarks tl_goods tl_shy tl_bidOf tl_daysOf nw_price nw_months nw_chest nw_given nw_fate nw_goods nw_rates 0 0 r1 hc2) (cwV 2 hts gX8_rateOfMost_X8_comesBy rfl rfl rfl (by decide +kernel) ⟨(Nat.le_of_ble_eq_true rfl), (Nat.le_of_ble_eq_true rfl)⟩) rfl rfl rfl hP hD hS hA [0, 1, 2, 3, 4, 5, 6, 7, 8] [] rfl rfl rfl rfl (by decide) rfl hl.1 rfl (Nat.le_of_ble_eq_true rfl) dX8_rateOfMost_5 ⟨Nat.zero_le _, Nat.zero_le _⟩ (fun H locs hP hD hS => ?_)
  have hP : va_P D vwCl ([(kro, .inr (8, [.ref txo, .ref tlo, .ref dfo, .ref nwo, .ref aho, .ref pao, .ref iaA, .ref sco, .ref bko, .ref spo, .int kr_drawn])), (tlo, .inr (6, [.int tl_stands, .int tl_price, .int tl_death, .int tl_payers, .int tl_bids, .int tl_hostages, .int tl_bags, .int tl_bagMarks, .ref tl_goodsA, .ref tl_shyA, .ref tl_bidOfA, .ref tl_daysOfA])), (tl_goodsA, .inl (κ 0, 6, .inl tl_goods)), (tl_shyA, .inl (κ 0, 6, .inl tl_shy)), (tl_bidOfA, .inl (κ 0, 9, .inl tl_bidOf)), (tl_daysOfA, .inl (κ 0, 6, .inl tl_daysOf)), (nwo, .inr (5, [.int nw_price, .int nw_months, .int nw_chest, .int nw_given, .int nw_fate, .ref nw_goodsA, .ref nw_ratesA])), (nw_goodsA, .inl (κ 0, 6, .inl nw_goods)), (nw_ratesA, .inl (κ 0, 6, .inl nw_rates))]) H := hP
  have hD : va_D A ([(kro, .inr (8, [.ref txo, .ref tlo, .ref dfo, .ref nwo, .ref aho, .ref pao, .ref iaA, .ref sco, .ref bko, .ref spo, .int kr_drawn])), (tlo, .inr (6, [.int tl_stands, .int tl_price, .int tl_death, .int tl_payers, .int tl_bids, .int tl_hostages, .int tl_bags, .int tl_bagMarks, .ref tl_goodsA, .ref tl_shyA, .ref tl_bidOfA, .ref tl_daysOfA])), (tl_goodsA, .inl (κ 0, 6, .inl tl_goods)), (tl_shyA, .inl (κ 0, 6, .inl tl_shy)), (tl_bidOfA, .inl (κ 0, 9, .inl tl_bidOf)), (tl_daysOfA, .inl (κ 0, 6, .inl tl_daysOf)), (nwo, .inr (5, [.int nw_price, .int nw_months, .int nw_chest, .int nw_given, .int nw_fate, .ref nw_goodsA, .ref nw_ratesA])), (nw_goodsA, .inl (κ 0, 6, .inl nw_goods)), (nw_ratesA, .inl (κ 0, 6, .inl nw_rates))]) := hD
  refine lv_istore_n (lv' := [(2, .int r1), (1, .int 0), (0, .ref kro)]) hx hb dX8_rateOfMost_8 rfl hl (by decide) rfl (fun ls hl => ?_)
  refine lv_iconst (v := 1) hx hb dX8_rateOfMost_9 (by decide) ?_
  refine lv_istore_n (lv' := [(3, .int 1), (2, .int r1), (1, .int 0), (0, .ref kro)]) hx hb dX8_rateOfMost_10 rfl hl (by decide) rfl (fun ls hl => ?_)
  exact L11 N 0 r1 1 _ _ _ hP hD hS (lv_sub hl [3, 2, 1, 0] rfl) hres

def pX8_sell_L90 (k44 : Int32 → Int32 → Int32 → Option (Int32)) (v4 : Int32) (v5 : Int32) (v6 : Int32) (v7 : Int32) : Option (Int32) :=
    k44 (if v7 < v6 then v6 else v7) v4 (v5 + (-1))
def pX8_sell_L44 (x1 : Int32) (x2 : Int32) (tl_death : Int32) (tl_bidOf : Nat → Int32) : Nat → Int32 → Int32 → Int32 → Option (Int32)
  | 0, _, _, _ => none
  | n44 + 1, v3, v4, v5 =>
    (if v5 < x1 then
    (if x2 = 0 then
    some (v3)
    else
    some (v4))
    else
    kl ((v3 * (100 - tl_death)) / 100) fun y7 =>
    if v5 < 0 ∨ 9 ≤ v5.toNatClampNeg then none else
    (if (tl_bidOf v5.toNatClampNeg) < y7 then
    pX8_sell_L90 (pX8_sell_L44 x1 x2 tl_death tl_bidOf n44) v4 v5 y7 (tl_bidOf v5.toNatClampNeg)
    else
    pX8_sell_L90 (pX8_sell_L44 x1 x2 tl_death tl_bidOf n44) v5 v5 y7 (tl_bidOf v5.toNatClampNeg)))
def pX8_sell (N : Nat) (x1 : Int32) (x2 : Int32) (tl_death : Int32) (tl_bids : Int32) (tl_bidOf : Nat → Int32) (nw_price : Int32) : Option (Int32) :=
    (if x1 < 0 then
    some ((-1000000002))
    else
    (if 9 < x1 then
    some ((-1000000002))
    else
    (if x2 < 0 then
    some ((-1000000002))
    else
    (if x2 ≤ 1 then
    pX8_sell_L44 x1 x2 tl_death tl_bidOf N nw_price (-1) (tl_bids - 1)
    else
    some ((-1000000002))))))
set_option maxHeartbeats 8000000 in
set_option maxRecDepth 100000 in
theorem tX8_sell (l : Launch) (D : va_G) (κ : Nat → ClassId) (kro : Nat) (txo : Nat) (tlo : Nat) (dfo : Nat) (nwo : Nat) (aho : Nat) (pao : Nat) (iaA : Nat) (sco : Nat) (bko : Nat) (spo : Nat) (tl_goodsA : Nat) (tl_shyA : Nat) (tl_bidOfA : Nat) (tl_daysOfA : Nat) (nw_goodsA : Nat) (nw_ratesA : Nat) (N : Nat) (kr_drawn : Int32) (tl_stands : Int32) (tl_price : Int32) (tl_death : Int32) (tl_payers : Int32) (tl_bids : Int32) (tl_hostages : Int32) (tl_bags : Int32) (tl_bagMarks : Int32) (tl_goods : Nat → Int32) (tl_shy : Nat → Int32) (tl_bidOf : Nat → Int32) (tl_daysOf : Nat → Int32) (nw_price : Int32) (nw_months : Int32) (nw_chest : Int32) (nw_given : Int32) (nw_fate : Int32) (nw_goods : Nat → Int32) (nw_rates : Nat → Int32) (x1 : Int32) (x2 : Int32) (r0 : Int32) (hres : pX8_sell N x1 x2 tl_death tl_bids tl_bidOf nw_price = some (r0)) : krI l yX8_sell wsX8_sell { frames := 1, cells := 0, slots := 0, locals := 100 } D κ [.ref kro, .int x1, .int x2] ([(kro, .inr (8, [.ref txo, .ref tlo, .ref dfo, .ref nwo, .ref aho, .ref pao, .ref iaA, .ref sco, .ref bko, .ref spo, .int kr_drawn])), (tlo, .inr (6, [.int tl_stands, .int tl_price, .int tl_death, .int tl_payers, .int tl_bids, .int tl_hostages, .int tl_bags, .int tl_bagMarks, .ref tl_goodsA, .ref tl_shyA, .ref tl_bidOfA, .ref tl_daysOfA])), (tl_goodsA, .inl (κ 0, 6, .inl tl_goods)), (tl_shyA, .inl (κ 0, 6, .inl tl_shy)), (tl_bidOfA, .inl (κ 0, 9, .inl tl_bidOf)), (tl_daysOfA, .inl (κ 0, 6, .inl tl_daysOf)), (nwo, .inr (5, [.int nw_price, .int nw_months, .int nw_chest, .int nw_given, .int nw_fate, .ref nw_goodsA, .ref nw_ratesA])), (nw_goodsA, .inl (κ 0, 6, .inl nw_goods)), (nw_ratesA, .inl (κ 0, 6, .inl nw_rates))]) ([(kro, .inr (8, [.ref txo, .ref tlo, .ref dfo, .ref nwo, .ref aho, .ref pao, .ref iaA, .ref sco, .ref bko, .ref spo, .int kr_drawn])), (tlo, .inr (6, [.int tl_stands, .int tl_price, .int tl_death, .int tl_payers, .int tl_bids, .int tl_hostages, .int tl_bags, .int tl_bagMarks, .ref tl_goodsA, .ref tl_shyA, .ref tl_bidOfA, .ref tl_daysOfA])), (tl_goodsA, .inl (κ 0, 6, .inl tl_goods)), (tl_shyA, .inl (κ 0, 6, .inl tl_shy)), (tl_bidOfA, .inl (κ 0, 9, .inl tl_bidOf)), (tl_daysOfA, .inl (κ 0, 6, .inl tl_daysOf)), (nwo, .inr (5, [.int nw_price, .int nw_months, .int nw_chest, .int nw_given, .int nw_fate, .ref nw_goodsA, .ref nw_ratesA])), (nw_goodsA, .inl (κ 0, 6, .inl nw_goods)), (nw_ratesA, .inl (κ 0, 6, .inl nw_rates))]) r0 := by
  refine krI_of (cc := cX8_sell) (maxL := 8) (rt := .int) (by decide) rfl (Nat.le_of_ble_eq_true rfl) ?_
  intro p e s m args below meth c A Q ls hx hb hml hown hts hK hA hret hP hD hS hl
  have hown : s.vm.findClass RX8 = some m.cls := hown
  have hl : lv_has ls 8 [(0, .ref kro), (1, .int x1), (2, .int x2)] := hl
  have iw8 : ∀ w ∈ u_ws RX8 TX8 11, w ∈ wsX8_sell := (fun _ h => List.mem_cons_of_mem _ (List.mem_append_left _ (List.mem_append_left _ (List.mem_append_right _ h))))
  have iw5 : ∀ w ∈ u_ws RX5 TX5 7, w ∈ wsX8_sell := (fun _ h => List.mem_cons_of_mem _ (List.mem_append_left _ (List.mem_append_right _ h)))
  have iw6 : ∀ w ∈ u_ws RX6 TX6 12, w ∈ wsX8_sell := (fun _ h => List.mem_cons_of_mem _ (List.mem_append_right _ h))
  have k0 : (Cond.constant RX8 71 (-1000000002)).before args s = true := hts _ (List.mem_of_getElem? (i := 1) rfl)
  have k1 : (Cond.fieldLink RX8 29 "KingRansom" "now" "LKingRansom$State;").before args s = true := hts _ (List.mem_of_getElem? (i := 2) rfl)
  have k2 : (Cond.fieldLink RX8 19 "KingRansom" "tale" "LKingRansom$Tale;").before args s = true := hts _ (List.mem_of_getElem? (i := 3) rfl)
  have k3 : (Cond.methodLink RX8 219 Lib.Math.max.name).before args s = true := hts _ (List.mem_of_getElem? (i := 4) rfl)
  have k4 : (Cond.static Lib.Math.max.name).before args s = true := hts _ (List.mem_of_getElem? (i := 5) rfl)
  have k5 : (Cond.initialized "java/lang/Math").before args s = true := hts _ (List.mem_of_getElem? (i := 6) rfl)
  have k6 : (Cond.code Lib.Math.max.name Lib.Math.max.code 2 (some .int)).before args s = true := hts _ (List.mem_of_getElem? (i := 7) rfl)
  have L44 : ∀ (n44 : Nat) (v3 : Int32) (v4 : Int32) (v5 : Int32) (H : Heap) (locs : List Loc) (ls : Array Slot), va_P D vwCl ([(kro, .inr (8, [.ref txo, .ref tlo, .ref dfo, .ref nwo, .ref aho, .ref pao, .ref iaA, .ref sco, .ref bko, .ref spo, .int kr_drawn])), (tlo, .inr (6, [.int tl_stands, .int tl_price, .int tl_death, .int tl_payers, .int tl_bids, .int tl_hostages, .int tl_bags, .int tl_bagMarks, .ref tl_goodsA, .ref tl_shyA, .ref tl_bidOfA, .ref tl_daysOfA])), (tl_goodsA, .inl (κ 0, 6, .inl tl_goods)), (tl_shyA, .inl (κ 0, 6, .inl tl_shy)), (tl_bidOfA, .inl (κ 0, 9, .inl tl_bidOf)), (tl_daysOfA, .inl (κ 0, 6, .inl tl_daysOf)), (nwo, .inr (5, [.int nw_price, .int nw_months, .int nw_chest, .int nw_given, .int nw_fate, .ref nw_goodsA, .ref nw_ratesA])), (nw_goodsA, .inl (κ 0, 6, .inl nw_goods)), (nw_ratesA, .inl (κ 0, 6, .inl nw_rates))]) H → va_D A ([(kro, .inr (8, [.ref txo, .ref tlo, .ref dfo, .ref nwo, .ref aho, .ref pao, .ref iaA, .ref sco, .ref bko, .ref spo, .int kr_drawn])), (tlo, .inr (6, [.int tl_stands, .int tl_price, .int tl_death, .int tl_payers, .int tl_bids, .int tl_hostages, .int tl_bags, .int tl_bagMarks, .ref tl_goodsA, .ref tl_shyA, .ref tl_bidOfA, .ref tl_daysOfA])), (tl_goodsA, .inl (κ 0, 6, .inl tl_goods)), (tl_shyA, .inl (κ 0, 6, .inl tl_shy)), (tl_bidOfA, .inl (κ 0, 9, .inl tl_bidOf)), (tl_daysOfA, .inl (κ 0, 6, .inl tl_daysOf)), (nwo, .inr (5, [.int nw_price, .int nw_months, .int nw_chest, .int nw_given, .int nw_fate, .ref nw_goodsA, .ref nw_ratesA])), (nw_goodsA, .inl (κ 0, 6, .inl nw_goods)), (nw_ratesA, .inl (κ 0, 6, .inl nw_rates))]) → va_S A s.heap H locs → lv_has ls 8 [(0, .ref kro), (1, .int x1), (2, .int x2), (3, .int v3), (4, .int v4), (5, .int v5)] → pX8_sell_L44 x1 x2 tl_death tl_bidOf n44 v3 v4 v5 = some (r0) → W p l e { frames := 1, cells := 0, slots := 0, locals := 100 } s m args below meth c H locs 0 0 Q (F0 m 44 ls []) := by
    intro n44
    induction n44 with
    | zero =>
      intro v3 v4 v5 H locs ls hP hD hS hl hres
      exact absurd (show none = some _ from hres) (by simp)
    | succ n44 ih44 =>
      intro v3 v4 v5 H locs ls hP hD hS hl hres
      have L90 : ∀ (v4 : Int32) (v5 : Int32) (v6 : Int32) (v7 : Int32) (H : Heap) (locs : List Loc) (ls : Array Slot), va_P D vwCl ([(kro, .inr (8, [.ref txo, .ref tlo, .ref dfo, .ref nwo, .ref aho, .ref pao, .ref iaA, .ref sco, .ref bko, .ref spo, .int kr_drawn])), (tlo, .inr (6, [.int tl_stands, .int tl_price, .int tl_death, .int tl_payers, .int tl_bids, .int tl_hostages, .int tl_bags, .int tl_bagMarks, .ref tl_goodsA, .ref tl_shyA, .ref tl_bidOfA, .ref tl_daysOfA])), (tl_goodsA, .inl (κ 0, 6, .inl tl_goods)), (tl_shyA, .inl (κ 0, 6, .inl tl_shy)), (tl_bidOfA, .inl (κ 0, 9, .inl tl_bidOf)), (tl_daysOfA, .inl (κ 0, 6, .inl tl_daysOf)), (nwo, .inr (5, [.int nw_price, .int nw_months, .int nw_chest, .int nw_given, .int nw_fate, .ref nw_goodsA, .ref nw_ratesA])), (nw_goodsA, .inl (κ 0, 6, .inl nw_goods)), (nw_ratesA, .inl (κ 0, 6, .inl nw_rates))]) H → va_D A ([(kro, .inr (8, [.ref txo, .ref tlo, .ref dfo, .ref nwo, .ref aho, .ref pao, .ref iaA, .ref sco, .ref bko, .ref spo, .int kr_drawn])), (tlo, .inr (6, [.int tl_stands, .int tl_price, .int tl_death, .int tl_payers, .int tl_bids, .int tl_hostages, .int tl_bags, .int tl_bagMarks, .ref tl_goodsA, .ref tl_shyA, .ref tl_bidOfA, .ref tl_daysOfA])), (tl_goodsA, .inl (κ 0, 6, .inl tl_goods)), (tl_shyA, .inl (κ 0, 6, .inl tl_shy)), (tl_bidOfA, .inl (κ 0, 9, .inl tl_bidOf)), (tl_daysOfA, .inl (κ 0, 6, .inl tl_daysOf)), (nwo, .inr (5, [.int nw_price, .int nw_months, .int nw_chest, .int nw_given, .int nw_fate, .ref nw_goodsA, .ref nw_ratesA])), (nw_goodsA, .inl (κ 0, 6, .inl nw_goods)), (nw_ratesA, .inl (κ 0, 6, .inl nw_rates))]) → va_S A s.heap H locs → lv_has ls 8 [(0, .ref kro), (1, .int x1), (2, .int x2), (4, .int v4), (5, .int v5), (6, .int v6), (7, .int v7)] → pX8_sell_L90 (pX8_sell_L44 x1 x2 tl_death tl_bidOf n44) v4 v5 v6 v7 = some (r0) → W p l e { frames := 1, cells := 0, slots := 0, locals := 100 } s m args below meth c H locs 0 0 Q (F0 m 90 ls []) := by
        intro v4 v5 v6 v7 H locs ls hP hD hS hl hres
        unfold pX8_sell_L90 at hres
        refine lv_iload hx hb dX8_sell_90 (lv_at hl 6 rfl) ?_
        refine lv_iload hx hb dX8_sell_92 (lv_at hl 5 rfl) ?_
        refine va_mmax hx hb (hml.trans hl.1.symm) hown k3 k4 k5 k6 (Nat.le_of_ble_eq_true rfl) (Nat.le_of_ble_eq_true rfl) (Nat.zero_le _) (Nat.zero_le _) dX8_sell_94 ?_
        refine lv_istore_n (lv' := [(3, .int (if v7 < v6 then v6 else v7)), (0, .ref kro), (1, .int x1), (2, .int x2), (4, .int v4), (5, .int v5), (6, .int v6), (7, .int v7)]) hx hb dX8_sell_97 rfl hl (by decide) rfl (fun ls hl => ?_)
        refine lv_iinc (v := (v5 + (-1))) (lv' := [(5, .int (v5 + (-1))), (3, .int (if v7 < v6 then v6 else v7)), (0, .ref kro), (1, .int x1), (2, .int x2), (4, .int v4), (6, .int v6), (7, .int v7)]) hx hb dX8_sell_98 hl (k := 5) rfl rfl (by decide) rfl (fun ls hl => ?_)
        refine lv_goto (tgt := 44) hx hb dX8_sell_101 (by decide) ?_
        exact ih44 (if v7 < v6 then v6 else v7) v4 (v5 + (-1)) _ _ _ hP hD hS (lv_sub hl [2, 3, 4, 1, 5, 0] rfl) hres
      rw [pX8_sell_L44] at hres
      refine lv_iload hx hb dX8_sell_44 (lv_at hl 5 rfl) ?_
      refine lv_iload_n hx hb dX8_sell_46 rfl (lv_at hl 1 rfl) ?_
      refine lv_icmp_lt (tgt := 104) hx hb dX8_sell_47 (by decide) (fun c5 => ?_) (fun c5 => ?_)
      · replace hres := og_t c5 hres
        refine lv_iload_n hx hb dX8_sell_104 rfl (lv_at hl 2 rfl) ?_
        refine lv_if_ne (tgt := 112) hx hb dX8_sell_105 (by decide) (fun c6 => ?_) (fun c6 => ?_)
        · replace hres := og_f c6 hres
          refine lv_iload hx hb dX8_sell_112 (lv_at hl 4 rfl) ?_
          have hres := Option.some.inj hres
          have h0 := hres
          subst h0
          exact hret _ _ _ _ (vp_nar_int _) hP hD hS dX8_sell_114
        · replace hres := og_t c6 hres
          refine lv_iload_n hx hb dX8_sell_108 rfl (lv_at hl 3 rfl) ?_
          refine lv_goto (tgt := 114) hx hb dX8_sell_109 (by decide) ?_
          have hres := Option.some.inj hres
          have h0 := hres
          subst h0
          exact hret _ _ _ _ (vp_nar_int _) hP hD hS dX8_sell_114
      · replace hres := og_f c5 hres
        refine lv_iload_n hx hb dX8_sell_50 rfl (lv_at hl 3 rfl) ?_
        refine lv_bipush (v := 100) hx hb dX8_sell_51 (by decide) ?_
        refine lv_aload_n hx hb dX8_sell_53 rfl (lv_at hl 0 rfl) ?_
        refine va_get (D := D) (ci := 8) (v := .ref tlo) (C := RX8) (T := TX8) (N := 11) hx hb hts iw8 hown hK.1 hP 0 rfl rfl 1 (by decide) k2 (fun _ h9 => h9) rfl dX8_sell_54 ?_
        refine va_getN (D := D) (ci := 6) (v := .int tl_death) (C := RX6) (T := TX6) (N := 12) hx hb hts iw6 hown hK.1 hP 1 rfl rfl 2 (by decide) (hK.fl 8 rfl) (fun _ h9 => h9) rfl dX8_sell_57 ?_
        refine lv_isub hx hb dX8_sell_60 ?_
        refine lv_imul hx hb dX8_sell_61 ?_
        refine lv_bipush (v := 100) hx hb dX8_sell_62 (by decide) ?_
        refine lv_idiv hx hb dX8_sell_64 (by decide) ?_
        obtain ⟨y7, ey7, hres⟩ := kl_s hres
        refine kr_tope ey7 ?_
        refine lv_istore (lv' := [(6, .int y7), (0, .ref kro), (1, .int x1), (2, .int x2), (3, .int v3), (4, .int v4), (5, .int v5)]) hx hb dX8_sell_65 hl (by decide) rfl (fun ls hl => ?_)
        refine lv_aload_n hx hb dX8_sell_67 rfl (lv_at hl 1 rfl) ?_
        refine va_get (D := D) (ci := 8) (v := .ref tlo) (C := RX8) (T := TX8) (N := 11) hx hb hts iw8 hown hK.1 hP 0 rfl rfl 1 (by decide) k2 (fun _ h9 => h9) rfl dX8_sell_68 ?_
        refine va_getN (D := D) (ci := 6) (v := .ref tl_bidOfA) (C := RX6) (T := TX6) (N := 12) hx hb hts iw6 hown hK.1 hP 1 rfl rfl 10 (by decide) (hK.fl 27 rfl) (fun _ h9 => h9) rfl dX8_sell_71 ?_
        refine lv_iload hx hb dX8_sell_74 (lv_at hl 6 rfl) ?_
        obtain ⟨g8, hres⟩ := og_no hres
        refine kr_iald (f := tl_bidOf) (j := v5.toNatClampNeg) hx hb hK hP 4 rfl g8 rfl dX8_sell_76 ?_
        refine lv_istore (lv' := [(7, .int (tl_bidOf v5.toNatClampNeg)), (6, .int y7), (0, .ref kro), (1, .int x1), (2, .int x2), (3, .int v3), (4, .int v4), (5, .int v5)]) hx hb dX8_sell_77 hl (by decide) rfl (fun ls hl => ?_)
        refine lv_iload hx hb dX8_sell_79 (lv_at hl 0 rfl) ?_
        refine lv_iload hx hb dX8_sell_81 (lv_at hl 1 rfl) ?_
        refine lv_icmp_lt (tgt := 90) hx hb dX8_sell_83 (by decide) (fun c9 => ?_) (fun c9 => ?_)
        · replace hres := og_t c9 hres
          exact L90 v4 v5 y7 (tl_bidOf v5.toNatClampNeg) _ _ _ hP hD hS (lv_sub hl [2, 3, 4, 6, 7, 1, 0] rfl) hres
        · replace hres := og_f c9 hres
          refine lv_iload hx hb dX8_sell_86 (lv_at hl 7 rfl) ?_
          refine lv_istore (lv' := [(4, .int v5), (7, .int (tl_bidOf v5.toNatClampNeg)), (6, .int y7), (0, .ref kro), (1, .int x1), (2, .int x2), (3, .int v3), (5, .int v5)]) hx hb dX8_sell_88 hl (by decide) rfl (fun ls hl => ?_)
          exact L90 v5 v5 y7 (tl_bidOf v5.toNatClampNeg) _ _ _ hP hD hS (lv_sub hl [3, 4, 5, 0, 7, 2, 1] rfl) hres
  unfold pX8_sell at hres
  refine lv_iload_n hx hb dX8_sell_0 rfl (lv_at hl 1 rfl) ?_
  refine lv_if_lt (tgt := 19) hx hb dX8_sell_1 (by decide) (fun c1 => ?_) (fun c1 => ?_)
  · replace hres := og_t c1 hres
    refine lv_ldc (v := (-1000000002)) hx hb hown k0 dX8_sell_19 ?_
    have hres := Option.some.inj hres
    have h0 := hres
    subst h0
    exact hret _ _ _ _ (vp_nar_int _) hP hD hS dX8_sell_21
  · replace hres := og_f c1 hres
    refine lv_iload_n hx hb dX8_sell_4 rfl (lv_at hl 1 rfl) ?_
    refine lv_bipush (v := 9) hx hb dX8_sell_5 (by decide) ?_
    refine lv_icmp_gt (tgt := 19) hx hb dX8_sell_7 (by decide) (fun c2 => ?_) (fun c2 => ?_)
    · replace hres := og_t c2 hres
      refine lv_ldc (v := (-1000000002)) hx hb hown k0 dX8_sell_19 ?_
      have hres := Option.some.inj hres
      have h0 := hres
      subst h0
      exact hret _ _ _ _ (vp_nar_int _) hP hD hS dX8_sell_21
    · replace hres := og_f c2 hres
      refine lv_iload_n hx hb dX8_sell_10 rfl (lv_at hl 2 rfl) ?_
      refine lv_if_lt (tgt := 19) hx hb dX8_sell_11 (by decide) (fun c3 => ?_) (fun c3 => ?_)
      · replace hres := og_t c3 hres
        refine lv_ldc (v := (-1000000002)) hx hb hown k0 dX8_sell_19 ?_
        have hres := Option.some.inj hres
        have h0 := hres
        subst h0
        exact hret _ _ _ _ (vp_nar_int _) hP hD hS dX8_sell_21
      · replace hres := og_f c3 hres
        refine lv_iload_n hx hb dX8_sell_14 rfl (lv_at hl 2 rfl) ?_
        refine lv_iconst (v := 1) hx hb dX8_sell_15 (by decide) ?_
        refine lv_icmp_le (tgt := 22) hx hb dX8_sell_16 (by decide) (fun c4 => ?_) (fun c4 => ?_)
        · replace hres := og_t c4 hres
          refine lv_aload_n hx hb dX8_sell_22 rfl (lv_at hl 0 rfl) ?_
          refine va_get (D := D) (ci := 8) (v := .ref nwo) (C := RX8) (T := TX8) (N := 11) hx hb hts iw8 hown hK.1 hP 0 rfl rfl 3 (by decide) k1 (fun _ h9 => h9) rfl dX8_sell_23 ?_
          refine va_getN (D := D) (ci := 5) (v := .int nw_price) (C := RX5) (T := TX5) (N := 7) hx hb hts iw5 hown hK.1 hP 6 rfl rfl 0 (by decide) (hK.fl 29 rfl) (fun _ h9 => h9) rfl dX8_sell_26 ?_
          refine lv_istore_n (lv' := [(3, .int nw_price), (0, .ref kro), (1, .int x1), (2, .int x2)]) hx hb dX8_sell_29 rfl hl (by decide) rfl (fun ls hl => ?_)
          refine lv_iconst (v := (-1)) hx hb dX8_sell_30 (by decide) ?_
          refine lv_istore (lv' := [(4, .int (-1)), (3, .int nw_price), (0, .ref kro), (1, .int x1), (2, .int x2)]) hx hb dX8_sell_31 hl (by decide) rfl (fun ls hl => ?_)
          refine lv_aload_n hx hb dX8_sell_33 rfl (lv_at hl 2 rfl) ?_
          refine va_get (D := D) (ci := 8) (v := .ref tlo) (C := RX8) (T := TX8) (N := 11) hx hb hts iw8 hown hK.1 hP 0 rfl rfl 1 (by decide) k2 (fun _ h9 => h9) rfl dX8_sell_34 ?_
          refine va_getN (D := D) (ci := 6) (v := .int tl_bids) (C := RX6) (T := TX6) (N := 12) hx hb hts iw6 hown hK.1 hP 1 rfl rfl 4 (by decide) (hK.fl 13 rfl) (fun _ h9 => h9) rfl dX8_sell_37 ?_
          refine lv_iconst (v := 1) hx hb dX8_sell_40 (by decide) ?_
          refine lv_isub hx hb dX8_sell_41 ?_
          refine lv_istore (lv' := [(5, .int (tl_bids - 1)), (4, .int (-1)), (3, .int nw_price), (0, .ref kro), (1, .int x1), (2, .int x2)]) hx hb dX8_sell_42 hl (by decide) rfl (fun ls hl => ?_)
          exact L44 N nw_price (-1) (tl_bids - 1) _ _ _ hP hD hS (lv_sub hl [3, 4, 5, 2, 1, 0] rfl) hres
        · replace hres := og_f c4 hres
          refine lv_ldc (v := (-1000000002)) hx hb hown k0 dX8_sell_19 ?_
          have hres := Option.some.inj hres
          have h0 := hres
          subst h0
          exact hret _ _ _ _ (vp_nar_int _) hP hD hS dX8_sell_21

def pX8_soonest_L58 (k9 : Int32 → Int32 → Int32 → Option (Int32)) (v2 : Int32) (v3 : Int32) (v4 : Int32) : Option (Int32) :=
    k9 v2 v3 (v4 + 1)
def pX8_soonest_L9 (x1 : Int32) (tl_hostages : Int32) (tl_daysOf : Nat → Int32) : Nat → Int32 → Int32 → Int32 → Option (Int32)
  | 0, _, _, _ => none
  | n9 + 1, v2, v3, v4 =>
    (if tl_hostages ≤ v4 then
    some (v2)
    else
    (if ((x1 >>> (v4 &&& 31)) &&& 1) = 0 then
    pX8_soonest_L58 (pX8_soonest_L9 x1 tl_hostages tl_daysOf n9) v2 v3 v4
    else
    if v4 < 0 ∨ 6 ≤ v4.toNatClampNeg then none else
    (if v3 ≤ (tl_daysOf v4.toNatClampNeg) then
    pX8_soonest_L58 (pX8_soonest_L9 x1 tl_hostages tl_daysOf n9) v2 v3 v4
    else
    pX8_soonest_L58 (pX8_soonest_L9 x1 tl_hostages tl_daysOf n9) v4 (tl_daysOf v4.toNatClampNeg) v4)))
def pX8_soonest (N : Nat) (x1 : Int32) (tl_hostages : Int32) (tl_daysOf : Nat → Int32) : Option (Int32) :=
    pX8_soonest_L9 x1 tl_hostages tl_daysOf N 0 1000000000 0
set_option maxHeartbeats 8000000 in
set_option maxRecDepth 100000 in
theorem tX8_soonest (l : Launch) (D : va_G) (κ : Nat → ClassId) (kro : Nat) (txo : Nat) (tlo : Nat) (dfo : Nat) (nwo : Nat) (aho : Nat) (pao : Nat) (iaA : Nat) (sco : Nat) (bko : Nat) (spo : Nat) (tl_goodsA : Nat) (tl_shyA : Nat) (tl_bidOfA : Nat) (tl_daysOfA : Nat) (N : Nat) (kr_drawn : Int32) (tl_stands : Int32) (tl_price : Int32) (tl_death : Int32) (tl_payers : Int32) (tl_bids : Int32) (tl_hostages : Int32) (tl_bags : Int32) (tl_bagMarks : Int32) (tl_goods : Nat → Int32) (tl_shy : Nat → Int32) (tl_bidOf : Nat → Int32) (tl_daysOf : Nat → Int32) (x1 : Int32) (r0 : Int32) (hres : pX8_soonest N x1 tl_hostages tl_daysOf = some (r0)) : krI l yX8_soonest wsX8_soonest { frames := 0, cells := 0, slots := 0, locals := 0 } D κ [.ref kro, .int x1] ([(kro, .inr (8, [.ref txo, .ref tlo, .ref dfo, .ref nwo, .ref aho, .ref pao, .ref iaA, .ref sco, .ref bko, .ref spo, .int kr_drawn])), (tlo, .inr (6, [.int tl_stands, .int tl_price, .int tl_death, .int tl_payers, .int tl_bids, .int tl_hostages, .int tl_bags, .int tl_bagMarks, .ref tl_goodsA, .ref tl_shyA, .ref tl_bidOfA, .ref tl_daysOfA])), (tl_goodsA, .inl (κ 0, 6, .inl tl_goods)), (tl_shyA, .inl (κ 0, 6, .inl tl_shy)), (tl_bidOfA, .inl (κ 0, 9, .inl tl_bidOf)), (tl_daysOfA, .inl (κ 0, 6, .inl tl_daysOf))]) ([(kro, .inr (8, [.ref txo, .ref tlo, .ref dfo, .ref nwo, .ref aho, .ref pao, .ref iaA, .ref sco, .ref bko, .ref spo, .int kr_drawn])), (tlo, .inr (6, [.int tl_stands, .int tl_price, .int tl_death, .int tl_payers, .int tl_bids, .int tl_hostages, .int tl_bags, .int tl_bagMarks, .ref tl_goodsA, .ref tl_shyA, .ref tl_bidOfA, .ref tl_daysOfA])), (tl_goodsA, .inl (κ 0, 6, .inl tl_goods)), (tl_shyA, .inl (κ 0, 6, .inl tl_shy)), (tl_bidOfA, .inl (κ 0, 9, .inl tl_bidOf)), (tl_daysOfA, .inl (κ 0, 6, .inl tl_daysOf))]) r0 := by
  refine krI_of (cc := cX8_soonest) (maxL := 5) (rt := .int) (by decide) rfl (Nat.le_of_ble_eq_true rfl) ?_
  intro p e s m args below meth c A Q ls hx hb hml hown hts hK hA hret hP hD hS hl
  have hown : s.vm.findClass RX8 = some m.cls := hown
  have hl : lv_has ls 5 [(0, .ref kro), (1, .int x1)] := hl
  have iw8 : ∀ w ∈ u_ws RX8 TX8 11, w ∈ wsX8_soonest := (fun _ h => List.mem_cons_of_mem _ (List.mem_append_left _ (List.mem_append_right _ h)))
  have iw6 : ∀ w ∈ u_ws RX6 TX6 12, w ∈ wsX8_soonest := (fun _ h => List.mem_cons_of_mem _ (List.mem_append_right _ h))
  have k0 : (Cond.constant RX8 288 (1000000000)).before args s = true := hts _ (List.mem_of_getElem? (i := 1) rfl)
  have k1 : (Cond.fieldLink RX8 19 "KingRansom" "tale" "LKingRansom$Tale;").before args s = true := hts _ (List.mem_of_getElem? (i := 2) rfl)
  have L9 : ∀ (n9 : Nat) (v2 : Int32) (v3 : Int32) (v4 : Int32) (H : Heap) (locs : List Loc) (ls : Array Slot), va_P D vwCl ([(kro, .inr (8, [.ref txo, .ref tlo, .ref dfo, .ref nwo, .ref aho, .ref pao, .ref iaA, .ref sco, .ref bko, .ref spo, .int kr_drawn])), (tlo, .inr (6, [.int tl_stands, .int tl_price, .int tl_death, .int tl_payers, .int tl_bids, .int tl_hostages, .int tl_bags, .int tl_bagMarks, .ref tl_goodsA, .ref tl_shyA, .ref tl_bidOfA, .ref tl_daysOfA])), (tl_goodsA, .inl (κ 0, 6, .inl tl_goods)), (tl_shyA, .inl (κ 0, 6, .inl tl_shy)), (tl_bidOfA, .inl (κ 0, 9, .inl tl_bidOf)), (tl_daysOfA, .inl (κ 0, 6, .inl tl_daysOf))]) H → va_D A ([(kro, .inr (8, [.ref txo, .ref tlo, .ref dfo, .ref nwo, .ref aho, .ref pao, .ref iaA, .ref sco, .ref bko, .ref spo, .int kr_drawn])), (tlo, .inr (6, [.int tl_stands, .int tl_price, .int tl_death, .int tl_payers, .int tl_bids, .int tl_hostages, .int tl_bags, .int tl_bagMarks, .ref tl_goodsA, .ref tl_shyA, .ref tl_bidOfA, .ref tl_daysOfA])), (tl_goodsA, .inl (κ 0, 6, .inl tl_goods)), (tl_shyA, .inl (κ 0, 6, .inl tl_shy)), (tl_bidOfA, .inl (κ 0, 9, .inl tl_bidOf)), (tl_daysOfA, .inl (κ 0, 6, .inl tl_daysOf))]) → va_S A s.heap H locs → lv_has ls 5 [(0, .ref kro), (1, .int x1), (2, .int v2), (3, .int v3), (4, .int v4)] → pX8_soonest_L9 x1 tl_hostages tl_daysOf n9 v2 v3 v4 = some (r0) → W p l e { frames := 0, cells := 0, slots := 0, locals := 0 } s m args below meth c H locs 0 0 Q (F0 m 9 ls []) := by
    intro n9
    induction n9 with
    | zero =>
      intro v2 v3 v4 H locs ls hP hD hS hl hres
      exact absurd (show none = some _ from hres) (by simp)
    | succ n9 ih9 =>
      intro v2 v3 v4 H locs ls hP hD hS hl hres
      have L58 : ∀ (v2 : Int32) (v3 : Int32) (v4 : Int32) (H : Heap) (locs : List Loc) (ls : Array Slot), va_P D vwCl ([(kro, .inr (8, [.ref txo, .ref tlo, .ref dfo, .ref nwo, .ref aho, .ref pao, .ref iaA, .ref sco, .ref bko, .ref spo, .int kr_drawn])), (tlo, .inr (6, [.int tl_stands, .int tl_price, .int tl_death, .int tl_payers, .int tl_bids, .int tl_hostages, .int tl_bags, .int tl_bagMarks, .ref tl_goodsA, .ref tl_shyA, .ref tl_bidOfA, .ref tl_daysOfA])), (tl_goodsA, .inl (κ 0, 6, .inl tl_goods)), (tl_shyA, .inl (κ 0, 6, .inl tl_shy)), (tl_bidOfA, .inl (κ 0, 9, .inl tl_bidOf)), (tl_daysOfA, .inl (κ 0, 6, .inl tl_daysOf))]) H → va_D A ([(kro, .inr (8, [.ref txo, .ref tlo, .ref dfo, .ref nwo, .ref aho, .ref pao, .ref iaA, .ref sco, .ref bko, .ref spo, .int kr_drawn])), (tlo, .inr (6, [.int tl_stands, .int tl_price, .int tl_death, .int tl_payers, .int tl_bids, .int tl_hostages, .int tl_bags, .int tl_bagMarks, .ref tl_goodsA, .ref tl_shyA, .ref tl_bidOfA, .ref tl_daysOfA])), (tl_goodsA, .inl (κ 0, 6, .inl tl_goods)), (tl_shyA, .inl (κ 0, 6, .inl tl_shy)), (tl_bidOfA, .inl (κ 0, 9, .inl tl_bidOf)), (tl_daysOfA, .inl (κ 0, 6, .inl tl_daysOf))]) → va_S A s.heap H locs → lv_has ls 5 [(0, .ref kro), (1, .int x1), (2, .int v2), (3, .int v3), (4, .int v4)] → pX8_soonest_L58 (pX8_soonest_L9 x1 tl_hostages tl_daysOf n9) v2 v3 v4 = some (r0) → W p l e { frames := 0, cells := 0, slots := 0, locals := 0 } s m args below meth c H locs 0 0 Q (F0 m 58 ls []) := by
        intro v2 v3 v4 H locs ls hP hD hS hl hres
        unfold pX8_soonest_L58 at hres
        refine lv_iinc (v := (v4 + 1)) (lv' := [(4, .int (v4 + 1)), (0, .ref kro), (1, .int x1), (2, .int v2), (3, .int v3)]) hx hb dX8_soonest_58 hl (k := 4) rfl rfl (by decide) rfl (fun ls hl => ?_)
        refine lv_goto (tgt := 9) hx hb dX8_soonest_61 (by decide) ?_
        exact ih9 v2 v3 (v4 + 1) _ _ _ hP hD hS (lv_sub hl [1, 2, 3, 4, 0] rfl) hres
      rw [pX8_soonest_L9] at hres
      refine lv_iload hx hb dX8_soonest_9 (lv_at hl 4 rfl) ?_
      refine lv_aload_n hx hb dX8_soonest_11 rfl (lv_at hl 0 rfl) ?_
      refine va_get (D := D) (ci := 8) (v := .ref tlo) (C := RX8) (T := TX8) (N := 11) hx hb hts iw8 hown hK.1 hP 0 rfl rfl 1 (by decide) k1 (fun _ h9 => h9) rfl dX8_soonest_12 ?_
      refine va_getN (D := D) (ci := 6) (v := .int tl_hostages) (C := RX6) (T := TX6) (N := 12) hx hb hts iw6 hown hK.1 hP 1 rfl rfl 5 (by decide) (hK.fl 15 rfl) (fun _ h9 => h9) rfl dX8_soonest_15 ?_
      refine lv_icmp_ge (tgt := 64) hx hb dX8_soonest_18 (by decide) (fun c1 => ?_) (fun c1 => ?_)
      · replace hres := og_t c1 hres
        refine lv_iload_n hx hb dX8_soonest_64 rfl (lv_at hl 2 rfl) ?_
        have hres := Option.some.inj hres
        have h0 := hres
        subst h0
        exact hret _ _ _ _ (vp_nar_int _) hP hD hS dX8_soonest_65
      · replace hres := og_f c1 hres
        refine lv_iload_n hx hb dX8_soonest_21 rfl (lv_at hl 1 rfl) ?_
        refine lv_iload hx hb dX8_soonest_22 (lv_at hl 4 rfl) ?_
        refine lv_ishr hx hb dX8_soonest_24 ?_
        refine lv_iconst (v := 1) hx hb dX8_soonest_25 (by decide) ?_
        refine lv_iand hx hb dX8_soonest_26 ?_
        refine lv_if_eq (tgt := 58) hx hb dX8_soonest_27 (by decide) (fun c2 => ?_) (fun c2 => ?_)
        · replace hres := og_t c2 hres
          exact L58 v2 v3 v4 _ _ _ hP hD hS (lv_sub hl [0, 1, 2, 3, 4] rfl) hres
        · replace hres := og_f c2 hres
          refine lv_aload_n hx hb dX8_soonest_30 rfl (lv_at hl 0 rfl) ?_
          refine va_get (D := D) (ci := 8) (v := .ref tlo) (C := RX8) (T := TX8) (N := 11) hx hb hts iw8 hown hK.1 hP 0 rfl rfl 1 (by decide) k1 (fun _ h9 => h9) rfl dX8_soonest_31 ?_
          refine va_getN (D := D) (ci := 6) (v := .ref tl_daysOfA) (C := RX6) (T := TX6) (N := 12) hx hb hts iw6 hown hK.1 hP 1 rfl rfl 11 (by decide) (hK.fl 28 rfl) (fun _ h9 => h9) rfl dX8_soonest_34 ?_
          refine lv_iload hx hb dX8_soonest_37 (lv_at hl 4 rfl) ?_
          obtain ⟨g3, hres⟩ := og_no hres
          refine kr_iald (f := tl_daysOf) (j := v4.toNatClampNeg) hx hb hK hP 5 rfl g3 rfl dX8_soonest_39 ?_
          refine lv_iload_n hx hb dX8_soonest_40 rfl (lv_at hl 3 rfl) ?_
          refine lv_icmp_ge (tgt := 58) hx hb dX8_soonest_41 (by decide) (fun c4 => ?_) (fun c4 => ?_)
          · replace hres := og_t c4 hres
            exact L58 v2 v3 v4 _ _ _ hP hD hS (lv_sub hl [0, 1, 2, 3, 4] rfl) hres
          · replace hres := og_f c4 hres
            refine lv_aload_n hx hb dX8_soonest_44 rfl (lv_at hl 0 rfl) ?_
            refine va_get (D := D) (ci := 8) (v := .ref tlo) (C := RX8) (T := TX8) (N := 11) hx hb hts iw8 hown hK.1 hP 0 rfl rfl 1 (by decide) k1 (fun _ h9 => h9) rfl dX8_soonest_45 ?_
            refine va_getN (D := D) (ci := 6) (v := .ref tl_daysOfA) (C := RX6) (T := TX6) (N := 12) hx hb hts iw6 hown hK.1 hP 1 rfl rfl 11 (by decide) (hK.fl 28 rfl) (fun _ h9 => h9) rfl dX8_soonest_48 ?_
            refine lv_iload hx hb dX8_soonest_51 (lv_at hl 4 rfl) ?_
            refine kr_iald (f := tl_daysOf) (j := v4.toNatClampNeg) hx hb hK hP 5 rfl g3 rfl dX8_soonest_53 ?_
            refine lv_istore_n (lv' := [(3, .int (tl_daysOf v4.toNatClampNeg)), (0, .ref kro), (1, .int x1), (2, .int v2), (4, .int v4)]) hx hb dX8_soonest_54 rfl hl (by decide) rfl (fun ls hl => ?_)
            refine lv_iload hx hb dX8_soonest_55 (lv_at hl 4 rfl) ?_
            refine lv_istore_n (lv' := [(2, .int v4), (3, .int (tl_daysOf v4.toNatClampNeg)), (0, .ref kro), (1, .int x1), (4, .int v4)]) hx hb dX8_soonest_57 rfl hl (by decide) rfl (fun ls hl => ?_)
            exact L58 v4 (tl_daysOf v4.toNatClampNeg) v4 _ _ _ hP hD hS (lv_sub hl [2, 3, 0, 1, 4] rfl) hres
  unfold pX8_soonest at hres
  refine lv_iconst (v := 0) hx hb dX8_soonest_0 (by decide) ?_
  refine lv_istore_n (lv' := [(2, .int 0), (0, .ref kro), (1, .int x1)]) hx hb dX8_soonest_1 rfl hl (by decide) rfl (fun ls hl => ?_)
  refine lv_ldcw (v := 1000000000) hx hb hown k0 dX8_soonest_2 ?_
  refine lv_istore_n (lv' := [(3, .int 1000000000), (2, .int 0), (0, .ref kro), (1, .int x1)]) hx hb dX8_soonest_5 rfl hl (by decide) rfl (fun ls hl => ?_)
  refine lv_iconst (v := 0) hx hb dX8_soonest_6 (by decide) ?_
  refine lv_istore (lv' := [(4, .int 0), (3, .int 1000000000), (2, .int 0), (0, .ref kro), (1, .int x1)]) hx hb dX8_soonest_7 hl (by decide) rfl (fun ls hl => ?_)
  exact L9 N 0 1000000000 0 _ _ _ hP hD hS (lv_sub hl [3, 4, 2, 1, 0] rfl) hres

def pX8_homeOrder_L77 (x1 : Int32) (v4 : Int32) : Option (Int32) :=
    (if x1 = (-1) then
    some (v4)
    else
    some ((-1)))
def pX8_homeOrder_L16 (N : Nat) (x1 : Int32) (tl_hostages : Int32) (tl_daysOf : Nat → Int32) : Nat → Int32 → Int32 → Int32 → Int32 → Option (Int32)
  | 0, _, _, _, _ => none
  | n16 + 1, v2, v3, v4, v5 =>
    (if 6 ≤ v5 then
    pX8_homeOrder_L77 x1 v4
    else
    (if v2 = 0 then
    pX8_homeOrder_L77 x1 v4
    else
    kb1 (pX8_soonest N v2 tl_hostages tl_daysOf) fun r3 =>
    (if v5 = x1 then
    some (r3)
    else
    if r3 < 0 ∨ 6 ≤ r3.toNatClampNeg then none else
    kl (v3 + (tl_daysOf r3.toNatClampNeg)) fun y7 =>
    kl (v2 &&& (((1 : Int32) <<< (r3 &&& 31)) ^^^ (-1))) fun y8 =>
    pX8_homeOrder_L16 N x1 tl_hostages tl_daysOf n16 y8 y7 (v4 + y7) (v5 + 1))))
def pX8_homeOrder (N : Nat) (x1 : Int32) (tl_hostages : Int32) (tl_daysOf : Nat → Int32) (nw_given : Int32) : Option (Int32) :=
    pX8_homeOrder_L16 N x1 tl_hostages tl_daysOf N nw_given 0 0 0
set_option maxHeartbeats 8000000 in
set_option maxRecDepth 100000 in
theorem tX8_homeOrder (l : Launch) (D : va_G) (κ : Nat → ClassId) (kro : Nat) (txo : Nat) (tlo : Nat) (dfo : Nat) (nwo : Nat) (aho : Nat) (pao : Nat) (iaA : Nat) (sco : Nat) (bko : Nat) (spo : Nat) (tl_goodsA : Nat) (tl_shyA : Nat) (tl_bidOfA : Nat) (tl_daysOfA : Nat) (nw_goodsA : Nat) (nw_ratesA : Nat) (N : Nat) (kr_drawn : Int32) (tl_stands : Int32) (tl_price : Int32) (tl_death : Int32) (tl_payers : Int32) (tl_bids : Int32) (tl_hostages : Int32) (tl_bags : Int32) (tl_bagMarks : Int32) (tl_goods : Nat → Int32) (tl_shy : Nat → Int32) (tl_bidOf : Nat → Int32) (tl_daysOf : Nat → Int32) (nw_price : Int32) (nw_months : Int32) (nw_chest : Int32) (nw_given : Int32) (nw_fate : Int32) (nw_goods : Nat → Int32) (nw_rates : Nat → Int32) (x1 : Int32) (r0 : Int32) (hres : pX8_homeOrder N x1 tl_hostages tl_daysOf nw_given = some (r0)) : krI l yX8_homeOrder wsX8_homeOrder { frames := 1, cells := 0, slots := 0, locals := 100 } D κ [.ref kro, .int x1] ([(kro, .inr (8, [.ref txo, .ref tlo, .ref dfo, .ref nwo, .ref aho, .ref pao, .ref iaA, .ref sco, .ref bko, .ref spo, .int kr_drawn])), (tlo, .inr (6, [.int tl_stands, .int tl_price, .int tl_death, .int tl_payers, .int tl_bids, .int tl_hostages, .int tl_bags, .int tl_bagMarks, .ref tl_goodsA, .ref tl_shyA, .ref tl_bidOfA, .ref tl_daysOfA])), (tl_goodsA, .inl (κ 0, 6, .inl tl_goods)), (tl_shyA, .inl (κ 0, 6, .inl tl_shy)), (tl_bidOfA, .inl (κ 0, 9, .inl tl_bidOf)), (tl_daysOfA, .inl (κ 0, 6, .inl tl_daysOf)), (nwo, .inr (5, [.int nw_price, .int nw_months, .int nw_chest, .int nw_given, .int nw_fate, .ref nw_goodsA, .ref nw_ratesA])), (nw_goodsA, .inl (κ 0, 6, .inl nw_goods)), (nw_ratesA, .inl (κ 0, 6, .inl nw_rates))]) ([(kro, .inr (8, [.ref txo, .ref tlo, .ref dfo, .ref nwo, .ref aho, .ref pao, .ref iaA, .ref sco, .ref bko, .ref spo, .int kr_drawn])), (tlo, .inr (6, [.int tl_stands, .int tl_price, .int tl_death, .int tl_payers, .int tl_bids, .int tl_hostages, .int tl_bags, .int tl_bagMarks, .ref tl_goodsA, .ref tl_shyA, .ref tl_bidOfA, .ref tl_daysOfA])), (tl_goodsA, .inl (κ 0, 6, .inl tl_goods)), (tl_shyA, .inl (κ 0, 6, .inl tl_shy)), (tl_bidOfA, .inl (κ 0, 9, .inl tl_bidOf)), (tl_daysOfA, .inl (κ 0, 6, .inl tl_daysOf)), (nwo, .inr (5, [.int nw_price, .int nw_months, .int nw_chest, .int nw_given, .int nw_fate, .ref nw_goodsA, .ref nw_ratesA])), (nw_goodsA, .inl (κ 0, 6, .inl nw_goods)), (nw_ratesA, .inl (κ 0, 6, .inl nw_rates))]) r0 := by
  refine krI_of (cc := cX8_homeOrder) (maxL := 7) (rt := .int) (by decide) rfl (Nat.le_of_ble_eq_true rfl) ?_
  intro p e s m args below meth c A Q ls hx hb hml hown hts hK hA hret hP hD hS hl
  have hown : s.vm.findClass RX8 = some m.cls := hown
  have hl : lv_has ls 7 [(0, .ref kro), (1, .int x1)] := hl
  have iw8 : ∀ w ∈ u_ws RX8 TX8 11, w ∈ wsX8_homeOrder := (fun _ h => List.mem_cons_of_mem _ (List.mem_append_left _ (List.mem_append_left _ (List.mem_append_right _ h))))
  have iw5 : ∀ w ∈ u_ws RX5 TX5 7, w ∈ wsX8_homeOrder := (fun _ h => List.mem_cons_of_mem _ (List.mem_append_left _ (List.mem_append_right _ h)))
  have iw6 : ∀ w ∈ u_ws RX6 TX6 12, w ∈ wsX8_homeOrder := (fun _ h => List.mem_cons_of_mem _ (List.mem_append_right _ h))
  have k0 : (Cond.fieldLink RX8 29 "KingRansom" "now" "LKingRansom$State;").before args s = true := hts _ (List.mem_of_getElem? (i := 1) rfl)
  have k1 : (Cond.fieldLink RX8 19 "KingRansom" "tale" "LKingRansom$Tale;").before args s = true := hts _ (List.mem_of_getElem? (i := 2) rfl)
  have L77 : ∀ (v4 : Int32) (H : Heap) (locs : List Loc) (ls : Array Slot), va_P D vwCl ([(kro, .inr (8, [.ref txo, .ref tlo, .ref dfo, .ref nwo, .ref aho, .ref pao, .ref iaA, .ref sco, .ref bko, .ref spo, .int kr_drawn])), (tlo, .inr (6, [.int tl_stands, .int tl_price, .int tl_death, .int tl_payers, .int tl_bids, .int tl_hostages, .int tl_bags, .int tl_bagMarks, .ref tl_goodsA, .ref tl_shyA, .ref tl_bidOfA, .ref tl_daysOfA])), (tl_goodsA, .inl (κ 0, 6, .inl tl_goods)), (tl_shyA, .inl (κ 0, 6, .inl tl_shy)), (tl_bidOfA, .inl (κ 0, 9, .inl tl_bidOf)), (tl_daysOfA, .inl (κ 0, 6, .inl tl_daysOf)), (nwo, .inr (5, [.int nw_price, .int nw_months, .int nw_chest, .int nw_given, .int nw_fate, .ref nw_goodsA, .ref nw_ratesA])), (nw_goodsA, .inl (κ 0, 6, .inl nw_goods)), (nw_ratesA, .inl (κ 0, 6, .inl nw_rates))]) H → va_D A ([(kro, .inr (8, [.ref txo, .ref tlo, .ref dfo, .ref nwo, .ref aho, .ref pao, .ref iaA, .ref sco, .ref bko, .ref spo, .int kr_drawn])), (tlo, .inr (6, [.int tl_stands, .int tl_price, .int tl_death, .int tl_payers, .int tl_bids, .int tl_hostages, .int tl_bags, .int tl_bagMarks, .ref tl_goodsA, .ref tl_shyA, .ref tl_bidOfA, .ref tl_daysOfA])), (tl_goodsA, .inl (κ 0, 6, .inl tl_goods)), (tl_shyA, .inl (κ 0, 6, .inl tl_shy)), (tl_bidOfA, .inl (κ 0, 9, .inl tl_bidOf)), (tl_daysOfA, .inl (κ 0, 6, .inl tl_daysOf)), (nwo, .inr (5, [.int nw_price, .int nw_months, .int nw_chest, .int nw_given, .int nw_fate, .ref nw_goodsA, .ref nw_ratesA])), (nw_goodsA, .inl (κ 0, 6, .inl nw_goods)), (nw_ratesA, .inl (κ 0, 6, .inl nw_rates))]) → va_S A s.heap H locs → lv_has ls 7 [(1, .int x1), (4, .int v4)] → pX8_homeOrder_L77 x1 v4 = some (r0) → W p l e { frames := 1, cells := 0, slots := 0, locals := 100 } s m args below meth c H locs 0 0 Q (F0 m 77 ls []) := by
    intro v4 H locs ls hP hD hS hl hres
    unfold pX8_homeOrder_L77 at hres
    refine lv_iload_n hx hb dX8_homeOrder_77 rfl (lv_at hl 0 rfl) ?_
    refine lv_iconst (v := (-1)) hx hb dX8_homeOrder_78 (by decide) ?_
    refine lv_icmp_ne (tgt := 87) hx hb dX8_homeOrder_79 (by decide) (fun c9 => ?_) (fun c9 => ?_)
    · replace hres := og_f c9 hres
      refine lv_iconst (v := (-1)) hx hb dX8_homeOrder_87 (by decide) ?_
      have hres := Option.some.inj hres
      have h0 := hres
      subst h0
      exact hret _ _ _ _ (vp_nar_int _) hP hD hS dX8_homeOrder_88
    · replace hres := og_t c9 hres
      refine lv_iload hx hb dX8_homeOrder_82 (lv_at hl 1 rfl) ?_
      refine lv_goto (tgt := 88) hx hb dX8_homeOrder_84 (by decide) ?_
      have hres := Option.some.inj hres
      have h0 := hres
      subst h0
      exact hret _ _ _ _ (vp_nar_int _) hP hD hS dX8_homeOrder_88
  have L16 : ∀ (n16 : Nat) (v2 : Int32) (v3 : Int32) (v4 : Int32) (v5 : Int32) (H : Heap) (locs : List Loc) (ls : Array Slot), va_P D vwCl ([(kro, .inr (8, [.ref txo, .ref tlo, .ref dfo, .ref nwo, .ref aho, .ref pao, .ref iaA, .ref sco, .ref bko, .ref spo, .int kr_drawn])), (tlo, .inr (6, [.int tl_stands, .int tl_price, .int tl_death, .int tl_payers, .int tl_bids, .int tl_hostages, .int tl_bags, .int tl_bagMarks, .ref tl_goodsA, .ref tl_shyA, .ref tl_bidOfA, .ref tl_daysOfA])), (tl_goodsA, .inl (κ 0, 6, .inl tl_goods)), (tl_shyA, .inl (κ 0, 6, .inl tl_shy)), (tl_bidOfA, .inl (κ 0, 9, .inl tl_bidOf)), (tl_daysOfA, .inl (κ 0, 6, .inl tl_daysOf)), (nwo, .inr (5, [.int nw_price, .int nw_months, .int nw_chest, .int nw_given, .int nw_fate, .ref nw_goodsA, .ref nw_ratesA])), (nw_goodsA, .inl (κ 0, 6, .inl nw_goods)), (nw_ratesA, .inl (κ 0, 6, .inl nw_rates))]) H → va_D A ([(kro, .inr (8, [.ref txo, .ref tlo, .ref dfo, .ref nwo, .ref aho, .ref pao, .ref iaA, .ref sco, .ref bko, .ref spo, .int kr_drawn])), (tlo, .inr (6, [.int tl_stands, .int tl_price, .int tl_death, .int tl_payers, .int tl_bids, .int tl_hostages, .int tl_bags, .int tl_bagMarks, .ref tl_goodsA, .ref tl_shyA, .ref tl_bidOfA, .ref tl_daysOfA])), (tl_goodsA, .inl (κ 0, 6, .inl tl_goods)), (tl_shyA, .inl (κ 0, 6, .inl tl_shy)), (tl_bidOfA, .inl (κ 0, 9, .inl tl_bidOf)), (tl_daysOfA, .inl (κ 0, 6, .inl tl_daysOf)), (nwo, .inr (5, [.int nw_price, .int nw_months, .int nw_chest, .int nw_given, .int nw_fate, .ref nw_goodsA, .ref nw_ratesA])), (nw_goodsA, .inl (κ 0, 6, .inl nw_goods)), (nw_ratesA, .inl (κ 0, 6, .inl nw_rates))]) → va_S A s.heap H locs → lv_has ls 7 [(0, .ref kro), (1, .int x1), (2, .int v2), (3, .int v3), (4, .int v4), (5, .int v5)] → pX8_homeOrder_L16 N x1 tl_hostages tl_daysOf n16 v2 v3 v4 v5 = some (r0) → W p l e { frames := 1, cells := 0, slots := 0, locals := 100 } s m args below meth c H locs 0 0 Q (F0 m 16 ls []) := by
    intro n16
    induction n16 with
    | zero =>
      intro v2 v3 v4 v5 H locs ls hP hD hS hl hres
      exact absurd (show none = some _ from hres) (by simp)
    | succ n16 ih16 =>
      intro v2 v3 v4 v5 H locs ls hP hD hS hl hres
      rw [pX8_homeOrder_L16] at hres
      refine lv_iload hx hb dX8_homeOrder_16 (lv_at hl 5 rfl) ?_
      refine lv_bipush (v := 6) hx hb dX8_homeOrder_18 (by decide) ?_
      refine lv_icmp_ge (tgt := 77) hx hb dX8_homeOrder_20 (by decide) (fun c1 => ?_) (fun c1 => ?_)
      · replace hres := og_t c1 hres
        exact L77 v4 _ _ _ hP hD hS (lv_sub hl [1, 4] rfl) hres
      · replace hres := og_f c1 hres
        refine lv_iload_n hx hb dX8_homeOrder_23 rfl (lv_at hl 2 rfl) ?_
        refine lv_if_eq (tgt := 77) hx hb dX8_homeOrder_24 (by decide) (fun c2 => ?_) (fun c2 => ?_)
        · replace hres := og_t c2 hres
          exact L77 v4 _ _ _ hP hD hS (lv_sub hl [1, 4] rfl) hres
        · replace hres := og_f c2 hres
          refine lv_aload_n hx hb dX8_homeOrder_27 rfl (lv_at hl 0 rfl) ?_
          refine lv_iload_n hx hb dX8_homeOrder_28 rfl (lv_at hl 2 rfl) ?_
          obtain ⟨r3, hc4, hres⟩ := kb1_s hres
          refine krI_V (As := [.int v2]) (rest := []) (wr := [(nwo, .inr (5, [.int nw_price, .int nw_months, .int nw_chest, .int nw_given, .int nw_fate, .ref nw_goodsA, .ref nw_ratesA])), (nw_goodsA, .inl (κ 0, 6, .inl nw_goods)), (nw_ratesA, .inl (κ 0, 6, .inl nw_rates))]) ⟨hx, hb, hml, hown, hts⟩ hK (tX8_soonest l D κ kro txo tlo dfo nwo aho pao iaA sco bko spo tl_goodsA tl_shyA tl_bidOfA tl_daysOfA N kr_drawn tl_stands tl_price tl_death tl_payers tl_bids tl_hostages tl_bags tl_bagMarks tl_goods tl_shy tl_bidOf tl_daysOf v2 r3 hc4) (cwV 1 hts gX8_homeOrder_X8_soonest rfl rfl rfl (by decide +kernel) ⟨(Nat.le_of_ble_eq_true rfl), (Nat.le_of_ble_eq_true rfl)⟩) rfl rfl rfl hP hD hS hA [0, 1, 2, 3, 4, 5] [6, 7, 8] rfl rfl rfl rfl (by decide) rfl hl.1 rfl (Nat.le_of_ble_eq_true rfl) dX8_homeOrder_29 ⟨Nat.zero_le _, Nat.zero_le _⟩ (fun H locs hP hD hS => ?_)
          have hP : va_P D vwCl ([(nwo, .inr (5, [.int nw_price, .int nw_months, .int nw_chest, .int nw_given, .int nw_fate, .ref nw_goodsA, .ref nw_ratesA])), (nw_goodsA, .inl (κ 0, 6, .inl nw_goods)), (nw_ratesA, .inl (κ 0, 6, .inl nw_rates)), (kro, .inr (8, [.ref txo, .ref tlo, .ref dfo, .ref nwo, .ref aho, .ref pao, .ref iaA, .ref sco, .ref bko, .ref spo, .int kr_drawn])), (tlo, .inr (6, [.int tl_stands, .int tl_price, .int tl_death, .int tl_payers, .int tl_bids, .int tl_hostages, .int tl_bags, .int tl_bagMarks, .ref tl_goodsA, .ref tl_shyA, .ref tl_bidOfA, .ref tl_daysOfA])), (tl_goodsA, .inl (κ 0, 6, .inl tl_goods)), (tl_shyA, .inl (κ 0, 6, .inl tl_shy)), (tl_bidOfA, .inl (κ 0, 9, .inl tl_bidOf)), (tl_daysOfA, .inl (κ 0, 6, .inl tl_daysOf))]) H := hP
          have hD : va_D A ([(nwo, .inr (5, [.int nw_price, .int nw_months, .int nw_chest, .int nw_given, .int nw_fate, .ref nw_goodsA, .ref nw_ratesA])), (nw_goodsA, .inl (κ 0, 6, .inl nw_goods)), (nw_ratesA, .inl (κ 0, 6, .inl nw_rates)), (kro, .inr (8, [.ref txo, .ref tlo, .ref dfo, .ref nwo, .ref aho, .ref pao, .ref iaA, .ref sco, .ref bko, .ref spo, .int kr_drawn])), (tlo, .inr (6, [.int tl_stands, .int tl_price, .int tl_death, .int tl_payers, .int tl_bids, .int tl_hostages, .int tl_bags, .int tl_bagMarks, .ref tl_goodsA, .ref tl_shyA, .ref tl_bidOfA, .ref tl_daysOfA])), (tl_goodsA, .inl (κ 0, 6, .inl tl_goods)), (tl_shyA, .inl (κ 0, 6, .inl tl_shy)), (tl_bidOfA, .inl (κ 0, 9, .inl tl_bidOf)), (tl_daysOfA, .inl (κ 0, 6, .inl tl_daysOf))]) := hD
          refine lv_istore (lv' := [(6, .int r3), (0, .ref kro), (1, .int x1), (2, .int v2), (3, .int v3), (4, .int v4), (5, .int v5)]) hx hb dX8_homeOrder_32 hl (by decide) rfl (fun ls hl => ?_)
          refine lv_iload hx hb dX8_homeOrder_34 (lv_at hl 6 rfl) ?_
          refine lv_iload_n hx hb dX8_homeOrder_36 rfl (lv_at hl 2 rfl) ?_
          refine lv_icmp_ne (tgt := 43) hx hb dX8_homeOrder_37 (by decide) (fun c5 => ?_) (fun c5 => ?_)
          · replace hres := og_f c5 hres
            refine lv_iload_n hx hb dX8_homeOrder_43 rfl (lv_at hl 4 rfl) ?_
            refine lv_aload_n hx hb dX8_homeOrder_44 rfl (lv_at hl 1 rfl) ?_
            refine va_get (D := D) (ci := 8) (v := .ref tlo) (C := RX8) (T := TX8) (N := 11) hx hb hts iw8 hown hK.1 hP 3 rfl rfl 1 (by decide) k1 (fun _ h9 => h9) rfl dX8_homeOrder_45 ?_
            refine va_getN (D := D) (ci := 6) (v := .ref tl_daysOfA) (C := RX6) (T := TX6) (N := 12) hx hb hts iw6 hown hK.1 hP 4 rfl rfl 11 (by decide) (hK.fl 28 rfl) (fun _ h9 => h9) rfl dX8_homeOrder_48 ?_
            refine lv_iload hx hb dX8_homeOrder_51 (lv_at hl 0 rfl) ?_
            obtain ⟨g6, hres⟩ := og_no hres
            refine kr_iald (f := tl_daysOf) (j := r3.toNatClampNeg) hx hb hK hP 8 rfl g6 rfl dX8_homeOrder_53 ?_
            refine lv_iadd hx hb dX8_homeOrder_54 ?_
            obtain ⟨y7, ey7, hres⟩ := kl_s hres
            refine kr_tope ey7 ?_
            refine lv_istore_n (lv' := [(3, .int y7), (6, .int r3), (0, .ref kro), (1, .int x1), (2, .int v2), (4, .int v4), (5, .int v5)]) hx hb dX8_homeOrder_55 rfl hl (by decide) rfl (fun ls hl => ?_)
            refine lv_iload hx hb dX8_homeOrder_56 (lv_at hl 5 rfl) ?_
            refine lv_iload_n hx hb dX8_homeOrder_58 rfl (lv_at hl 0 rfl) ?_
            refine lv_iadd hx hb dX8_homeOrder_59 ?_
            refine lv_istore (lv' := [(4, .int (v4 + y7)), (3, .int y7), (6, .int r3), (0, .ref kro), (1, .int x1), (2, .int v2), (5, .int v5)]) hx hb dX8_homeOrder_60 hl (by decide) rfl (fun ls hl => ?_)
            refine lv_iload_n hx hb dX8_homeOrder_62 rfl (lv_at hl 5 rfl) ?_
            refine lv_iconst (v := 1) hx hb dX8_homeOrder_63 (by decide) ?_
            refine lv_iload hx hb dX8_homeOrder_64 (lv_at hl 2 rfl) ?_
            refine lv_ishl hx hb dX8_homeOrder_66 ?_
            refine lv_iconst (v := (-1)) hx hb dX8_homeOrder_67 (by decide) ?_
            refine lv_ixor hx hb dX8_homeOrder_68 ?_
            refine lv_iand hx hb dX8_homeOrder_69 ?_
            obtain ⟨y8, ey8, hres⟩ := kl_s hres
            refine kr_tope ey8 ?_
            refine lv_istore_n (lv' := [(2, .int y8), (4, .int (v4 + y7)), (3, .int y7), (6, .int r3), (0, .ref kro), (1, .int x1), (5, .int v5)]) hx hb dX8_homeOrder_70 rfl hl (by decide) rfl (fun ls hl => ?_)
            refine lv_iinc (v := (v5 + 1)) (lv' := [(5, .int (v5 + 1)), (2, .int y8), (4, .int (v4 + y7)), (3, .int y7), (6, .int r3), (0, .ref kro), (1, .int x1)]) hx hb dX8_homeOrder_71 hl (k := 6) rfl rfl (by decide) rfl (fun ls hl => ?_)
            refine lv_goto (tgt := 16) hx hb dX8_homeOrder_74 (by decide) ?_
            exact ih16 y8 y7 (v4 + y7) (v5 + 1) _ _ _ (hP.sub [3, 4, 5, 6, 7, 8, 0, 1, 2] rfl) (hD.sub [3, 4, 5, 6, 7, 8, 0, 1, 2] (by decide) rfl) hS (lv_sub hl [5, 6, 1, 3, 2, 0] rfl) hres
          · replace hres := og_t c5 hres
            refine lv_iload hx hb dX8_homeOrder_40 (lv_at hl 0 rfl) ?_
            have hres := Option.some.inj hres
            have h0 := hres
            subst h0
            exact hret _ _ _ _ (vp_nar_int _) (hP.sub [3, 4, 5, 6, 7, 8, 0, 1, 2] rfl) (hD.sub [3, 4, 5, 6, 7, 8, 0, 1, 2] (by decide) rfl) hS dX8_homeOrder_42
  unfold pX8_homeOrder at hres
  refine lv_aload_n hx hb dX8_homeOrder_0 rfl (lv_at hl 0 rfl) ?_
  refine va_get (D := D) (ci := 8) (v := .ref nwo) (C := RX8) (T := TX8) (N := 11) hx hb hts iw8 hown hK.1 hP 0 rfl rfl 3 (by decide) k0 (fun _ h9 => h9) rfl dX8_homeOrder_1 ?_
  refine va_getN (D := D) (ci := 5) (v := .int nw_given) (C := RX5) (T := TX5) (N := 7) hx hb hts iw5 hown hK.1 hP 6 rfl rfl 3 (by decide) (hK.fl 32 rfl) (fun _ h9 => h9) rfl dX8_homeOrder_4 ?_
  refine lv_istore_n (lv' := [(2, .int nw_given), (0, .ref kro), (1, .int x1)]) hx hb dX8_homeOrder_7 rfl hl (by decide) rfl (fun ls hl => ?_)
  refine lv_iconst (v := 0) hx hb dX8_homeOrder_8 (by decide) ?_
  refine lv_istore_n (lv' := [(3, .int 0), (2, .int nw_given), (0, .ref kro), (1, .int x1)]) hx hb dX8_homeOrder_9 rfl hl (by decide) rfl (fun ls hl => ?_)
  refine lv_iconst (v := 0) hx hb dX8_homeOrder_10 (by decide) ?_
  refine lv_istore (lv' := [(4, .int 0), (3, .int 0), (2, .int nw_given), (0, .ref kro), (1, .int x1)]) hx hb dX8_homeOrder_11 hl (by decide) rfl (fun ls hl => ?_)
  refine lv_iconst (v := 0) hx hb dX8_homeOrder_13 (by decide) ?_
  refine lv_istore (lv' := [(5, .int 0), (4, .int 0), (3, .int 0), (2, .int nw_given), (0, .ref kro), (1, .int x1)]) hx hb dX8_homeOrder_14 hl (by decide) rfl (fun ls hl => ?_)
  exact L16 N nw_given 0 0 0 _ _ _ hP hD hS (lv_sub hl [4, 5, 3, 2, 1, 0] rfl) hres
