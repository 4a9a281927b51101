def pX4_find_L37 (N : Nat) (sp_tried : Nat → Int32) (sp_best : Nat → Int32) (st_goods : Nat → Int32) (tl_shy : Nat → Int32) : Nat → Int32 → (Nat → Int32) → (Nat → Int32) → (Nat → Int32) → Int32 → Int32 → Int32 → Option (Int32 × (Nat → Int32) × (Nat → Int32) × (Nat → Int32) × (Nat → Int32) × (Nat → Int32) × Int32 × Int32 × Int32)
  | 0, _, _, _, _, _, _, _ => none
  | n37 + 1, v4, w_sp_paid, w_sp_hidden, w_sp_mostFrom, w_sp_payers, w_sp_much, w_sp_leastHidden =>
    (if v4 < 0 then
    kb3 (pX4_tryFrom N w_sp_paid w_sp_hidden w_sp_mostFrom w_sp_payers w_sp_much 8 0 0 0 sp_tried sp_best w_sp_leastHidden) fun w3 w4 w5 =>
    (if w5 = 1000000000 then
    some (0, w_sp_paid, w_sp_hidden, w_sp_mostFrom, w3, w4, w_sp_payers, w_sp_much, w5)
    else
    some (1, w_sp_paid, w_sp_hidden, w_sp_mostFrom, w3, w4, w_sp_payers, w_sp_much, w5))
    else
    if (v4 + 1) < 0 ∨ 7 ≤ (v4 + 1).toNatClampNeg then none else
    if v4 < 0 ∨ 6 ≤ v4.toNatClampNeg then none else
    kb3 (pX4_layOut N v4 (st_goods v4.toNatClampNeg) (tl_shy v4.toNatClampNeg) w_sp_paid w_sp_hidden) fun r10 w11 w12 =>
    kl ((w_sp_mostFrom ((v4 + 1).toNatClampNeg)) + r10) fun y14 =>
    if v4 < 0 ∨ 7 ≤ v4.toNatClampNeg then none else
    pX4_find_L37 N sp_tried sp_best st_goods tl_shy n37 (v4 + (-1)) w11 w12 (upd w_sp_mostFrom v4.toNatClampNeg y14) w_sp_payers w_sp_much w_sp_leastHidden)
def pX4_find (N : Nat) (x3 : Int32) (sp_paid : Nat → Int32) (sp_hidden : Nat → Int32) (sp_mostFrom : Nat → Int32) (sp_tried : Nat → Int32) (sp_best : Nat → Int32) (st_goods : Nat → Int32) (tl_payers : Int32) (tl_shy : Nat → Int32) : Option (Int32 × (Nat → Int32) × (Nat → Int32) × (Nat → Int32) × (Nat → Int32) × (Nat → Int32) × Int32 × Int32 × Int32) :=
    if tl_payers < 0 ∨ 7 ≤ tl_payers.toNatClampNeg then none else
    pX4_find_L37 N sp_tried sp_best st_goods tl_shy N (tl_payers - 1) sp_paid sp_hidden (upd sp_mostFrom tl_payers.toNatClampNeg 0) tl_payers x3 1000000000
set_option maxHeartbeats 8000000 in
set_option maxRecDepth 100000 in
theorem tX4_find (l : Launch) (D : va_G) (κ : Nat → ClassId) (spo : Nat) (sp_paidA : Nat) (sp_hiddenA : Nat) (sp_mostFromA : Nat) (sp_triedA : Nat) (sp_bestA : Nat) (sto : Nat) (st_goodsA : Nat) (st_ratesA : Nat) (tlo : Nat) (tl_goodsA : Nat) (tl_shyA : Nat) (tl_bidOfA : Nat) (tl_daysOfA : Nat) (N : Nat) (sp_paid : Nat → Int32) (sp_hidden : Nat → Int32) (sp_mostFrom : Nat → Int32) (sp_tried : Nat → Int32) (sp_best : Nat → Int32) (sp_payers : Int32) (sp_much : Int32) (sp_leastHidden : Int32) (st_price : Int32) (st_months : Int32) (st_chest : Int32) (st_given : Int32) (st_fate : Int32) (st_goods : Nat → Int32) (st_rates : Nat → Int32) (tl_stands : Int32) (tl_price : Int32) (tl_death : Int32) (tl_payers : Int32) (tl_bids : Int32) (tl_hostages : Int32) (tl_bags : Int32) (tl_bagMarks : Int32) (tl_goods : Nat → Int32) (tl_shy : Nat → Int32) (tl_bidOf : Nat → Int32) (tl_daysOf : Nat → Int32) (x3 : Int32) (r0 : Int32) (z_sp_paid : Nat → Int32) (z_sp_hidden : Nat → Int32) (z_sp_mostFrom : Nat → Int32) (z_sp_tried : Nat → Int32) (z_sp_best : Nat → Int32) (z_sp_payers : Int32) (z_sp_much : Int32) (z_sp_leastHidden : Int32) (hres : pX4_find N x3 sp_paid sp_hidden sp_mostFrom sp_tried sp_best st_goods tl_payers tl_shy = some (r0, z_sp_paid, z_sp_hidden, z_sp_mostFrom, z_sp_tried, z_sp_best, z_sp_payers, z_sp_much, z_sp_leastHidden)) : krI l yX4_find wsX4_find { frames := 9, cells := 0, slots := 0, locals := 900 } D κ [.ref spo, .ref sto, .ref tlo, .int x3] ([(spo, .inr (4, [.ref sp_paidA, .ref sp_hiddenA, .ref sp_mostFromA, .ref sp_triedA, .ref sp_bestA, .int sp_payers, .int sp_much, .int sp_leastHidden])), (sp_paidA, .inl (κ 0, 30, .inl sp_paid)), (sp_hiddenA, .inl (κ 0, 30, .inl sp_hidden)), (sp_mostFromA, .inl (κ 0, 7, .inl sp_mostFrom)), (sp_triedA, .inl (κ 0, 6, .inl sp_tried)), (sp_bestA, .inl (κ 0, 6, .inl sp_best)), (sto, .inr (5, [.int st_price, .int st_months, .int st_chest, .int st_given, .int st_fate, .ref st_goodsA, .ref st_ratesA])), (st_goodsA, .inl (κ 0, 6, .inl st_goods)), (st_ratesA, .inl (κ 0, 6, .inl st_rates)), (tlo, .inr (6, [.int tl_stands, .int tl_price, .int tl_death, .int tl_payers, .int tl_bids, .int tl_hostages, .int tl_bags, .int tl_bagMarks, .ref tl_goodsA, .ref tl_shyA, .ref tl_bidOfA, .ref tl_daysOfA])), (tl_goodsA, .inl (κ 0, 6, .inl tl_goods)), (tl_shyA, .inl (κ 0, 6, .inl tl_shy)), (tl_bidOfA, .inl (κ 0, 9, .inl tl_bidOf)), (tl_daysOfA, .inl (κ 0, 6, .inl tl_daysOf))]) ([(spo, .inr (4, [.ref sp_paidA, .ref sp_hiddenA, .ref sp_mostFromA, .ref sp_triedA, .ref sp_bestA, .int z_sp_payers, .int z_sp_much, .int z_sp_leastHidden])), (sp_paidA, .inl (κ 0, 30, .inl z_sp_paid)), (sp_hiddenA, .inl (κ 0, 30, .inl z_sp_hidden)), (sp_mostFromA, .inl (κ 0, 7, .inl z_sp_mostFrom)), (sp_triedA, .inl (κ 0, 6, .inl z_sp_tried)), (sp_bestA, .inl (κ 0, 6, .inl z_sp_best)), (sto, .inr (5, [.int st_price, .int st_months, .int st_chest, .int st_given, .int st_fate, .ref st_goodsA, .ref st_ratesA])), (st_goodsA, .inl (κ 0, 6, .inl st_goods)), (st_ratesA, .inl (κ 0, 6, .inl st_rates)), (tlo, .inr (6, [.int tl_stands, .int tl_price, .int tl_death, .int tl_payers, .int tl_bids, .int tl_hostages, .int tl_bags, .int tl_bagMarks, .ref tl_goodsA, .ref tl_shyA, .ref tl_bidOfA, .ref tl_daysOfA])), (tl_goodsA, .inl (κ 0, 6, .inl tl_goods)), (tl_shyA, .inl (κ 0, 6, .inl tl_shy)), (tl_bidOfA, .inl (κ 0, 9, .inl tl_bidOf)), (tl_daysOfA, .inl (κ 0, 6, .inl tl_daysOf))]) r0 := by
  refine krI_of (cc := cX4_find) (maxL := 5) (rt := .boolean) (by decide) rfl (Nat.le_of_ble_eq_true rfl) ?_
  intro p e s m args below meth c A Q ls hx hb hml hown hts hK hA hret hP hD hS hl
  have hown : s.vm.findClass RX4 = some m.cls := hown
  have hl : lv_has ls 5 [(0, .ref spo), (1, .ref sto), (2, .ref tlo), (3, .int x3)] := hl
  have iw6 : ∀ w ∈ u_ws RX6 TX6 12, w ∈ wsX4_find := (fun _ h => List.mem_cons_of_mem _ (List.mem_append_left _ (List.mem_append_left _ (List.mem_append_right _ h))))
  have iw4 : ∀ w ∈ u_ws RX4 TX4 8, w ∈ wsX4_find := (fun _ h => List.mem_cons_of_mem _ (List.mem_append_left _ (List.mem_append_right _ h)))
  have iw5 : ∀ w ∈ u_ws RX5 TX5 7, w ∈ wsX4_find := (fun _ h => List.mem_cons_of_mem _ (List.mem_append_right _ h))
  have k0 : (Cond.fieldLink RX4 33 "KingRansom$Spreading" "payers" "I").before args s = true := hts _ (List.mem_of_getElem? (i := 1) rfl)
  have k1 : (Cond.fieldLink RX4 34 "KingRansom$Spreading" "much" "I").before args s = true := hts _ (List.mem_of_getElem? (i := 2) rfl)
  have k2 : (Cond.constant RX4 37 (1000000000)).before args s = true := hts _ (List.mem_of_getElem? (i := 3) rfl)
  have k3 : (Cond.fieldLink RX4 38 "KingRansom$Spreading" "leastHidden" "I").before args s = true := hts _ (List.mem_of_getElem? (i := 4) rfl)
  have k4 : (Cond.fieldLink RX4 18 "KingRansom$Spreading" "mostFrom" "[I").before args s = true := hts _ (List.mem_of_getElem? (i := 5) rfl)
  have L37 : ∀ (n37 : Nat) (v4 : Int32) (w_sp_paid : Nat → Int32) (w_sp_hidden : Nat → Int32) (w_sp_mostFrom : Nat → Int32) (w_sp_payers : Int32) (w_sp_much : Int32) (w_sp_leastHidden : Int32) (H : Heap) (locs : List Loc) (ls : Array Slot), va_P D vwCl ([(spo, .inr (4, [.ref sp_paidA, .ref sp_hiddenA, .ref sp_mostFromA, .ref sp_triedA, .ref sp_bestA, .int w_sp_payers, .int w_sp_much, .int w_sp_leastHidden])), (sp_paidA, .inl (κ 0, 30, .inl w_sp_paid)), (sp_hiddenA, .inl (κ 0, 30, .inl w_sp_hidden)), (sp_mostFromA, .inl (κ 0, 7, .inl w_sp_mostFrom)), (sp_triedA, .inl (κ 0, 6, .inl sp_tried)), (sp_bestA, .inl (κ 0, 6, .inl sp_best)), (sto, .inr (5, [.int st_price, .int st_months, .int st_chest, .int st_given, .int st_fate, .ref st_goodsA, .ref st_ratesA])), (st_goodsA, .inl (κ 0, 6, .inl st_goods)), (st_ratesA, .inl (κ 0, 6, .inl st_rates)), (tlo, .inr (6, [.int tl_stands, .int tl_price, .int tl_death, .int tl_payers, .int tl_bids, .int tl_hostages, .int tl_bags, .int tl_bagMarks, .ref tl_goodsA, .ref tl_shyA, .ref tl_bidOfA, .ref tl_daysOfA])), (tl_goodsA, .inl (κ 0, 6, .inl tl_goods)), (tl_shyA, .inl (κ 0, 6, .inl tl_shy)), (tl_bidOfA, .inl (κ 0, 9, .inl tl_bidOf)), (tl_daysOfA, .inl (κ 0, 6, .inl tl_daysOf))]) H → va_D A ([(spo, .inr (4, [.ref sp_paidA, .ref sp_hiddenA, .ref sp_mostFromA, .ref sp_triedA, .ref sp_bestA, .int w_sp_payers, .int w_sp_much, .int w_sp_leastHidden])), (sp_paidA, .inl (κ 0, 30, .inl w_sp_paid)), (sp_hiddenA, .inl (κ 0, 30, .inl w_sp_hidden)), (sp_mostFromA, .inl (κ 0, 7, .inl w_sp_mostFrom)), (sp_triedA, .inl (κ 0, 6, .inl sp_tried)), (sp_bestA, .inl (κ 0, 6, .inl sp_best)), (sto, .inr (5, [.int st_price, .int st_months, .int st_chest, .int st_given, .int st_fate, .ref st_goodsA, .ref st_ratesA])), (st_goodsA, .inl (κ 0, 6, .inl st_goods)), (st_ratesA, .inl (κ 0, 6, .inl st_rates)), (tlo, .inr (6, [.int tl_stands, .int tl_price, .int tl_death, .int tl_payers, .int tl_bids, .int tl_hostages, .int tl_bags, .int tl_bagMarks, .ref tl_goodsA, .ref tl_shyA, .ref tl_bidOfA, .ref tl_daysOfA])), (tl_goodsA, .inl (κ 0, 6, .inl tl_goods)), (tl_shyA, .inl (κ 0, 6, .inl tl_shy)), (tl_bidOfA, .inl (κ 0, 9, .inl tl_bidOf)), (tl_daysOfA, .inl (κ 0, 6, .inl tl_daysOf))]) → va_S A s.heap H locs → lv_has ls 5 [(0, .ref spo), (1, .ref sto), (2, .ref tlo), (4, .int v4)] → pX4_find_L37 N sp_tried sp_best st_goods tl_shy n37 v4 w_sp_paid w_sp_hidden w_sp_mostFrom w_sp_payers w_sp_much w_sp_leastHidden = some (r0, z_sp_paid, z_sp_hidden, z_sp_mostFrom, z_sp_tried, z_sp_best, z_sp_payers, z_sp_much, z_sp_leastHidden) → W p l e { frames := 9, cells := 0, slots := 0, locals := 900 } s m args below meth c H locs 0 0 Q (F0 m 37 ls []) := by
    intro n37
    induction n37 with
    | zero =>
      intro v4 w_sp_paid w_sp_hidden w_sp_mostFrom w_sp_payers w_sp_much w_sp_leastHidden H locs ls hP hD hS hl hres
      exact absurd (show none = some _ from hres) (by simp)
    | succ n37 ih37 =>
      intro v4 w_sp_paid w_sp_hidden w_sp_mostFrom w_sp_payers w_sp_much w_sp_leastHidden H locs ls hP hD hS hl hres
      rw [pX4_find_L37] at hres
      refine lv_iload hx hb dX4_find_37 (lv_at hl 3 rfl) ?_
      refine lv_if_lt (tgt := 85) hx hb dX4_find_39 (by decide) (fun c2 => ?_) (fun c2 => ?_)
      · replace hres := og_t c2 hres
        refine lv_aload_n hx hb dX4_find_85 rfl (lv_at hl 0 rfl) ?_
        refine lv_iconst (v := 0) hx hb dX4_find_86 (by decide) ?_
        refine lv_iconst (v := 0) hx hb dX4_find_87 (by decide) ?_
        refine lv_iconst (v := 0) hx hb dX4_find_88 (by decide) ?_
        obtain ⟨w3, w4, w5, hc6, hres⟩ := kb3_s hres
        refine krV_V (As := [.int 0, .int 0, .int 0]) (rest := []) (wr := [(sto, .inr (5, [.int st_price, .int st_months, .int st_chest, .int st_given, .int st_fate, .ref st_goodsA, .ref st_ratesA])), (st_goodsA, .inl (κ 0, 6, .inl st_goods)), (st_ratesA, .inl (κ 0, 6, .inl st_rates)), (tlo, .inr (6, [.int tl_stands, .int tl_price, .int tl_death, .int tl_payers, .int tl_bids, .int tl_hostages, .int tl_bags, .int tl_bagMarks, .ref tl_goodsA, .ref tl_shyA, .ref tl_bidOfA, .ref tl_daysOfA])), (tl_goodsA, .inl (κ 0, 6, .inl tl_goods)), (tl_shyA, .inl (κ 0, 6, .inl tl_shy)), (tl_bidOfA, .inl (κ 0, 9, .inl tl_bidOf)), (tl_daysOfA, .inl (κ 0, 6, .inl tl_daysOf))]) ⟨hx, hb, hml, hown, hts⟩ hK (tX4_tryFrom l D κ spo sp_paidA sp_hiddenA sp_mostFromA sp_triedA sp_bestA N w_sp_paid w_sp_hidden w_sp_mostFrom w_sp_payers w_sp_much 8 sp_tried sp_best w_sp_leastHidden 0 0 0 w3 w4 w5 hc6) (cwV 3 hts gX4_find_X4_tryFrom rfl rfl rfl (by decide +kernel) ⟨(Nat.le_of_ble_eq_true rfl), (Nat.le_of_ble_eq_true rfl)⟩) rfl rfl rfl hP hD hS hA [0, 1, 2, 3, 4, 5] [6, 7, 8, 9, 10, 11, 12, 13] rfl rfl rfl rfl (by decide) rfl hl.1 rfl (Nat.le_of_ble_eq_true rfl) dX4_find_89 ⟨Nat.zero_le _, Nat.zero_le _⟩ (fun H locs hP hD hS => ?_)
        have hP : va_P D vwCl ([(sto, .inr (5, [.int st_price, .int st_months, .int st_chest, .int st_given, .int st_fate, .ref st_goodsA, .ref st_ratesA])), (st_goodsA, .inl (κ 0, 6, .inl st_goods)), (st_ratesA, .inl (κ 0, 6, .inl st_rates)), (tlo, .inr (6, [.int tl_stands, .int tl_price, .int tl_death, .int tl_payers, .int tl_bids, .int tl_hostages, .int tl_bags, .int tl_bagMarks, .ref tl_goodsA, .ref tl_shyA, .ref tl_bidOfA, .ref tl_daysOfA])), (tl_goodsA, .inl (κ 0, 6, .inl tl_goods)), (tl_shyA, .inl (κ 0, 6, .inl tl_shy)), (tl_bidOfA, .inl (κ 0, 9, .inl tl_bidOf)), (tl_daysOfA, .inl (κ 0, 6, .inl tl_daysOf)), (spo, .inr (4, [.ref sp_paidA, .ref sp_hiddenA, .ref sp_mostFromA, .ref sp_triedA, .ref sp_bestA, .int w_sp_payers, .int w_sp_much, .int w5])), (sp_paidA, .inl (κ 0, 30, .inl w_sp_paid)), (sp_hiddenA, .inl (κ 0, 30, .inl w_sp_hidden)), (sp_mostFromA, .inl (κ 0, 7, .inl w_sp_mostFrom)), (sp_triedA, .inl (κ 0, 6, .inl w3)), (sp_bestA, .inl (κ 0, 6, .inl w4))]) H := hP
        have hD : va_D A ([(sto, .inr (5, [.int st_price, .int st_months, .int st_chest, .int st_given, .int st_fate, .ref st_goodsA, .ref st_ratesA])), (st_goodsA, .inl (κ 0, 6, .inl st_goods)), (st_ratesA, .inl (κ 0, 6, .inl st_rates)), (tlo, .inr (6, [.int tl_stands, .int tl_price, .int tl_death, .int tl_payers, .int tl_bids, .int tl_hostages, .int tl_bags, .int tl_bagMarks, .ref tl_goodsA, .ref tl_shyA, .ref tl_bidOfA, .ref tl_daysOfA])), (tl_goodsA, .inl (κ 0, 6, .inl tl_goods)), (tl_shyA, .inl (κ 0, 6, .inl tl_shy)), (tl_bidOfA, .inl (κ 0, 9, .inl tl_bidOf)), (tl_daysOfA, .inl (κ 0, 6, .inl tl_daysOf)), (spo, .inr (4, [.ref sp_paidA, .ref sp_hiddenA, .ref sp_mostFromA, .ref sp_triedA, .ref sp_bestA, .int w_sp_payers, .int w_sp_much, .int w5])), (sp_paidA, .inl (κ 0, 30, .inl w_sp_paid)), (sp_hiddenA, .inl (κ 0, 30, .inl w_sp_hidden)), (sp_mostFromA, .inl (κ 0, 7, .inl w_sp_mostFrom)), (sp_triedA, .inl (κ 0, 6, .inl w3)), (sp_bestA, .inl (κ 0, 6, .inl w4))]) := hD
        refine lv_aload_n hx hb dX4_find_92 rfl (lv_at hl 0 rfl) ?_
        refine va_get (D := D) (ci := 4) (v := .int w5) (C := RX4) (T := TX4) (N := 8) hx hb hts iw4 hown hK.1 hP 8 rfl rfl 7 (by decide) k3 (fun _ h9 => h9) rfl dX4_find_93 ?_
        refine lv_ldc (v := 1000000000) hx hb hown k2 dX4_find_96 ?_
        refine lv_icmp_eq (tgt := 105) hx hb dX4_find_98 (by decide) (fun c7 => ?_) (fun c7 => ?_)
        · replace hres := og_t c7 hres
          refine lv_iconst (v := 0) hx hb dX4_find_105 (by decide) ?_
          have hres := Option.some.inj hres
          have h0 := (Prod.mk.inj hres).1
          replace hres := (Prod.mk.inj hres).2
          have h1 := (Prod.mk.inj hres).1
          replace hres := (Prod.mk.inj hres).2
          have h2 := (Prod.mk.inj hres).1
          replace hres := (Prod.mk.inj hres).2
          have h3 := (Prod.mk.inj hres).1
          replace hres := (Prod.mk.inj hres).2
          have h4 := (Prod.mk.inj hres).1
          replace hres := (Prod.mk.inj hres).2
          have h5 := (Prod.mk.inj hres).1
          replace hres := (Prod.mk.inj hres).2
          have h6 := (Prod.mk.inj hres).1
          replace hres := (Prod.mk.inj hres).2
          have h7 := (Prod.mk.inj hres).1
          replace hres := (Prod.mk.inj hres).2
          have h8 := hres
          subst h0
          subst h1
          subst h2
          subst h3
          subst h4
          subst h5
          subst h6
          subst h7
          subst h8
          exact hret _ _ _ _ (by decide) (hP.sub [8, 9, 10, 11, 12, 13, 0, 1, 2, 3, 4, 5, 6, 7] rfl) (hD.sub [8, 9, 10, 11, 12, 13, 0, 1, 2, 3, 4, 5, 6, 7] (by decide) rfl) hS dX4_find_106
        · replace hres := og_f c7 hres
          refine lv_iconst (v := 1) hx hb dX4_find_101 (by decide) ?_
          refine lv_goto (tgt := 106) hx hb dX4_find_102 (by decide) ?_
          have hres := Option.some.inj hres
          have h0 := (Prod.mk.inj hres).1
          replace hres := (Prod.mk.inj hres).2
          have h1 := (Prod.mk.inj hres).1
          replace hres := (Prod.mk.inj hres).2
          have h2 := (Prod.mk.inj hres).1
          replace hres := (Prod.mk.inj hres).2
          have h3 := (Prod.mk.inj hres).1
          replace hres := (Prod.mk.inj hres).2
          have h4 := (Prod.mk.inj hres).1
          replace hres := (Prod.mk.inj hres).2
          have h5 := (Prod.mk.inj hres).1
          replace hres := (Prod.mk.inj hres).2
          have h6 := (Prod.mk.inj hres).1
          replace hres := (Prod.mk.inj hres).2
          have h7 := (Prod.mk.inj hres).1
          replace hres := (Prod.mk.inj hres).2
          have h8 := hres
          subst h0
          subst h1
          subst h2
          subst h3
          subst h4
          subst h5
          subst h6
          subst h7
          subst h8
          exact hret _ _ _ _ (by decide) (hP.sub [8, 9, 10, 11, 12, 13, 0, 1, 2, 3, 4, 5, 6, 7] rfl) (hD.sub [8, 9, 10, 11, 12, 13, 0, 1, 2, 3, 4, 5, 6, 7] (by decide) rfl) hS dX4_find_106
      · replace hres := og_f c2 hres
        refine lv_aload_n hx hb dX4_find_42 rfl (lv_at hl 0 rfl) ?_
        refine va_get (D := D) (ci := 4) (v := .ref sp_mostFromA) (C := RX4) (T := TX4) (N := 8) hx hb hts iw4 hown hK.1 hP 0 rfl rfl 2 (by decide) k4 (fun _ h9 => h9) rfl dX4_find_43 ?_
        refine lv_iload hx hb dX4_find_46 (lv_at hl 3 rfl) ?_
        refine lv_aload_n hx hb dX4_find_48 rfl (lv_at hl 0 rfl) ?_
        refine va_get (D := D) (ci := 4) (v := .ref sp_mostFromA) (C := RX4) (T := TX4) (N := 8) hx hb hts iw4 hown hK.1 hP 0 rfl rfl 2 (by decide) k4 (fun _ h9 => h9) rfl dX4_find_49 ?_
        refine lv_iload hx hb dX4_find_52 (lv_at hl 3 rfl) ?_
        refine lv_iconst (v := 1) hx hb dX4_find_54 (by decide) ?_
        refine lv_iadd hx hb dX4_find_55 ?_
        obtain ⟨g8, hres⟩ := og_no hres
        refine kr_iald (f := w_sp_mostFrom) (j := (v4 + 1).toNatClampNeg) hx hb hK hP 3 rfl g8 rfl dX4_find_56 ?_
        refine lv_aload_n hx hb dX4_find_57 rfl (lv_at hl 0 rfl) ?_
        refine lv_iload hx hb dX4_find_58 (lv_at hl 3 rfl) ?_
        refine lv_aload_n hx hb dX4_find_60 rfl (lv_at hl 1 rfl) ?_
        refine va_getN (D := D) (ci := 5) (v := .ref st_goodsA) (C := RX5) (T := TX5) (N := 7) hx hb hts iw5 hown hK.1 hP 6 rfl rfl 5 (by decide) (hK.fl 34 rfl) (fun _ h9 => h9) rfl dX4_find_61 ?_
        refine lv_iload hx hb dX4_find_64 (lv_at hl 3 rfl) ?_
        obtain ⟨g9, hres⟩ := og_no hres
        refine kr_iald (f := st_goods) (j := v4.toNatClampNeg) hx hb hK hP 7 rfl g9 rfl dX4_find_66 ?_
        refine lv_aload_n hx hb dX4_find_67 rfl (lv_at hl 2 rfl) ?_
        refine va_getN (D := D) (ci := 6) (v := .ref tl_shyA) (C := RX6) (T := TX6) (N := 12) hx hb hts iw6 hown hK.1 hP 9 rfl rfl 9 (by decide) (hK.fl 24 rfl) (fun _ h9 => h9) rfl dX4_find_68 ?_
        refine lv_iload hx hb dX4_find_71 (lv_at hl 3 rfl) ?_
        refine kr_iald (f := tl_shy) (j := v4.toNatClampNeg) hx hb hK hP 11 rfl g9 rfl dX4_find_73 ?_
        obtain ⟨r10, w11, w12, hc13, hres⟩ := kb3_s hres
        refine krI_V (As := [.int v4, .int (st_goods v4.toNatClampNeg), .int (tl_shy v4.toNatClampNeg)]) (rest := [.int (w_sp_mostFrom ((v4 + 1).toNatClampNeg)), .int v4, .ref sp_mostFromA]) (wr := [(sto, .inr (5, [.int st_price, .int st_months, .int st_chest, .int st_given, .int st_fate, .ref st_goodsA, .ref st_ratesA])), (st_goodsA, .inl (κ 0, 6, .inl st_goods)), (st_ratesA, .inl (κ 0, 6, .inl st_rates)), (tlo, .inr (6, [.int tl_stands, .int tl_price, .int tl_death, .int tl_payers, .int tl_bids, .int tl_hostages, .int tl_bags, .int tl_bagMarks, .ref tl_goodsA, .ref tl_shyA, .ref tl_bidOfA, .ref tl_daysOfA])), (tl_goodsA, .inl (κ 0, 6, .inl tl_goods)), (tl_shyA, .inl (κ 0, 6, .inl tl_shy)), (tl_bidOfA, .inl (κ 0, 9, .inl tl_bidOf)), (tl_daysOfA, .inl (κ 0, 6, .inl tl_daysOf))]) ⟨hx, hb, hml, hown, hts⟩ hK (tX4_layOut l D κ spo sp_paidA sp_hiddenA sp_mostFromA sp_triedA sp_bestA N w_sp_paid w_sp_hidden w_sp_mostFrom sp_tried sp_best w_sp_payers w_sp_much w_sp_leastHidden v4 (st_goods v4.toNatClampNeg) (tl_shy v4.toNatClampNeg) r10 w11 w12 hc13) (cwV 3 hts gX4_find_X4_layOut rfl rfl rfl (by decide +kernel) ⟨(Nat.le_of_ble_eq_true rfl), (Nat.le_of_ble_eq_true rfl)⟩) rfl rfl rfl hP hD hS hA [0, 1, 2, 3, 4, 5] [6, 7, 8, 9, 10, 11, 12, 13] rfl rfl rfl rfl (by decide) rfl hl.1 rfl (Nat.le_of_ble_eq_true rfl) dX4_find_74 ⟨Nat.zero_le _, Nat.zero_le _⟩ (fun H locs hP hD hS => ?_)
        have hP : va_P D vwCl ([(sto, .inr (5, [.int st_price, .int st_months, .int st_chest, .int st_given, .int st_fate, .ref st_goodsA, .ref st_ratesA])), (st_goodsA, .inl (κ 0, 6, .inl st_goods)), (st_ratesA, .inl (κ 0, 6, .inl st_rates)), (tlo, .inr (6, [.int tl_stands, .int tl_price, .int tl_death, .int tl_payers, .int tl_bids, .int tl_hostages, .int tl_bags, .int tl_bagMarks, .ref tl_goodsA, .ref tl_shyA, .ref tl_bidOfA, .ref tl_daysOfA])), (tl_goodsA, .inl (κ 0, 6, .inl tl_goods)), (tl_shyA, .inl (κ 0, 6, .inl tl_shy)), (tl_bidOfA, .inl (κ 0, 9, .inl tl_bidOf)), (tl_daysOfA, .inl (κ 0, 6, .inl tl_daysOf)), (spo, .inr (4, [.ref sp_paidA, .ref sp_hiddenA, .ref sp_mostFromA, .ref sp_triedA, .ref sp_bestA, .int w_sp_payers, .int w_sp_much, .int w_sp_leastHidden])), (sp_paidA, .inl (κ 0, 30, .inl w11)), (sp_hiddenA, .inl (κ 0, 30, .inl w12)), (sp_mostFromA, .inl (κ 0, 7, .inl w_sp_mostFrom)), (sp_triedA, .inl (κ 0, 6, .inl sp_tried)), (sp_bestA, .inl (κ 0, 6, .inl sp_best))]) H := hP
        have hD : va_D A ([(sto, .inr (5, [.int st_price, .int st_months, .int st_chest, .int st_given, .int st_fate, .ref st_goodsA, .ref st_ratesA])), (st_goodsA, .inl (κ 0, 6, .inl st_goods)), (st_ratesA, .inl (κ 0, 6, .inl st_rates)), (tlo, .inr (6, [.int tl_stands, .int tl_price, .int tl_death, .int tl_payers, .int tl_bids, .int tl_hostages, .int tl_bags, .int tl_bagMarks, .ref tl_goodsA, .ref tl_shyA, .ref tl_bidOfA, .ref tl_daysOfA])), (tl_goodsA, .inl (κ 0, 6, .inl tl_goods)), (tl_shyA, .inl (κ 0, 6, .inl tl_shy)), (tl_bidOfA, .inl (κ 0, 9, .inl tl_bidOf)), (tl_daysOfA, .inl (κ 0, 6, .inl tl_daysOf)), (spo, .inr (4, [.ref sp_paidA, .ref sp_hiddenA, .ref sp_mostFromA, .ref sp_triedA, .ref sp_bestA, .int w_sp_payers, .int w_sp_much, .int w_sp_leastHidden])), (sp_paidA, .inl (κ 0, 30, .inl w11)), (sp_hiddenA, .inl (κ 0, 30, .inl w12)), (sp_mostFromA, .inl (κ 0, 7, .inl w_sp_mostFrom)), (sp_triedA, .inl (κ 0, 6, .inl sp_tried)), (sp_bestA, .inl (κ 0, 6, .inl sp_best))]) := hD
        refine lv_iadd hx hb dX4_find_77 ?_
        obtain ⟨y14, ey14, hres⟩ := kl_s hres
        refine kr_tope ey14 ?_
        obtain ⟨g15, hres⟩ := og_no hres
        refine kr_iast (f := w_sp_mostFrom) (j := v4.toNatClampNeg) (x := y14) hx hb hK hP hD hS 11 rfl g15 rfl dX4_find_78 (fun H locs hP hD hS => ?_)
        have hP : va_P D vwCl ([(sto, .inr (5, [.int st_price, .int st_months, .int st_chest, .int st_given, .int st_fate, .ref st_goodsA, .ref st_ratesA])), (st_goodsA, .inl (κ 0, 6, .inl st_goods)), (st_ratesA, .inl (κ 0, 6, .inl st_rates)), (tlo, .inr (6, [.int tl_stands, .int tl_price, .int tl_death, .int tl_payers, .int tl_bids, .int tl_hostages, .int tl_bags, .int tl_bagMarks, .ref tl_goodsA, .ref tl_shyA, .ref tl_bidOfA, .ref tl_daysOfA])), (tl_goodsA, .inl (κ 0, 6, .inl tl_goods)), (tl_shyA, .inl (κ 0, 6, .inl tl_shy)), (tl_bidOfA, .inl (κ 0, 9, .inl tl_bidOf)), (tl_daysOfA, .inl (κ 0, 6, .inl tl_daysOf)), (spo, .inr (4, [.ref sp_paidA, .ref sp_hiddenA, .ref sp_mostFromA, .ref sp_triedA, .ref sp_bestA, .int w_sp_payers, .int w_sp_much, .int w_sp_leastHidden])), (sp_paidA, .inl (κ 0, 30, .inl w11)), (sp_hiddenA, .inl (κ 0, 30, .inl w12)), (sp_mostFromA, .inl (κ 0, 7, .inl (upd w_sp_mostFrom v4.toNatClampNeg y14))), (sp_triedA, .inl (κ 0, 6, .inl sp_tried)), (sp_bestA, .inl (κ 0, 6, .inl sp_best))]) H := hP
        have hD : va_D A ([(sto, .inr (5, [.int st_price, .int st_months, .int st_chest, .int st_given, .int st_fate, .ref st_goodsA, .ref st_ratesA])), (st_goodsA, .inl (κ 0, 6, .inl st_goods)), (st_ratesA, .inl (κ 0, 6, .inl st_rates)), (tlo, .inr (6, [.int tl_stands, .int tl_price, .int tl_death, .int tl_payers, .int tl_bids, .int tl_hostages, .int tl_bags, .int tl_bagMarks, .ref tl_goodsA, .ref tl_shyA, .ref tl_bidOfA, .ref tl_daysOfA])), (tl_goodsA, .inl (κ 0, 6, .inl tl_goods)), (tl_shyA, .inl (κ 0, 6, .inl tl_shy)), (tl_bidOfA, .inl (κ 0, 9, .inl tl_bidOf)), (tl_daysOfA, .inl (κ 0, 6, .inl tl_daysOf)), (spo, .inr (4, [.ref sp_paidA, .ref sp_hiddenA, .ref sp_mostFromA, .ref sp_triedA, .ref sp_bestA, .int w_sp_payers, .int w_sp_much, .int w_sp_leastHidden])), (sp_paidA, .inl (κ 0, 30, .inl w11)), (sp_hiddenA, .inl (κ 0, 30, .inl w12)), (sp_mostFromA, .inl (κ 0, 7, .inl (upd w_sp_mostFrom v4.toNatClampNeg y14))), (sp_triedA, .inl (κ 0, 6, .inl sp_tried)), (sp_bestA, .inl (κ 0, 6, .inl sp_best))]) := hD
        refine lv_iinc (v := (v4 + (-1))) (lv' := [(4, .int (v4 + (-1))), (0, .ref spo), (1, .ref sto), (2, .ref tlo)]) hx hb dX4_find_79 hl (k := 3) rfl rfl (by decide) rfl (fun ls hl => ?_)
        refine lv_goto (tgt := 37) hx hb dX4_find_82 (by decide) ?_
        exact ih37 (v4 + (-1)) w11 w12 (upd w_sp_mostFrom v4.toNatClampNeg y14) w_sp_payers w_sp_much w_sp_leastHidden _ _ _ (hP.sub [8, 9, 10, 11, 12, 13, 0, 1, 2, 3, 4, 5, 6, 7] rfl) (hD.sub [8, 9, 10, 11, 12, 13, 0, 1, 2, 3, 4, 5, 6, 7] (by decide) rfl) hS (lv_sub hl [1, 2, 3, 0] rfl) hres
  unfold pX4_find at hres
  refine lv_aload_n hx hb dX4_find_0 rfl (lv_at hl 0 rfl) ?_
  refine lv_aload_n hx hb dX4_find_1 rfl (lv_at hl 2 rfl) ?_
  refine va_getN (D := D) (ci := 6) (v := .int tl_payers) (C := RX6) (T := TX6) (N := 12) hx hb hts iw6 hown hK.1 hP 9 rfl rfl 3 (by decide) (hK.fl 9 rfl) (fun _ h9 => h9) rfl dX4_find_2 ?_
  refine va_put (D := D) (ci := 4) (v := .int tl_payers) (ty := .int) (C := RX4) (T := TX4) (N := 8) hx hb hts iw4 tyX4 tyX4_ok nmX4 hown hK.1 hP hD hS 0 rfl rfl 5 (by decide) k0 (fun _ h9 => h9) rfl (tyX4_ok 5 (by decide)) rfl rfl (Nat.le_of_ble_eq_true rfl) dX4_find_5 (fun H locs hP hD hS => ?_)
  have hP : va_P D vwCl ([(spo, .inr (4, [.ref sp_paidA, .ref sp_hiddenA, .ref sp_mostFromA, .ref sp_triedA, .ref sp_bestA, .int tl_payers, .int sp_much, .int sp_leastHidden])), (sp_paidA, .inl (κ 0, 30, .inl sp_paid)), (sp_hiddenA, .inl (κ 0, 30, .inl sp_hidden)), (sp_mostFromA, .inl (κ 0, 7, .inl sp_mostFrom)), (sp_triedA, .inl (κ 0, 6, .inl sp_tried)), (sp_bestA, .inl (κ 0, 6, .inl sp_best)), (sto, .inr (5, [.int st_price, .int st_months, .int st_chest, .int st_given, .int st_fate, .ref st_goodsA, .ref st_ratesA])), (st_goodsA, .inl (κ 0, 6, .inl st_goods)), (st_ratesA, .inl (κ 0, 6, .inl st_rates)), (tlo, .inr (6, [.int tl_stands, .int tl_price, .int tl_death, .int tl_payers, .int tl_bids, .int tl_hostages, .int tl_bags, .int tl_bagMarks, .ref tl_goodsA, .ref tl_shyA, .ref tl_bidOfA, .ref tl_daysOfA])), (tl_goodsA, .inl (κ 0, 6, .inl tl_goods)), (tl_shyA, .inl (κ 0, 6, .inl tl_shy)), (tl_bidOfA, .inl (κ 0, 9, .inl tl_bidOf)), (tl_daysOfA, .inl (κ 0, 6, .inl tl_daysOf))]) H := hP
  have hD : va_D A ([(spo, .inr (4, [.ref sp_paidA, .ref sp_hiddenA, .ref sp_mostFromA, .ref sp_triedA, .ref sp_bestA, .int tl_payers, .int sp_much, .int sp_leastHidden])), (sp_paidA, .inl (κ 0, 30, .inl sp_paid)), (sp_hiddenA, .inl (κ 0, 30, .inl sp_hidden)), (sp_mostFromA, .inl (κ 0, 7, .inl sp_mostFrom)), (sp_triedA, .inl (κ 0, 6, .inl sp_tried)), (sp_bestA, .inl (κ 0, 6, .inl sp_best)), (sto, .inr (5, [.int st_price, .int st_months, .int st_chest, .int st_given, .int st_fate, .ref st_goodsA, .ref st_ratesA])), (st_goodsA, .inl (κ 0, 6, .inl st_goods)), (st_ratesA, .inl (κ 0, 6, .inl st_rates)), (tlo, .inr (6, [.int tl_stands, .int tl_price, .int tl_death, .int tl_payers, .int tl_bids, .int tl_hostages, .int tl_bags, .int tl_bagMarks, .ref tl_goodsA, .ref tl_shyA, .ref tl_bidOfA, .ref tl_daysOfA])), (tl_goodsA, .inl (κ 0, 6, .inl tl_goods)), (tl_shyA, .inl (κ 0, 6, .inl tl_shy)), (tl_bidOfA, .inl (κ 0, 9, .inl tl_bidOf)), (tl_daysOfA, .inl (κ 0, 6, .inl tl_daysOf))]) := hD
  refine lv_aload_n hx hb dX4_find_8 rfl (lv_at hl 0 rfl) ?_
  refine lv_iload_n hx hb dX4_find_9 rfl (lv_at hl 3 rfl) ?_
  refine va_put (D := D) (ci := 4) (v := .int x3) (ty := .int) (C := RX4) (T := TX4) (N := 8) hx hb hts iw4 tyX4 tyX4_ok nmX4 hown hK.1 hP hD hS 0 rfl rfl 6 (by decide) k1 (fun _ h9 => h9) rfl (tyX4_ok 6 (by decide)) rfl rfl (Nat.le_of_ble_eq_true rfl) dX4_find_10 (fun H locs hP hD hS => ?_)
  have hP : va_P D vwCl ([(spo, .inr (4, [.ref sp_paidA, .ref sp_hiddenA, .ref sp_mostFromA, .ref sp_triedA, .ref sp_bestA, .int tl_payers, .int x3, .int sp_leastHidden])), (sp_paidA, .inl (κ 0, 30, .inl sp_paid)), (sp_hiddenA, .inl (κ 0, 30, .inl sp_hidden)), (sp_mostFromA, .inl (κ 0, 7, .inl sp_mostFrom)), (sp_triedA, .inl (κ 0, 6, .inl sp_tried)), (sp_bestA, .inl (κ 0, 6, .inl sp_best)), (sto, .inr (5, [.int st_price, .int st_months, .int st_chest, .int st_given, .int st_fate, .ref st_goodsA, .ref st_ratesA])), (st_goodsA, .inl (κ 0, 6, .inl st_goods)), (st_ratesA, .inl (κ 0, 6, .inl st_rates)), (tlo, .inr (6, [.int tl_stands, .int tl_price, .int tl_death, .int tl_payers, .int tl_bids, .int tl_hostages, .int tl_bags, .int tl_bagMarks, .ref tl_goodsA, .ref tl_shyA, .ref tl_bidOfA, .ref tl_daysOfA])), (tl_goodsA, .inl (κ 0, 6, .inl tl_goods)), (tl_shyA, .inl (κ 0, 6, .inl tl_shy)), (tl_bidOfA, .inl (κ 0, 9, .inl tl_bidOf)), (tl_daysOfA, .inl (κ 0, 6, .inl tl_daysOf))]) H := hP
  have hD : va_D A ([(spo, .inr (4, [.ref sp_paidA, .ref sp_hiddenA, .ref sp_mostFromA, .ref sp_triedA, .ref sp_bestA, .int tl_payers, .int x3, .int sp_leastHidden])), (sp_paidA, .inl (κ 0, 30, .inl sp_paid)), (sp_hiddenA, .inl (κ 0, 30, .inl sp_hidden)), (sp_mostFromA, .inl (κ 0, 7, .inl sp_mostFrom)), (sp_triedA, .inl (κ 0, 6, .inl sp_tried)), (sp_bestA, .inl (κ 0, 6, .inl sp_best)), (sto, .inr (5, [.int st_price, .int st_months, .int st_chest, .int st_given, .int st_fate, .ref st_goodsA, .ref st_ratesA])), (st_goodsA, .inl (κ 0, 6, .inl st_goods)), (st_ratesA, .inl (κ 0, 6, .inl st_rates)), (tlo, .inr (6, [.int tl_stands, .int tl_price, .int tl_death, .int tl_payers, .int tl_bids, .int tl_hostages, .int tl_bags, .int tl_bagMarks, .ref tl_goodsA, .ref tl_shyA, .ref tl_bidOfA, .ref tl_daysOfA])), (tl_goodsA, .inl (κ 0, 6, .inl tl_goods)), (tl_shyA, .inl (κ 0, 6, .inl tl_shy)), (tl_bidOfA, .inl (κ 0, 9, .inl tl_bidOf)), (tl_daysOfA, .inl (κ 0, 6, .inl tl_daysOf))]) := hD
  refine lv_aload_n hx hb dX4_find_13 rfl (lv_at hl 0 rfl) ?_
  refine lv_ldc (v := 1000000000) hx hb hown k2 dX4_find_14 ?_
  refine va_put (D := D) (ci := 4) (v := .int 1000000000) (ty := .int) (C := RX4) (T := TX4) (N := 8) hx hb hts iw4 tyX4 tyX4_ok nmX4 hown hK.1 hP hD hS 0 rfl rfl 7 (by decide) k3 (fun _ h9 => h9) rfl (tyX4_ok 7 (by decide)) rfl rfl (Nat.le_of_ble_eq_true rfl) dX4_find_16 (fun H locs hP hD hS => ?_)
  have hP : va_P D vwCl ([(spo, .inr (4, [.ref sp_paidA, .ref sp_hiddenA, .ref sp_mostFromA, .ref sp_triedA, .ref sp_bestA, .int tl_payers, .int x3, .int 1000000000])), (sp_paidA, .inl (κ 0, 30, .inl sp_paid)), (sp_hiddenA, .inl (κ 0, 30, .inl sp_hidden)), (sp_mostFromA, .inl (κ 0, 7, .inl sp_mostFrom)), (sp_triedA, .inl (κ 0, 6, .inl sp_tried)), (sp_bestA, .inl (κ 0, 6, .inl sp_best)), (sto, .inr (5, [.int st_price, .int st_months, .int st_chest, .int st_given, .int st_fate, .ref st_goodsA, .ref st_ratesA])), (st_goodsA, .inl (κ 0, 6, .inl st_goods)), (st_ratesA, .inl (κ 0, 6, .inl st_rates)), (tlo, .inr (6, [.int tl_stands, .int tl_price, .int tl_death, .int tl_payers, .int tl_bids, .int tl_hostages, .int tl_bags, .int tl_bagMarks, .ref tl_goodsA, .ref tl_shyA, .ref tl_bidOfA, .ref tl_daysOfA])), (tl_goodsA, .inl (κ 0, 6, .inl tl_goods)), (tl_shyA, .inl (κ 0, 6, .inl tl_shy)), (tl_bidOfA, .inl (κ 0, 9, .inl tl_bidOf)), (tl_daysOfA, .inl (κ 0, 6, .inl tl_daysOf))]) H := hP
  have hD : va_D A ([(spo, .inr (4, [.ref sp_paidA, .ref sp_hiddenA, .ref sp_mostFromA, .ref sp_triedA, .ref sp_bestA, .int tl_payers, .int x3, .int 1000000000])), (sp_paidA, .inl (κ 0, 30, .inl sp_paid)), (sp_hiddenA, .inl (κ 0, 30, .inl sp_hidden)), (sp_mostFromA, .inl (κ 0, 7, .inl sp_mostFrom)), (sp_triedA, .inl (κ 0, 6, .inl sp_tried)), (sp_bestA, .inl (κ 0, 6, .inl sp_best)), (sto, .inr (5, [.int st_price, .int st_months, .int st_chest, .int st_given, .int st_fate, .ref st_goodsA, .ref st_ratesA])), (st_goodsA, .inl (κ 0, 6, .inl st_goods)), (st_ratesA, .inl (κ 0, 6, .inl st_rates)), (tlo, .inr (6, [.int tl_stands, .int tl_price, .int tl_death, .int tl_payers, .int tl_bids, .int tl_hostages, .int tl_bags, .int tl_bagMarks, .ref tl_goodsA, .ref tl_shyA, .ref tl_bidOfA, .ref tl_daysOfA])), (tl_goodsA, .inl (κ 0, 6, .inl tl_goods)), (tl_shyA, .inl (κ 0, 6, .inl tl_shy)), (tl_bidOfA, .inl (κ 0, 9, .inl tl_bidOf)), (tl_daysOfA, .inl (κ 0, 6, .inl tl_daysOf))]) := hD
  refine lv_aload_n hx hb dX4_find_19 rfl (lv_at hl 0 rfl) ?_
  refine va_get (D := D) (ci := 4) (v := .ref sp_mostFromA) (C := RX4) (T := TX4) (N := 8) hx hb hts iw4 hown hK.1 hP 0 rfl rfl 2 (by decide) k4 (fun _ h9 => h9) rfl dX4_find_20 ?_
  refine lv_aload_n hx hb dX4_find_23 rfl (lv_at hl 0 rfl) ?_
  refine va_get (D := D) (ci := 4) (v := .int tl_payers) (C := RX4) (T := TX4) (N := 8) hx hb hts iw4 hown hK.1 hP 0 rfl rfl 5 (by decide) k0 (fun _ h9 => h9) rfl dX4_find_24 ?_
  refine lv_iconst (v := 0) hx hb dX4_find_27 (by decide) ?_
  obtain ⟨g1, hres⟩ := og_no hres
  refine kr_iast (f := sp_mostFrom) (j := tl_payers.toNatClampNeg) (x := 0) hx hb hK hP hD hS 3 rfl g1 rfl dX4_find_28 (fun H locs hP hD hS => ?_)
  have hP : va_P D vwCl ([(spo, .inr (4, [.ref sp_paidA, .ref sp_hiddenA, .ref sp_mostFromA, .ref sp_triedA, .ref sp_bestA, .int tl_payers, .int x3, .int 1000000000])), (sp_paidA, .inl (κ 0, 30, .inl sp_paid)), (sp_hiddenA, .inl (κ 0, 30, .inl sp_hidden)), (sp_mostFromA, .inl (κ 0, 7, .inl (upd sp_mostFrom tl_payers.toNatClampNeg 0))), (sp_triedA, .inl (κ 0, 6, .inl sp_tried)), (sp_bestA, .inl (κ 0, 6, .inl sp_best)), (sto, .inr (5, [.int st_price, .int st_months, .int st_chest, .int st_given, .int st_fate, .ref st_goodsA, .ref st_ratesA])), (st_goodsA, .inl (κ 0, 6, .inl st_goods)), (st_ratesA, .inl (κ 0, 6, .inl st_rates)), (tlo, .inr (6, [.int tl_stands, .int tl_price, .int tl_death, .int tl_payers, .int tl_bids, .int tl_hostages, .int tl_bags, .int tl_bagMarks, .ref tl_goodsA, .ref tl_shyA, .ref tl_bidOfA, .ref tl_daysOfA])), (tl_goodsA, .inl (κ 0, 6, .inl tl_goods)), (tl_shyA, .inl (κ 0, 6, .inl tl_shy)), (tl_bidOfA, .inl (κ 0, 9, .inl tl_bidOf)), (tl_daysOfA, .inl (κ 0, 6, .inl tl_daysOf))]) H := hP
  have hD : va_D A ([(spo, .inr (4, [.ref sp_paidA, .ref sp_hiddenA, .ref sp_mostFromA, .ref sp_triedA, .ref sp_bestA, .int tl_payers, .int x3, .int 1000000000])), (sp_paidA, .inl (κ 0, 30, .inl sp_paid)), (sp_hiddenA, .inl (κ 0, 30, .inl sp_hidden)), (sp_mostFromA, .inl (κ 0, 7, .inl (upd sp_mostFrom tl_payers.toNatClampNeg 0))), (sp_triedA, .inl (κ 0, 6, .inl sp_tried)), (sp_bestA, .inl (κ 0, 6, .inl sp_best)), (sto, .inr (5, [.int st_price, .int st_months, .int st_chest, .int st_given, .int st_fate, .ref st_goodsA, .ref st_ratesA])), (st_goodsA, .inl (κ 0, 6, .inl st_goods)), (st_ratesA, .inl (κ 0, 6, .inl st_rates)), (tlo, .inr (6, [.int tl_stands, .int tl_price, .int tl_death, .int tl_payers, .int tl_bids, .int tl_hostages, .int tl_bags, .int tl_bagMarks, .ref tl_goodsA, .ref tl_shyA, .ref tl_bidOfA, .ref tl_daysOfA])), (tl_goodsA, .inl (κ 0, 6, .inl tl_goods)), (tl_shyA, .inl (κ 0, 6, .inl tl_shy)), (tl_bidOfA, .inl (κ 0, 9, .inl tl_bidOf)), (tl_daysOfA, .inl (κ 0, 6, .inl tl_daysOf))]) := hD
  refine lv_aload_n hx hb dX4_find_29 rfl (lv_at hl 0 rfl) ?_
  refine va_get (D := D) (ci := 4) (v := .int tl_payers) (C := RX4) (T := TX4) (N := 8) hx hb hts iw4 hown hK.1 hP 0 rfl rfl 5 (by decide) k0 (fun _ h9 => h9) rfl dX4_find_30 ?_
  refine lv_iconst (v := 1) hx hb dX4_find_33 (by decide) ?_
  refine lv_isub hx hb dX4_find_34 ?_
  refine lv_istore (lv' := [(4, .int (tl_payers - 1)), (0, .ref spo), (1, .ref sto), (2, .ref tlo), (3, .int x3)]) hx hb dX4_find_35 hl (by decide) rfl (fun ls hl => ?_)
  exact L37 N (tl_payers - 1) sp_paid sp_hidden (upd sp_mostFrom tl_payers.toNatClampNeg 0) tl_payers x3 1000000000 _ _ _ hP hD hS (lv_sub hl [1, 2, 3, 0] rfl) hres
