def pJ6_bitCount_0f7a4 (x1 : Int32) : Option (Int32) :=
    kl (x1 - (((x1.toUInt32 >>> ((1 : Int32).toUInt32 &&& Int32.toUInt32 31)).toInt32) &&& 1431655765)) fun y1 =>
    kl ((y1 &&& 858993459) + (((y1.toUInt32 >>> ((2 : Int32).toUInt32 &&& Int32.toUInt32 31)).toInt32) &&& 858993459)) fun y2 =>
    kl ((y2 + ((y2.toUInt32 >>> ((4 : Int32).toUInt32 &&& Int32.toUInt32 31)).toInt32)) &&& 252645135) fun y3 =>
    kl (y3 + ((y3.toUInt32 >>> ((8 : Int32).toUInt32 &&& Int32.toUInt32 31)).toInt32)) fun y4 =>
    kl (y4 + ((y4.toUInt32 >>> ((16 : Int32).toUInt32 &&& Int32.toUInt32 31)).toInt32)) fun y5 =>
    some ((y5 &&& 63))
set_option maxHeartbeats 8000000 in
set_option maxRecDepth 100000 in
theorem tJ6_bitCount_0f7a4 (l : Launch) (D : va_G) (κ : Nat → ClassId) (x1 : Int32) (r0 : Int32) (hres : pJ6_bitCount_0f7a4 x1 = some (r0)) : krI l yJ6_bitCount_0f7a4 wsJ6_bitCount_0f7a4 { frames := 0, cells := 0, slots := 0, locals := 0 } D κ [.int x1] ([]) ([]) r0 := by
  refine krI_of (cc := cJ6_bitCount_0f7a4) (maxL := 1) (rt := .int) (by decide) rfl (Nat.le_of_ble_eq_true rfl) ?_
  intro p e s m args below meth c A Q ls hx hb hml hown hts hK hA hret hP hD hS hl
  have hown : s.vm.findClass RJ6 = some m.cls := hown
  have hl : lv_has ls 1 [(0, .int x1)] := hl
  have k0 : (Cond.constant RJ6 265 (1431655765)).before args s = true := hts _ (List.mem_of_getElem? (i := 1) rfl)
  have k1 : (Cond.constant RJ6 266 (858993459)).before args s = true := hts _ (List.mem_of_getElem? (i := 2) rfl)
  have k2 : (Cond.constant RJ6 267 (252645135)).before args s = true := hts _ (List.mem_of_getElem? (i := 3) rfl)
  unfold pJ6_bitCount_0f7a4 at hres
  refine lv_iload_n hx hb dJ6_bitCount_0f7a4_0 rfl (lv_at hl 0 rfl) ?_
  refine lv_iload_n hx hb dJ6_bitCount_0f7a4_1 rfl (lv_at hl 0 rfl) ?_
  refine lv_iconst (v := 1) hx hb dJ6_bitCount_0f7a4_2 (by decide) ?_
  refine lv_iushr (v := (x1.toUInt32 >>> ((1 : Int32).toUInt32 &&& Int32.toUInt32 31)).toInt32) hx hb dJ6_bitCount_0f7a4_3 rfl ?_
  refine lv_ldcw (v := 1431655765) hx hb hown k0 dJ6_bitCount_0f7a4_4 ?_
  refine lv_iand hx hb dJ6_bitCount_0f7a4_7 ?_
  refine lv_isub hx hb dJ6_bitCount_0f7a4_8 ?_
  obtain ⟨y1, ey1, hres⟩ := kl_s hres
  refine kr_tope ey1 ?_
  refine lv_istore_n (lv' := [(0, .int y1)]) hx hb dJ6_bitCount_0f7a4_9 rfl hl (by decide) rfl (fun ls hl => ?_)
  refine lv_iload_n hx hb dJ6_bitCount_0f7a4_10 rfl (lv_at hl 0 rfl) ?_
  refine lv_ldcw (v := 858993459) hx hb hown k1 dJ6_bitCount_0f7a4_11 ?_
  refine lv_iand hx hb dJ6_bitCount_0f7a4_14 ?_
  refine lv_iload_n hx hb dJ6_bitCount_0f7a4_15 rfl (lv_at hl 0 rfl) ?_
  refine lv_iconst (v := 2) hx hb dJ6_bitCount_0f7a4_16 (by decide) ?_
  refine lv_iushr (v := (y1.toUInt32 >>> ((2 : Int32).toUInt32 &&& Int32.toUInt32 31)).toInt32) hx hb dJ6_bitCount_0f7a4_17 rfl ?_
  refine lv_ldcw (v := 858993459) hx hb hown k1 dJ6_bitCount_0f7a4_18 ?_
  refine lv_iand hx hb dJ6_bitCount_0f7a4_21 ?_
  refine lv_iadd hx hb dJ6_bitCount_0f7a4_22 ?_
  obtain ⟨y2, ey2, hres⟩ := kl_s hres
  refine kr_tope ey2 ?_
  refine lv_istore_n (lv' := [(0, .int y2)]) hx hb dJ6_bitCount_0f7a4_23 rfl hl (by decide) rfl (fun ls hl => ?_)
  refine lv_iload_n hx hb dJ6_bitCount_0f7a4_24 rfl (lv_at hl 0 rfl) ?_
  refine lv_iload_n hx hb dJ6_bitCount_0f7a4_25 rfl (lv_at hl 0 rfl) ?_
  refine lv_iconst (v := 4) hx hb dJ6_bitCount_0f7a4_26 (by decide) ?_
  refine lv_iushr (v := (y2.toUInt32 >>> ((4 : Int32).toUInt32 &&& Int32.toUInt32 31)).toInt32) hx hb dJ6_bitCount_0f7a4_27 rfl ?_
  refine lv_iadd hx hb dJ6_bitCount_0f7a4_28 ?_
  refine lv_ldcw (v := 252645135) hx hb hown k2 dJ6_bitCount_0f7a4_29 ?_
  refine lv_iand hx hb dJ6_bitCount_0f7a4_32 ?_
  obtain ⟨y3, ey3, hres⟩ := kl_s hres
  refine kr_tope ey3 ?_
  refine lv_istore_n (lv' := [(0, .int y3)]) hx hb dJ6_bitCount_0f7a4_33 rfl hl (by decide) rfl (fun ls hl => ?_)
  refine lv_iload_n hx hb dJ6_bitCount_0f7a4_34 rfl (lv_at hl 0 rfl) ?_
  refine lv_iload_n hx hb dJ6_bitCount_0f7a4_35 rfl (lv_at hl 0 rfl) ?_
  refine lv_bipush (v := 8) hx hb dJ6_bitCount_0f7a4_36 (by decide) ?_
  refine lv_iushr (v := (y3.toUInt32 >>> ((8 : Int32).toUInt32 &&& Int32.toUInt32 31)).toInt32) hx hb dJ6_bitCount_0f7a4_38 rfl ?_
  refine lv_iadd hx hb dJ6_bitCount_0f7a4_39 ?_
  obtain ⟨y4, ey4, hres⟩ := kl_s hres
  refine kr_tope ey4 ?_
  refine lv_istore_n (lv' := [(0, .int y4)]) hx hb dJ6_bitCount_0f7a4_40 rfl hl (by decide) rfl (fun ls hl => ?_)
  refine lv_iload_n hx hb dJ6_bitCount_0f7a4_41 rfl (lv_at hl 0 rfl) ?_
  refine lv_iload_n hx hb dJ6_bitCount_0f7a4_42 rfl (lv_at hl 0 rfl) ?_
  refine lv_bipush (v := 16) hx hb dJ6_bitCount_0f7a4_43 (by decide) ?_
  refine lv_iushr (v := (y4.toUInt32 >>> ((16 : Int32).toUInt32 &&& Int32.toUInt32 31)).toInt32) hx hb dJ6_bitCount_0f7a4_45 rfl ?_
  refine lv_iadd hx hb dJ6_bitCount_0f7a4_46 ?_
  obtain ⟨y5, ey5, hres⟩ := kl_s hres
  refine kr_tope ey5 ?_
  refine lv_istore_n (lv' := [(0, .int y5)]) hx hb dJ6_bitCount_0f7a4_47 rfl hl (by decide) rfl (fun ls hl => ?_)
  refine lv_iload_n hx hb dJ6_bitCount_0f7a4_48 rfl (lv_at hl 0 rfl) ?_
  refine lv_bipush (v := 63) hx hb dJ6_bitCount_0f7a4_49 (by decide) ?_
  refine lv_iand hx hb dJ6_bitCount_0f7a4_51 ?_
  have hres := Option.some.inj hres
  have h0 := hres
  subst h0
  exact hret _ _ _ _ (vp_nar_int _) hP hD hS dJ6_bitCount_0f7a4_52

def pX8_tells (x1 : Int32) (x2 : Int32) (x3 : Int32) : Option (Int32) :=
    some (((x1 * (if (0 : Int32) < (100 - ((x2 * x3) / 10)) then (100 - ((x2 * x3) / 10)) else 0)) / 100))
set_option maxHeartbeats 8000000 in
set_option maxRecDepth 100000 in
theorem tX8_tells (l : Launch) (D : va_G) (κ : Nat → ClassId) (x1 : Int32) (x2 : Int32) (x3 : Int32) (r0 : Int32) (hres : pX8_tells x1 x2 x3 = some (r0)) : krI l yX8_tells wsX8_tells { frames := 1, cells := 0, slots := 0, locals := 100 } D κ [.int x1, .int x2, .int x3] ([]) ([]) r0 := by
  refine krI_of (cc := cX8_tells) (maxL := 3) (rt := .int) (by decide) rfl (Nat.le_of_ble_eq_true rfl) ?_
  intro p e s m args below meth c A Q ls hx hb hml hown hts hK hA hret hP hD hS hl
  have hown : s.vm.findClass RX8 = some m.cls := hown
  have hl : lv_has ls 3 [(0, .int x1), (1, .int x2), (2, .int x3)] := hl
  have k0 : (Cond.methodLink RX8 219 Lib.Math.max.name).before args s = true := hts _ (List.mem_of_getElem? (i := 1) rfl)
  have k1 : (Cond.static Lib.Math.max.name).before args s = true := hts _ (List.mem_of_getElem? (i := 2) rfl)
  have k2 : (Cond.initialized "java/lang/Math").before args s = true := hts _ (List.mem_of_getElem? (i := 3) rfl)
  have k3 : (Cond.code Lib.Math.max.name Lib.Math.max.code 2 (some .int)).before args s = true := hts _ (List.mem_of_getElem? (i := 4) rfl)
  unfold pX8_tells at hres
  refine lv_iload_n hx hb dX8_tells_0 rfl (lv_at hl 0 rfl) ?_
  refine lv_iconst (v := 0) hx hb dX8_tells_1 (by decide) ?_
  refine lv_bipush (v := 100) hx hb dX8_tells_2 (by decide) ?_
  refine lv_iload_n hx hb dX8_tells_4 rfl (lv_at hl 1 rfl) ?_
  refine lv_iload_n hx hb dX8_tells_5 rfl (lv_at hl 2 rfl) ?_
  refine lv_imul hx hb dX8_tells_6 ?_
  refine lv_bipush (v := 10) hx hb dX8_tells_7 (by decide) ?_
  refine lv_idiv hx hb dX8_tells_9 (by decide) ?_
  refine lv_isub hx hb dX8_tells_10 ?_
  refine va_mmax hx hb (hml.trans hl.1.symm) hown k0 k1 k2 k3 (Nat.le_of_ble_eq_true rfl) (Nat.le_of_ble_eq_true rfl) (Nat.zero_le _) (Nat.zero_le _) dX8_tells_11 ?_
  refine lv_imul hx hb dX8_tells_14 ?_
  refine lv_bipush (v := 100) hx hb dX8_tells_15 (by decide) ?_
  refine lv_idiv hx hb dX8_tells_17 (by decide) ?_
  have hres := Option.some.inj hres
  have h0 := hres
  subst h0
  exact hret _ _ _ _ (vp_nar_int _) hP hD hS dX8_tells_18

def pX8_pays (x1 : Int32) (x2 : Int32) (x3 : Int32) : Option (Int32) :=
    kb1 (pX8_tells x1 x2 x3) fun r1 =>
    some (((r1 * x3) / 100))
set_option maxHeartbeats 8000000 in
set_option maxRecDepth 100000 in
theorem tX8_pays (l : Launch) (D : va_G) (κ : Nat → ClassId) (x1 : Int32) (x2 : Int32) (x3 : Int32) (r0 : Int32) (hres : pX8_pays x1 x2 x3 = some (r0)) : krI l yX8_pays wsX8_pays { frames := 2, cells := 0, slots := 0, locals := 200 } D κ [.int x1, .int x2, .int x3] ([]) ([]) r0 := by
  refine krI_of (cc := cX8_pays) (maxL := 3) (rt := .int) (by decide) rfl (Nat.le_of_ble_eq_true rfl) ?_
  intro p e s m args below meth c A Q ls hx hb hml hown hts hK hA hret hP hD hS hl
  have hown : s.vm.findClass RX8 = some m.cls := hown
  have hl : lv_has ls 3 [(0, .int x1), (1, .int x2), (2, .int x3)] := hl
  unfold pX8_pays at hres
  refine lv_iload_n hx hb dX8_pays_0 rfl (lv_at hl 0 rfl) ?_
  refine lv_iload_n hx hb dX8_pays_1 rfl (lv_at hl 1 rfl) ?_
  refine lv_iload_n hx hb dX8_pays_2 rfl (lv_at hl 2 rfl) ?_
  obtain ⟨r1, hc2, hres⟩ := kb1_s hres
  refine krI_S0 (As := [.int x1, .int x2, .int x3]) (rest := []) ⟨hx, hb, hml, hown, hts⟩ hK (tX8_tells l D κ x1 x2 x3 r1 hc2) (va_cwS 3 hts gX8_pays_X8_tells rfl rfl rfl (by decide +kernel) ⟨(Nat.le_of_ble_eq_true rfl), (Nat.le_of_ble_eq_true rfl)⟩) hP hD hS hA rfl hl.1 rfl (Nat.le_of_ble_eq_true rfl) dX8_pays_3 ⟨Nat.zero_le _, Nat.zero_le _⟩ (fun H locs hP hD hS => ?_)
  refine lv_iload_n hx hb dX8_pays_6 rfl (lv_at hl 2 rfl) ?_
  refine lv_imul hx hb dX8_pays_7 ?_
  refine lv_bipush (v := 100) hx hb dX8_pays_8 (by decide) ?_
  refine lv_idiv hx hb dX8_pays_10 (by decide) ?_
  have hres := Option.some.inj hres
  have h0 := hres
  subst h0
  exact hret _ _ _ _ (vp_nar_int _) hP hD hS dX8_pays_11

def pX8_isImage (x1 : Int32) : Option (Int32) :=
    (if x1 < 0 then
    some (0)
    else
    (if 2 ≤ x1 then
    some (0)
    else
    some (1)))
set_option maxHeartbeats 8000000 in
set_option maxRecDepth 100000 in
theorem tX8_isImage (l : Launch) (D : va_G) (κ : Nat → ClassId) (x1 : Int32) (r0 : Int32) (hres : pX8_isImage x1 = some (r0)) : krI l yX8_isImage wsX8_isImage { frames := 0, cells := 0, slots := 0, locals := 0 } D κ [.int x1] ([]) ([]) r0 := by
  refine krI_of (cc := cX8_isImage) (maxL := 1) (rt := .boolean) (by decide) rfl (Nat.le_of_ble_eq_true rfl) ?_
  intro p e s m args below meth c A Q ls hx hb hml hown hts hK hA hret hP hD hS hl
  have hown : s.vm.findClass RX8 = some m.cls := hown
  have hl : lv_has ls 1 [(0, .int x1)] := hl
  unfold pX8_isImage at hres
  refine lv_iload_n hx hb dX8_isImage_0 rfl (lv_at hl 0 rfl) ?_
  refine lv_if_lt (tgt := 13) hx hb dX8_isImage_1 (by decide) (fun c1 => ?_) (fun c1 => ?_)
  · replace hres := og_t c1 hres
    refine lv_iconst (v := 0) hx hb dX8_isImage_13 (by decide) ?_
    have hres := Option.some.inj hres
    have h0 := hres
    subst h0
    exact hret _ _ _ _ (by decide) hP hD hS dX8_isImage_14
  · replace hres := og_f c1 hres
    refine lv_iload_n hx hb dX8_isImage_4 rfl (lv_at hl 0 rfl) ?_
    refine lv_iconst (v := 2) hx hb dX8_isImage_5 (by decide) ?_
    refine lv_icmp_ge (tgt := 13) hx hb dX8_isImage_6 (by decide) (fun c2 => ?_) (fun c2 => ?_)
    · replace hres := og_t c2 hres
      refine lv_iconst (v := 0) hx hb dX8_isImage_13 (by decide) ?_
      have hres := Option.some.inj hres
      have h0 := hres
      subst h0
      exact hret _ _ _ _ (by decide) hP hD hS dX8_isImage_14
    · replace hres := og_f c2 hres
      refine lv_iconst (v := 1) hx hb dX8_isImage_9 (by decide) ?_
      refine lv_goto (tgt := 14) hx hb dX8_isImage_10 (by decide) ?_
      have hres := Option.some.inj hres
      have h0 := hres
      subst h0
      exact hret _ _ _ _ (by decide) hP hD hS dX8_isImage_14

def pX8_isRate (x1 : Int32) : Option (Int32) :=
    (if x1 < 0 then
    some (0)
    else
    (if 100 < x1 then
    some (0)
    else
    some (1)))
set_option maxHeartbeats 8000000 in
set_option maxRecDepth 100000 in
theorem tX8_isRate (l : Launch) (D : va_G) (κ : Nat → ClassId) (x1 : Int32) (r0 : Int32) (hres : pX8_isRate x1 = some (r0)) : krI l yX8_isRate wsX8_isRate { frames := 0, cells := 0, slots := 0, locals := 0 } D κ [.int x1] ([]) ([]) r0 := by
  refine krI_of (cc := cX8_isRate) (maxL := 1) (rt := .boolean) (by decide) rfl (Nat.le_of_ble_eq_true rfl) ?_
  intro p e s m args below meth c A Q ls hx hb hml hown hts hK hA hret hP hD hS hl
  have hown : s.vm.findClass RX8 = some m.cls := hown
  have hl : lv_has ls 1 [(0, .int x1)] := hl
  unfold pX8_isRate at hres
  refine lv_iload_n hx hb dX8_isRate_0 rfl (lv_at hl 0 rfl) ?_
  refine lv_if_lt (tgt := 14) hx hb dX8_isRate_1 (by decide) (fun c1 => ?_) (fun c1 => ?_)
  · replace hres := og_t c1 hres
    refine lv_iconst (v := 0) hx hb dX8_isRate_14 (by decide) ?_
    have hres := Option.some.inj hres
    have h0 := hres
    subst h0
    exact hret _ _ _ _ (by decide) hP hD hS dX8_isRate_15
  · replace hres := og_f c1 hres
    refine lv_iload_n hx hb dX8_isRate_4 rfl (lv_at hl 0 rfl) ?_
    refine lv_bipush (v := 100) hx hb dX8_isRate_5 (by decide) ?_
    refine lv_icmp_gt (tgt := 14) hx hb dX8_isRate_7 (by decide) (fun c2 => ?_) (fun c2 => ?_)
    · replace hres := og_t c2 hres
      refine lv_iconst (v := 0) hx hb dX8_isRate_14 (by decide) ?_
      have hres := Option.some.inj hres
      have h0 := hres
      subst h0
      exact hret _ _ _ _ (by decide) hP hD hS dX8_isRate_15
    · replace hres := og_f c2 hres
      refine lv_iconst (v := 1) hx hb dX8_isRate_10 (by decide) ?_
      refine lv_goto (tgt := 15) hx hb dX8_isRate_11 (by decide) ?_
      have hres := Option.some.inj hres
      have h0 := hres
      subst h0
      exact hret _ _ _ _ (by decide) hP hD hS dX8_isRate_15

def pX8_isPercent (x1 : Int32) : Option (Int32) :=
    (if x1 < 0 then
    some (0)
    else
    (if 100 < x1 then
    some (0)
    else
    some (1)))
set_option maxHeartbeats 8000000 in
set_option maxRecDepth 100000 in
theorem tX8_isPercent (l : Launch) (D : va_G) (κ : Nat → ClassId) (x1 : Int32) (r0 : Int32) (hres : pX8_isPercent x1 = some (r0)) : krI l yX8_isPercent wsX8_isPercent { frames := 0, cells := 0, slots := 0, locals := 0 } D κ [.int x1] ([]) ([]) r0 := by
  refine krI_of (cc := cX8_isPercent) (maxL := 1) (rt := .boolean) (by decide) rfl (Nat.le_of_ble_eq_true rfl) ?_
  intro p e s m args below meth c A Q ls hx hb hml hown hts hK hA hret hP hD hS hl
  have hown : s.vm.findClass RX8 = some m.cls := hown
  have hl : lv_has ls 1 [(0, .int x1)] := hl
  unfold pX8_isPercent at hres
  refine lv_iload_n hx hb dX8_isPercent_0 rfl (lv_at hl 0 rfl) ?_
  refine lv_if_lt (tgt := 14) hx hb dX8_isPercent_1 (by decide) (fun c1 => ?_) (fun c1 => ?_)
  · replace hres := og_t c1 hres
    refine lv_iconst (v := 0) hx hb dX8_isPercent_14 (by decide) ?_
    have hres := Option.some.inj hres
    have h0 := hres
    subst h0
    exact hret _ _ _ _ (by decide) hP hD hS dX8_isPercent_15
  · replace hres := og_f c1 hres
    refine lv_iload_n hx hb dX8_isPercent_4 rfl (lv_at hl 0 rfl) ?_
    refine lv_bipush (v := 100) hx hb dX8_isPercent_5 (by decide) ?_
    refine lv_icmp_gt (tgt := 14) hx hb dX8_isPercent_7 (by decide) (fun c2 => ?_) (fun c2 => ?_)
    · replace hres := og_t c2 hres
      refine lv_iconst (v := 0) hx hb dX8_isPercent_14 (by decide) ?_
      have hres := Option.some.inj hres
      have h0 := hres
      subst h0
      exact hret _ _ _ _ (by decide) hP hD hS dX8_isPercent_15
    · replace hres := og_f c2 hres
      refine lv_iconst (v := 1) hx hb dX8_isPercent_10 (by decide) ?_
      refine lv_goto (tgt := 15) hx hb dX8_isPercent_11 (by decide) ?_
      have hres := Option.some.inj hres
      have h0 := hres
      subst h0
      exact hret _ _ _ _ (by decide) hP hD hS dX8_isPercent_15

def pX8_isMuch (x1 : Int32) : Option (Int32) :=
    (if x1 < 0 then
    some (0)
    else
    (if 9999 < x1 then
    some (0)
    else
    some (1)))
set_option maxHeartbeats 8000000 in
set_option maxRecDepth 100000 in
theorem tX8_isMuch (l : Launch) (D : va_G) (κ : Nat → ClassId) (x1 : Int32) (r0 : Int32) (hres : pX8_isMuch x1 = some (r0)) : krI l yX8_isMuch wsX8_isMuch { frames := 0, cells := 0, slots := 0, locals := 0 } D κ [.int x1] ([]) ([]) r0 := by
  refine krI_of (cc := cX8_isMuch) (maxL := 1) (rt := .boolean) (by decide) rfl (Nat.le_of_ble_eq_true rfl) ?_
  intro p e s m args below meth c A Q ls hx hb hml hown hts hK hA hret hP hD hS hl
  have hown : s.vm.findClass RX8 = some m.cls := hown
  have hl : lv_has ls 1 [(0, .int x1)] := hl
  unfold pX8_isMuch at hres
  refine lv_iload_n hx hb dX8_isMuch_0 rfl (lv_at hl 0 rfl) ?_
  refine lv_if_lt (tgt := 15) hx hb dX8_isMuch_1 (by decide) (fun c1 => ?_) (fun c1 => ?_)
  · replace hres := og_t c1 hres
    refine lv_iconst (v := 0) hx hb dX8_isMuch_15 (by decide) ?_
    have hres := Option.some.inj hres
    have h0 := hres
    subst h0
    exact hret _ _ _ _ (by decide) hP hD hS dX8_isMuch_16
  · replace hres := og_f c1 hres
    refine lv_iload_n hx hb dX8_isMuch_4 rfl (lv_at hl 0 rfl) ?_
    refine lv_sipush (v := 9999) hx hb dX8_isMuch_5 (by decide) ?_
    refine lv_icmp_gt (tgt := 15) hx hb dX8_isMuch_8 (by decide) (fun c2 => ?_) (fun c2 => ?_)
    · replace hres := og_t c2 hres
      refine lv_iconst (v := 0) hx hb dX8_isMuch_15 (by decide) ?_
      have hres := Option.some.inj hres
      have h0 := hres
      subst h0
      exact hret _ _ _ _ (by decide) hP hD hS dX8_isMuch_16
    · replace hres := og_f c2 hres
      refine lv_iconst (v := 1) hx hb dX8_isMuch_11 (by decide) ?_
      refine lv_goto (tgt := 16) hx hb dX8_isMuch_12 (by decide) ?_
      have hres := Option.some.inj hres
      have h0 := hres
      subst h0
      exact hret _ _ _ _ (by decide) hP hD hS dX8_isMuch_16

def pX5_cost (st_price : Int32) (st_given : Int32) : Option (Int32) :=
    kb1 (pJ6_bitCount_0f7a4 st_given) fun r1 =>
    some ((if (0 : Int32) < (st_price - (10 * r1)) then (st_price - (10 * r1)) else 0))
set_option maxHeartbeats 8000000 in
set_option maxRecDepth 100000 in
theorem tX5_cost (l : Launch) (D : va_G) (κ : Nat → ClassId) (sto : Nat) (st_goodsA : Nat) (st_ratesA : Nat) (st_price : Int32) (st_months : Int32) (st_chest : Int32) (st_given : Int32) (st_fate : Int32) (st_goods : Nat → Int32) (st_rates : Nat → Int32) (r0 : Int32) (hres : pX5_cost st_price st_given = some (r0)) : krI l yX5_cost wsX5_cost { frames := 1, cells := 0, slots := 0, locals := 100 } D κ [.ref sto] ([(sto, .inr (5, [.int st_price, .int st_months, .int st_chest, .int st_given, .int st_fate, .ref st_goodsA, .ref st_ratesA])), (st_goodsA, .inl (κ 0, 6, .inl st_goods)), (st_ratesA, .inl (κ 0, 6, .inl st_rates))]) ([(sto, .inr (5, [.int st_price, .int st_months, .int st_chest, .int st_given, .int st_fate, .ref st_goodsA, .ref st_ratesA])), (st_goodsA, .inl (κ 0, 6, .inl st_goods)), (st_ratesA, .inl (κ 0, 6, .inl st_rates))]) r0 := by
  refine krI_of (cc := cX5_cost) (maxL := 1) (rt := .int) (by decide) rfl (Nat.le_of_ble_eq_true rfl) ?_
  intro p e s m args below meth c A Q ls hx hb hml hown hts hK hA hret hP hD hS hl
  have hown : s.vm.findClass RX5 = some m.cls := hown
  have hl : lv_has ls 1 [(0, .ref sto)] := hl
  have iw5 : ∀ w ∈ u_ws RX5 TX5 7, w ∈ wsX5_cost := (fun _ h => List.mem_cons_of_mem _ (List.mem_append_right _ h))
  have k0 : (Cond.fieldLink RX5 24 "KingRansom$State" "price" "I").before args s = true := hts _ (List.mem_of_getElem? (i := 1) rfl)
  have k1 : (Cond.fieldLink RX5 31 "KingRansom$State" "given" "I").before args s = true := hts _ (List.mem_of_getElem? (i := 2) rfl)
  have k2 : (Cond.methodLink RX5 44 Lib.Math.max.name).before args s = true := hts _ (List.mem_of_getElem? (i := 3) rfl)
  have k3 : (Cond.static Lib.Math.max.name).before args s = true := hts _ (List.mem_of_getElem? (i := 4) rfl)
  have k4 : (Cond.initialized "java/lang/Math").before args s = true := hts _ (List.mem_of_getElem? (i := 5) rfl)
  have k5 : (Cond.code Lib.Math.max.name Lib.Math.max.code 2 (some .int)).before args s = true := hts _ (List.mem_of_getElem? (i := 6) rfl)
  unfold pX5_cost at hres
  refine lv_iconst (v := 0) hx hb dX5_cost_0 (by decide) ?_
  refine lv_aload_n hx hb dX5_cost_1 rfl (lv_at hl 0 rfl) ?_
  refine va_get (D := D) (ci := 5) (v := .int st_price) (C := RX5) (T := TX5) (N := 7) hx hb hts iw5 hown hK.1 hP 0 rfl rfl 0 (by decide) k0 (fun _ h9 => h9) rfl dX5_cost_2 ?_
  refine lv_bipush (v := 10) hx hb dX5_cost_5 (by decide) ?_
  refine lv_aload_n hx hb dX5_cost_7 rfl (lv_at hl 0 rfl) ?_
  refine va_get (D := D) (ci := 5) (v := .int st_given) (C := RX5) (T := TX5) (N := 7) hx hb hts iw5 hown hK.1 hP 0 rfl rfl 3 (by decide) k1 (fun _ h9 => h9) rfl dX5_cost_8 ?_
  obtain ⟨r1, hc2, hres⟩ := kb1_s hres
  refine krI_S0 (As := [.int st_given]) (rest := [.int 10, .int st_price, .int 0]) ⟨hx, hb, hml, hown, hts⟩ hK (tJ6_bitCount_0f7a4 l D κ st_given r1 hc2) (va_cwS 1 hts gX5_cost_J6_bitCount_0f7a4 rfl rfl rfl (by decide +kernel) ⟨(Nat.le_of_ble_eq_true rfl), (Nat.le_of_ble_eq_true rfl)⟩) hP hD hS hA rfl hl.1 rfl (Nat.le_of_ble_eq_true rfl) dX5_cost_11 ⟨Nat.zero_le _, Nat.zero_le _⟩ (fun H locs hP hD hS => ?_)
  refine lv_imul hx hb dX5_cost_14 ?_
  refine lv_isub hx hb dX5_cost_15 ?_
  refine va_mmax hx hb (hml.trans hl.1.symm) hown k2 k3 k4 k5 (Nat.le_of_ble_eq_true rfl) (Nat.le_of_ble_eq_true rfl) (Nat.zero_le _) (Nat.zero_le _) dX5_cost_16 ?_
  have hres := Option.some.inj hres
  have h0 := hres
  subst h0
  exact hret _ _ _ _ (vp_nar_int _) hP hD hS dX5_cost_19

def pX5_become_L42 (ot_goods : Nat → Int32) (ot_rates : Nat → Int32) : Nat → Int32 → Int32 → Int32 → Int32 → Int32 → Int32 → (Nat → Int32) → (Nat → Int32) → Option (Int32 × Int32 × Int32 × Int32 × Int32 × (Nat → Int32) × (Nat → Int32))
  | 0, _, _, _, _, _, _, _, _ => none
  | n42 + 1, v2, w_st_price, w_st_months, w_st_chest, w_st_given, w_st_fate, w_st_goods, w_st_rates =>
    (if 6 ≤ v2 then
    some (w_st_price, w_st_months, w_st_chest, w_st_given, w_st_fate, w_st_goods, w_st_rates)
    else
    if v2 < 0 ∨ 6 ≤ v2.toNatClampNeg then none else
    pX5_become_L42 ot_goods ot_rates n42 (v2 + 1) w_st_price w_st_months w_st_chest w_st_given w_st_fate (upd w_st_goods v2.toNatClampNeg (ot_goods v2.toNatClampNeg)) (upd w_st_rates v2.toNatClampNeg (ot_rates v2.toNatClampNeg)))
def pX5_become (N : Nat) (st_goods : Nat → Int32) (st_rates : Nat → Int32) (ot_price : Int32) (ot_months : Int32) (ot_chest : Int32) (ot_given : Int32) (ot_fate : Int32) (ot_goods : Nat → Int32) (ot_rates : Nat → Int32) : Option (Int32 × Int32 × Int32 × Int32 × Int32 × (Nat → Int32) × (Nat → Int32)) :=
    pX5_become_L42 ot_goods ot_rates N 0 ot_price ot_months ot_chest ot_given ot_fate st_goods st_rates
set_option maxHeartbeats 8000000 in
set_option maxRecDepth 100000 in
theorem tX5_become (l : Launch) (D : va_G) (κ : Nat → ClassId) (sto : Nat) (st_goodsA : Nat) (st_ratesA : Nat) (oto : Nat) (ot_goodsA : Nat) (ot_ratesA : Nat) (N : Nat) (st_price : Int32) (st_months : Int32) (st_chest : Int32) (st_given : Int32) (st_fate : Int32) (st_goods : Nat → Int32) (st_rates : Nat → Int32) (ot_price : Int32) (ot_months : Int32) (ot_chest : Int32) (ot_given : Int32) (ot_fate : Int32) (ot_goods : Nat → Int32) (ot_rates : Nat → Int32) (z_st_price : Int32) (z_st_months : Int32) (z_st_chest : Int32) (z_st_given : Int32) (z_st_fate : Int32) (z_st_goods : Nat → Int32) (z_st_rates : Nat → Int32) (hres : pX5_become N st_goods st_rates ot_price ot_months ot_chest ot_given ot_fate ot_goods ot_rates = some (z_st_price, z_st_months, z_st_chest, z_st_given, z_st_fate, z_st_goods, z_st_rates)) : krV l yX5_become wsX5_become { frames := 0, cells := 0, slots := 0, locals := 0 } D κ [.ref sto, .ref oto] ([(sto, .inr (5, [.int st_price, .int st_months, .int st_chest, .int st_given, .int st_fate, .ref st_goodsA, .ref st_ratesA])), (st_goodsA, .inl (κ 0, 6, .inl st_goods)), (st_ratesA, .inl (κ 0, 6, .inl st_rates)), (oto, .inr (5, [.int ot_price, .int ot_months, .int ot_chest, .int ot_given, .int ot_fate, .ref ot_goodsA, .ref ot_ratesA])), (ot_goodsA, .inl (κ 0, 6, .inl ot_goods)), (ot_ratesA, .inl (κ 0, 6, .inl ot_rates))]) ([(sto, .inr (5, [.int z_st_price, .int z_st_months, .int z_st_chest, .int z_st_given, .int z_st_fate, .ref st_goodsA, .ref st_ratesA])), (st_goodsA, .inl (κ 0, 6, .inl z_st_goods)), (st_ratesA, .inl (κ 0, 6, .inl z_st_rates)), (oto, .inr (5, [.int ot_price, .int ot_months, .int ot_chest, .int ot_given, .int ot_fate, .ref ot_goodsA, .ref ot_ratesA])), (ot_goodsA, .inl (κ 0, 6, .inl ot_goods)), (ot_ratesA, .inl (κ 0, 6, .inl ot_rates))]) := by
  refine krV_of (cc := cX5_become) (maxL := 3) (by decide) rfl (Nat.le_of_ble_eq_true rfl) ?_
  intro p e s m args below meth c A Q ls hx hb hml hown hts hK hA hret hP hD hS hl
  have hown : s.vm.findClass RX5 = some m.cls := hown
  have hl : lv_has ls 3 [(0, .ref sto), (1, .ref oto)] := hl
  have iw5 : ∀ w ∈ u_ws RX5 TX5 7, w ∈ wsX5_become := (fun _ h => List.mem_cons_of_mem _ (List.mem_append_right _ h))
  have k0 : (Cond.fieldLink RX5 24 "KingRansom$State" "price" "I").before args s = true := hts _ (List.mem_of_getElem? (i := 1) rfl)
  have k1 : (Cond.fieldLink RX5 25 "KingRansom$State" "months" "I").before args s = true := hts _ (List.mem_of_getElem? (i := 2) rfl)
  have k2 : (Cond.fieldLink RX5 28 "KingRansom$State" "chest" "I").before args s = true := hts _ (List.mem_of_getElem? (i := 3) rfl)
  have k3 : (Cond.fieldLink RX5 31 "KingRansom$State" "given" "I").before args s = true := hts _ (List.mem_of_getElem? (i := 4) rfl)
  have k4 : (Cond.fieldLink RX5 34 "KingRansom$State" "fate" "I").before args s = true := hts _ (List.mem_of_getElem? (i := 5) rfl)
  have k5 : (Cond.fieldLink RX5 9 "KingRansom$State" "goods" "[I").before args s = true := hts _ (List.mem_of_getElem? (i := 6) rfl)
  have k6 : (Cond.fieldLink RX5 15 "KingRansom$State" "rates" "[I").before args s = true := hts _ (List.mem_of_getElem? (i := 7) rfl)
  have L42 : ∀ (n42 : Nat) (v2 : Int32) (w_st_price : Int32) (w_st_months : Int32) (w_st_chest : Int32) (w_st_given : Int32) (w_st_fate : Int32) (w_st_goods : Nat → Int32) (w_st_rates : Nat → Int32) (H : Heap) (locs : List Loc) (ls : Array Slot), va_P D vwCl ([(sto, .inr (5, [.int w_st_price, .int w_st_months, .int w_st_chest, .int w_st_given, .int w_st_fate, .ref st_goodsA, .ref st_ratesA])), (st_goodsA, .inl (κ 0, 6, .inl w_st_goods)), (st_ratesA, .inl (κ 0, 6, .inl w_st_rates)), (oto, .inr (5, [.int ot_price, .int ot_months, .int ot_chest, .int ot_given, .int ot_fate, .ref ot_goodsA, .ref ot_ratesA])), (ot_goodsA, .inl (κ 0, 6, .inl ot_goods)), (ot_ratesA, .inl (κ 0, 6, .inl ot_rates))]) H → va_D A ([(sto, .inr (5, [.int w_st_price, .int w_st_months, .int w_st_chest, .int w_st_given, .int w_st_fate, .ref st_goodsA, .ref st_ratesA])), (st_goodsA, .inl (κ 0, 6, .inl w_st_goods)), (st_ratesA, .inl (κ 0, 6, .inl w_st_rates)), (oto, .inr (5, [.int ot_price, .int ot_months, .int ot_chest, .int ot_given, .int ot_fate, .ref ot_goodsA, .ref ot_ratesA])), (ot_goodsA, .inl (κ 0, 6, .inl ot_goods)), (ot_ratesA, .inl (κ 0, 6, .inl ot_rates))]) → va_S A s.heap H locs → lv_has ls 3 [(0, .ref sto), (1, .ref oto), (2, .int v2)] → pX5_become_L42 ot_goods ot_rates n42 v2 w_st_price w_st_months w_st_chest w_st_given w_st_fate w_st_goods w_st_rates = some (z_st_price, z_st_months, z_st_chest, z_st_given, z_st_fate, z_st_goods, z_st_rates) → W p l e { frames := 0, cells := 0, slots := 0, locals := 0 } s m args below meth c H locs 0 0 Q (F0 m 42 ls []) := by
    intro n42
    induction n42 with
    | zero =>
      intro v2 w_st_price w_st_months w_st_chest w_st_given w_st_fate w_st_goods w_st_rates H locs ls hP hD hS hl hres
      exact absurd (show none = some _ from hres) (by simp)
    | succ n42 ih42 =>
      intro v2 w_st_price w_st_months w_st_chest w_st_given w_st_fate w_st_goods w_st_rates H locs ls hP hD hS hl hres
      rw [pX5_become_L42] at hres
      refine lv_iload_n hx hb dX5_become_42 rfl (lv_at hl 2 rfl) ?_
      refine lv_bipush (v := 6) hx hb dX5_become_43 (by decide) ?_
      refine lv_icmp_ge (tgt := 78) hx hb dX5_become_45 (by decide) (fun c1 => ?_) (fun c1 => ?_)
      · replace hres := og_t c1 hres
        have hres := Option.some.inj hres
        have h0 := (Prod.mk.inj hres).1
        replace hres := (Prod.mk.inj hres).2
        have h1 := (Prod.mk.inj hres).1
        replace hres := (Prod.mk.inj hres).2
        have h2 := (Prod.mk.inj hres).1
        replace hres := (Prod.mk.inj hres).2
        have h3 := (Prod.mk.inj hres).1
        replace hres := (Prod.mk.inj hres).2
        have h4 := (Prod.mk.inj hres).1
        replace hres := (Prod.mk.inj hres).2
        have h5 := (Prod.mk.inj hres).1
        replace hres := (Prod.mk.inj hres).2
        have h6 := hres
        subst h0
        subst h1
        subst h2
        subst h3
        subst h4
        subst h5
        subst h6
        exact hret _ _ _ _ hP hD hS dX5_become_78
      · replace hres := og_f c1 hres
        refine lv_aload_n hx hb dX5_become_48 rfl (lv_at hl 0 rfl) ?_
        refine va_get (D := D) (ci := 5) (v := .ref st_goodsA) (C := RX5) (T := TX5) (N := 7) hx hb hts iw5 hown hK.1 hP 0 rfl rfl 5 (by decide) k5 (fun _ h9 => h9) rfl dX5_become_49 ?_
        refine lv_iload_n hx hb dX5_become_52 rfl (lv_at hl 2 rfl) ?_
        refine lv_aload_n hx hb dX5_become_53 rfl (lv_at hl 1 rfl) ?_
        refine va_get (D := D) (ci := 5) (v := .ref ot_goodsA) (C := RX5) (T := TX5) (N := 7) hx hb hts iw5 hown hK.1 hP 3 rfl rfl 5 (by decide) k5 (fun _ h9 => h9) rfl dX5_become_54 ?_
        refine lv_iload_n hx hb dX5_become_57 rfl (lv_at hl 2 rfl) ?_
        obtain ⟨g2, hres⟩ := og_no hres
        refine kr_iald (f := ot_goods) (j := v2.toNatClampNeg) hx hb hK hP 4 rfl g2 rfl dX5_become_58 ?_
        refine kr_iast (f := w_st_goods) (j := v2.toNatClampNeg) (x := (ot_goods v2.toNatClampNeg)) hx hb hK hP hD hS 1 rfl g2 rfl dX5_become_59 (fun H locs hP hD hS => ?_)
        have hP : va_P D vwCl ([(sto, .inr (5, [.int w_st_price, .int w_st_months, .int w_st_chest, .int w_st_given, .int w_st_fate, .ref st_goodsA, .ref st_ratesA])), (st_goodsA, .inl (κ 0, 6, .inl (upd w_st_goods v2.toNatClampNeg (ot_goods v2.toNatClampNeg)))), (st_ratesA, .inl (κ 0, 6, .inl w_st_rates)), (oto, .inr (5, [.int ot_price, .int ot_months, .int ot_chest, .int ot_given, .int ot_fate, .ref ot_goodsA, .ref ot_ratesA])), (ot_goodsA, .inl (κ 0, 6, .inl ot_goods)), (ot_ratesA, .inl (κ 0, 6, .inl ot_rates))]) H := hP
        have hD : va_D A ([(sto, .inr (5, [.int w_st_price, .int w_st_months, .int w_st_chest, .int w_st_given, .int w_st_fate, .ref st_goodsA, .ref st_ratesA])), (st_goodsA, .inl (κ 0, 6, .inl (upd w_st_goods v2.toNatClampNeg (ot_goods v2.toNatClampNeg)))), (st_ratesA, .inl (κ 0, 6, .inl w_st_rates)), (oto, .inr (5, [.int ot_price, .int ot_months, .int ot_chest, .int ot_given, .int ot_fate, .ref ot_goodsA, .ref ot_ratesA])), (ot_goodsA, .inl (κ 0, 6, .inl ot_goods)), (ot_ratesA, .inl (κ 0, 6, .inl ot_rates))]) := hD
        refine lv_aload_n hx hb dX5_become_60 rfl (lv_at hl 0 rfl) ?_
        refine va_get (D := D) (ci := 5) (v := .ref st_ratesA) (C := RX5) (T := TX5) (N := 7) hx hb hts iw5 hown hK.1 hP 0 rfl rfl 6 (by decide) k6 (fun _ h9 => h9) rfl dX5_become_61 ?_
        refine lv_iload_n hx hb dX5_become_64 rfl (lv_at hl 2 rfl) ?_
        refine lv_aload_n hx hb dX5_become_65 rfl (lv_at hl 1 rfl) ?_
        refine va_get (D := D) (ci := 5) (v := .ref ot_ratesA) (C := RX5) (T := TX5) (N := 7) hx hb hts iw5 hown hK.1 hP 3 rfl rfl 6 (by decide) k6 (fun _ h9 => h9) rfl dX5_become_66 ?_
        refine lv_iload_n hx hb dX5_become_69 rfl (lv_at hl 2 rfl) ?_
        refine kr_iald (f := ot_rates) (j := v2.toNatClampNeg) hx hb hK hP 5 rfl g2 rfl dX5_become_70 ?_
        refine kr_iast (f := w_st_rates) (j := v2.toNatClampNeg) (x := (ot_rates v2.toNatClampNeg)) hx hb hK hP hD hS 2 rfl g2 rfl dX5_become_71 (fun H locs hP hD hS => ?_)
        have hP : va_P D vwCl ([(sto, .inr (5, [.int w_st_price, .int w_st_months, .int w_st_chest, .int w_st_given, .int w_st_fate, .ref st_goodsA, .ref st_ratesA])), (st_goodsA, .inl (κ 0, 6, .inl (upd w_st_goods v2.toNatClampNeg (ot_goods v2.toNatClampNeg)))), (st_ratesA, .inl (κ 0, 6, .inl (upd w_st_rates v2.toNatClampNeg (ot_rates v2.toNatClampNeg)))), (oto, .inr (5, [.int ot_price, .int ot_months, .int ot_chest, .int ot_given, .int ot_fate, .ref ot_goodsA, .ref ot_ratesA])), (ot_goodsA, .inl (κ 0, 6, .inl ot_goods)), (ot_ratesA, .inl (κ 0, 6, .inl ot_rates))]) H := hP
        have hD : va_D A ([(sto, .inr (5, [.int w_st_price, .int w_st_months, .int w_st_chest, .int w_st_given, .int w_st_fate, .ref st_goodsA, .ref st_ratesA])), (st_goodsA, .inl (κ 0, 6, .inl (upd w_st_goods v2.toNatClampNeg (ot_goods v2.toNatClampNeg)))), (st_ratesA, .inl (κ 0, 6, .inl (upd w_st_rates v2.toNatClampNeg (ot_rates v2.toNatClampNeg)))), (oto, .inr (5, [.int ot_price, .int ot_months, .int ot_chest, .int ot_given, .int ot_fate, .ref ot_goodsA, .ref ot_ratesA])), (ot_goodsA, .inl (κ 0, 6, .inl ot_goods)), (ot_ratesA, .inl (κ 0, 6, .inl ot_rates))]) := hD
        refine lv_iinc (v := (v2 + 1)) (lv' := [(2, .int (v2 + 1)), (0, .ref sto), (1, .ref oto)]) hx hb dX5_become_72 hl (k := 2) rfl rfl (by decide) rfl (fun ls hl => ?_)
        refine lv_goto (tgt := 42) hx hb dX5_become_75 (by decide) ?_
        exact ih42 (v2 + 1) w_st_price w_st_months w_st_chest w_st_given w_st_fate (upd w_st_goods v2.toNatClampNeg (ot_goods v2.toNatClampNeg)) (upd w_st_rates v2.toNatClampNeg (ot_rates v2.toNatClampNeg)) _ _ _ hP hD hS (lv_sub hl [1, 2, 0] rfl) hres
  unfold pX5_become at hres
  refine lv_aload_n hx hb dX5_become_0 rfl (lv_at hl 0 rfl) ?_
  refine lv_aload_n hx hb dX5_become_1 rfl (lv_at hl 1 rfl) ?_
  refine va_get (D := D) (ci := 5) (v := .int ot_price) (C := RX5) (T := TX5) (N := 7) hx hb hts iw5 hown hK.1 hP 3 rfl rfl 0 (by decide) k0 (fun _ h9 => h9) rfl dX5_become_2 ?_
  refine va_put (D := D) (ci := 5) (v := .int ot_price) (ty := .int) (C := RX5) (T := TX5) (N := 7) hx hb hts iw5 tyX5 tyX5_ok nmX5 hown hK.1 hP hD hS 0 rfl rfl 0 (by decide) k0 (fun _ h9 => h9) rfl (tyX5_ok 0 (by decide)) rfl rfl (Nat.le_of_ble_eq_true rfl) dX5_become_5 (fun H locs hP hD hS => ?_)
  have hP : va_P D vwCl ([(sto, .inr (5, [.int ot_price, .int st_months, .int st_chest, .int st_given, .int st_fate, .ref st_goodsA, .ref st_ratesA])), (st_goodsA, .inl (κ 0, 6, .inl st_goods)), (st_ratesA, .inl (κ 0, 6, .inl st_rates)), (oto, .inr (5, [.int ot_price, .int ot_months, .int ot_chest, .int ot_given, .int ot_fate, .ref ot_goodsA, .ref ot_ratesA])), (ot_goodsA, .inl (κ 0, 6, .inl ot_goods)), (ot_ratesA, .inl (κ 0, 6, .inl ot_rates))]) H := hP
  have hD : va_D A ([(sto, .inr (5, [.int ot_price, .int st_months, .int st_chest, .int st_given, .int st_fate, .ref st_goodsA, .ref st_ratesA])), (st_goodsA, .inl (κ 0, 6, .inl st_goods)), (st_ratesA, .inl (κ 0, 6, .inl st_rates)), (oto, .inr (5, [.int ot_price, .int ot_months, .int ot_chest, .int ot_given, .int ot_fate, .ref ot_goodsA, .ref ot_ratesA])), (ot_goodsA, .inl (κ 0, 6, .inl ot_goods)), (ot_ratesA, .inl (κ 0, 6, .inl ot_rates))]) := hD
  refine lv_aload_n hx hb dX5_become_8 rfl (lv_at hl 0 rfl) ?_
  refine lv_aload_n hx hb dX5_become_9 rfl (lv_at hl 1 rfl) ?_
  refine va_get (D := D) (ci := 5) (v := .int ot_months) (C := RX5) (T := TX5) (N := 7) hx hb hts iw5 hown hK.1 hP 3 rfl rfl 1 (by decide) k1 (fun _ h9 => h9) rfl dX5_become_10 ?_
  refine va_put (D := D) (ci := 5) (v := .int ot_months) (ty := .int) (C := RX5) (T := TX5) (N := 7) hx hb hts iw5 tyX5 tyX5_ok nmX5 hown hK.1 hP hD hS 0 rfl rfl 1 (by decide) k1 (fun _ h9 => h9) rfl (tyX5_ok 1 (by decide)) rfl rfl (Nat.le_of_ble_eq_true rfl) dX5_become_13 (fun H locs hP hD hS => ?_)
  have hP : va_P D vwCl ([(sto, .inr (5, [.int ot_price, .int ot_months, .int st_chest, .int st_given, .int st_fate, .ref st_goodsA, .ref st_ratesA])), (st_goodsA, .inl (κ 0, 6, .inl st_goods)), (st_ratesA, .inl (κ 0, 6, .inl st_rates)), (oto, .inr (5, [.int ot_price, .int ot_months, .int ot_chest, .int ot_given, .int ot_fate, .ref ot_goodsA, .ref ot_ratesA])), (ot_goodsA, .inl (κ 0, 6, .inl ot_goods)), (ot_ratesA, .inl (κ 0, 6, .inl ot_rates))]) H := hP
  have hD : va_D A ([(sto, .inr (5, [.int ot_price, .int ot_months, .int st_chest, .int st_given, .int st_fate, .ref st_goodsA, .ref st_ratesA])), (st_goodsA, .inl (κ 0, 6, .inl st_goods)), (st_ratesA, .inl (κ 0, 6, .inl st_rates)), (oto, .inr (5, [.int ot_price, .int ot_months, .int ot_chest, .int ot_given, .int ot_fate, .ref ot_goodsA, .ref ot_ratesA])), (ot_goodsA, .inl (κ 0, 6, .inl ot_goods)), (ot_ratesA, .inl (κ 0, 6, .inl ot_rates))]) := hD
  refine lv_aload_n hx hb dX5_become_16 rfl (lv_at hl 0 rfl) ?_
  refine lv_aload_n hx hb dX5_become_17 rfl (lv_at hl 1 rfl) ?_
  refine va_get (D := D) (ci := 5) (v := .int ot_chest) (C := RX5) (T := TX5) (N := 7) hx hb hts iw5 hown hK.1 hP 3 rfl rfl 2 (by decide) k2 (fun _ h9 => h9) rfl dX5_become_18 ?_
  refine va_put (D := D) (ci := 5) (v := .int ot_chest) (ty := .int) (C := RX5) (T := TX5) (N := 7) hx hb hts iw5 tyX5 tyX5_ok nmX5 hown hK.1 hP hD hS 0 rfl rfl 2 (by decide) k2 (fun _ h9 => h9) rfl (tyX5_ok 2 (by decide)) rfl rfl (Nat.le_of_ble_eq_true rfl) dX5_become_21 (fun H locs hP hD hS => ?_)
  have hP : va_P D vwCl ([(sto, .inr (5, [.int ot_price, .int ot_months, .int ot_chest, .int st_given, .int st_fate, .ref st_goodsA, .ref st_ratesA])), (st_goodsA, .inl (κ 0, 6, .inl st_goods)), (st_ratesA, .inl (κ 0, 6, .inl st_rates)), (oto, .inr (5, [.int ot_price, .int ot_months, .int ot_chest, .int ot_given, .int ot_fate, .ref ot_goodsA, .ref ot_ratesA])), (ot_goodsA, .inl (κ 0, 6, .inl ot_goods)), (ot_ratesA, .inl (κ 0, 6, .inl ot_rates))]) H := hP
  have hD : va_D A ([(sto, .inr (5, [.int ot_price, .int ot_months, .int ot_chest, .int st_given, .int st_fate, .ref st_goodsA, .ref st_ratesA])), (st_goodsA, .inl (κ 0, 6, .inl st_goods)), (st_ratesA, .inl (κ 0, 6, .inl st_rates)), (oto, .inr (5, [.int ot_price, .int ot_months, .int ot_chest, .int ot_given, .int ot_fate, .ref ot_goodsA, .ref ot_ratesA])), (ot_goodsA, .inl (κ 0, 6, .inl ot_goods)), (ot_ratesA, .inl (κ 0, 6, .inl ot_rates))]) := hD
  refine lv_aload_n hx hb dX5_become_24 rfl (lv_at hl 0 rfl) ?_
  refine lv_aload_n hx hb dX5_become_25 rfl (lv_at hl 1 rfl) ?_
  refine va_get (D := D) (ci := 5) (v := .int ot_given) (C := RX5) (T := TX5) (N := 7) hx hb hts iw5 hown hK.1 hP 3 rfl rfl 3 (by decide) k3 (fun _ h9 => h9) rfl dX5_become_26 ?_
  refine va_put (D := D) (ci := 5) (v := .int ot_given) (ty := .int) (C := RX5) (T := TX5) (N := 7) hx hb hts iw5 tyX5 tyX5_ok nmX5 hown hK.1 hP hD hS 0 rfl rfl 3 (by decide) k3 (fun _ h9 => h9) rfl (tyX5_ok 3 (by decide)) rfl rfl (Nat.le_of_ble_eq_true rfl) dX5_become_29 (fun H locs hP hD hS => ?_)
  have hP : va_P D vwCl ([(sto, .inr (5, [.int ot_price, .int ot_months, .int ot_chest, .int ot_given, .int st_fate, .ref st_goodsA, .ref st_ratesA])), (st_goodsA, .inl (κ 0, 6, .inl st_goods)), (st_ratesA, .inl (κ 0, 6, .inl st_rates)), (oto, .inr (5, [.int ot_price, .int ot_months, .int ot_chest, .int ot_given, .int ot_fate, .ref ot_goodsA, .ref ot_ratesA])), (ot_goodsA, .inl (κ 0, 6, .inl ot_goods)), (ot_ratesA, .inl (κ 0, 6, .inl ot_rates))]) H := hP
  have hD : va_D A ([(sto, .inr (5, [.int ot_price, .int ot_months, .int ot_chest, .int ot_given, .int st_fate, .ref st_goodsA, .ref st_ratesA])), (st_goodsA, .inl (κ 0, 6, .inl st_goods)), (st_ratesA, .inl (κ 0, 6, .inl st_rates)), (oto, .inr (5, [.int ot_price, .int ot_months, .int ot_chest, .int ot_given, .int ot_fate, .ref ot_goodsA, .ref ot_ratesA])), (ot_goodsA, .inl (κ 0, 6, .inl ot_goods)), (ot_ratesA, .inl (κ 0, 6, .inl ot_rates))]) := hD
  refine lv_aload_n hx hb dX5_become_32 rfl (lv_at hl 0 rfl) ?_
  refine lv_aload_n hx hb dX5_become_33 rfl (lv_at hl 1 rfl) ?_
  refine va_get (D := D) (ci := 5) (v := .int ot_fate) (C := RX5) (T := TX5) (N := 7) hx hb hts iw5 hown hK.1 hP 3 rfl rfl 4 (by decide) k4 (fun _ h9 => h9) rfl dX5_become_34 ?_
  refine va_put (D := D) (ci := 5) (v := .int ot_fate) (ty := .int) (C := RX5) (T := TX5) (N := 7) hx hb hts iw5 tyX5 tyX5_ok nmX5 hown hK.1 hP hD hS 0 rfl rfl 4 (by decide) k4 (fun _ h9 => h9) rfl (tyX5_ok 4 (by decide)) rfl rfl (Nat.le_of_ble_eq_true rfl) dX5_become_37 (fun H locs hP hD hS => ?_)
  have hP : va_P D vwCl ([(sto, .inr (5, [.int ot_price, .int ot_months, .int ot_chest, .int ot_given, .int ot_fate, .ref st_goodsA, .ref st_ratesA])), (st_goodsA, .inl (κ 0, 6, .inl st_goods)), (st_ratesA, .inl (κ 0, 6, .inl st_rates)), (oto, .inr (5, [.int ot_price, .int ot_months, .int ot_chest, .int ot_given, .int ot_fate, .ref ot_goodsA, .ref ot_ratesA])), (ot_goodsA, .inl (κ 0, 6, .inl ot_goods)), (ot_ratesA, .inl (κ 0, 6, .inl ot_rates))]) H := hP
  have hD : va_D A ([(sto, .inr (5, [.int ot_price, .int ot_months, .int ot_chest, .int ot_given, .int ot_fate, .ref st_goodsA, .ref st_ratesA])), (st_goodsA, .inl (κ 0, 6, .inl st_goods)), (st_ratesA, .inl (κ 0, 6, .inl st_rates)), (oto, .inr (5, [.int ot_price, .int ot_months, .int ot_chest, .int ot_given, .int ot_fate, .ref ot_goodsA, .ref ot_ratesA])), (ot_goodsA, .inl (κ 0, 6, .inl ot_goods)), (ot_ratesA, .inl (κ 0, 6, .inl ot_rates))]) := hD
  refine lv_iconst (v := 0) hx hb dX5_become_40 (by decide) ?_
  refine lv_istore_n (lv' := [(2, .int 0), (0, .ref sto), (1, .ref oto)]) hx hb dX5_become_41 rfl hl (by decide) rfl (fun ls hl => ?_)
  exact L42 N 0 ot_price ot_months ot_chest ot_given ot_fate st_goods st_rates _ _ _ hP hD hS (lv_sub hl [1, 2, 0] rfl) hres

def pX5_begin_L30 (tl_goods : Nat → Int32) : Nat → Int32 → Int32 → Int32 → Int32 → Int32 → Int32 → (Nat → Int32) → (Nat → Int32) → Option (Int32 × Int32 × Int32 × Int32 × Int32 × (Nat → Int32) × (Nat → Int32))
  | 0, _, _, _, _, _, _, _, _ => none
  | n30 + 1, v2, w_st_price, w_st_months, w_st_chest, w_st_given, w_st_fate, w_st_goods, w_st_rates =>
    (if 6 ≤ v2 then
    some (w_st_price, w_st_months, w_st_chest, w_st_given, w_st_fate, w_st_goods, w_st_rates)
    else
    if v2 < 0 ∨ 6 ≤ v2.toNatClampNeg then none else
    pX5_begin_L30 tl_goods n30 (v2 + 1) w_st_price w_st_months w_st_chest w_st_given w_st_fate (upd w_st_goods v2.toNatClampNeg (tl_goods v2.toNatClampNeg)) (upd w_st_rates v2.toNatClampNeg 0))
def pX5_begin (N : Nat) (st_goods : Nat → Int32) (st_rates : Nat → Int32) (tl_price : Int32) (tl_goods : Nat → Int32) : Option (Int32 × Int32 × Int32 × Int32 × Int32 × (Nat → Int32) × (Nat → Int32)) :=
    pX5_begin_L30 tl_goods N 0 tl_price 0 0 0 0 st_goods st_rates
set_option maxHeartbeats 8000000 in
set_option maxRecDepth 100000 in
theorem tX5_begin (l : Launch) (D : va_G) (κ : Nat → ClassId) (sto : Nat) (st_goodsA : Nat) (st_ratesA : Nat) (tlo : Nat) (tl_goodsA : Nat) (tl_shyA : Nat) (tl_bidOfA : Nat) (tl_daysOfA : Nat) (N : Nat) (st_price : Int32) (st_months : Int32) (st_chest : Int32) (st_given : Int32) (st_fate : Int32) (st_goods : Nat → Int32) (st_rates : Nat → Int32) (tl_stands : Int32) (tl_price : Int32) (tl_death : Int32) (tl_payers : Int32) (tl_bids : Int32) (tl_hostages : Int32) (tl_bags : Int32) (tl_bagMarks : Int32) (tl_goods : Nat → Int32) (tl_shy : Nat → Int32) (tl_bidOf : Nat → Int32) (tl_daysOf : Nat → Int32) (z_st_price : Int32) (z_st_months : Int32) (z_st_chest : Int32) (z_st_given : Int32) (z_st_fate : Int32) (z_st_goods : Nat → Int32) (z_st_rates : Nat → Int32) (hres : pX5_begin N st_goods st_rates tl_price tl_goods = some (z_st_price, z_st_months, z_st_chest, z_st_given, z_st_fate, z_st_goods, z_st_rates)) : krV l yX5_begin wsX5_begin { frames := 0, cells := 0, slots := 0, locals := 0 } D κ [.ref sto, .ref tlo] ([(sto, .inr (5, [.int st_price, .int st_months, .int st_chest, .int st_given, .int st_fate, .ref st_goodsA, .ref st_ratesA])), (st_goodsA, .inl (κ 0, 6, .inl st_goods)), (st_ratesA, .inl (κ 0, 6, .inl st_rates)), (tlo, .inr (6, [.int tl_stands, .int tl_price, .int tl_death, .int tl_payers, .int tl_bids, .int tl_hostages, .int tl_bags, .int tl_bagMarks, .ref tl_goodsA, .ref tl_shyA, .ref tl_bidOfA, .ref tl_daysOfA])), (tl_goodsA, .inl (κ 0, 6, .inl tl_goods)), (tl_shyA, .inl (κ 0, 6, .inl tl_shy)), (tl_bidOfA, .inl (κ 0, 9, .inl tl_bidOf)), (tl_daysOfA, .inl (κ 0, 6, .inl tl_daysOf))]) ([(sto, .inr (5, [.int z_st_price, .int z_st_months, .int z_st_chest, .int z_st_given, .int z_st_fate, .ref st_goodsA, .ref st_ratesA])), (st_goodsA, .inl (κ 0, 6, .inl z_st_goods)), (st_ratesA, .inl (κ 0, 6, .inl z_st_rates)), (tlo, .inr (6, [.int tl_stands, .int tl_price, .int tl_death, .int tl_payers, .int tl_bids, .int tl_hostages, .int tl_bags, .int tl_bagMarks, .ref tl_goodsA, .ref tl_shyA, .ref tl_bidOfA, .ref tl_daysOfA])), (tl_goodsA, .inl (κ 0, 6, .inl tl_goods)), (tl_shyA, .inl (κ 0, 6, .inl tl_shy)), (tl_bidOfA, .inl (κ 0, 9, .inl tl_bidOf)), (tl_daysOfA, .inl (κ 0, 6, .inl tl_daysOf))]) := by
  refine krV_of (cc := cX5_begin) (maxL := 3) (by decide) rfl (Nat.le_of_ble_eq_true rfl) ?_
  intro p e s m args below meth c A Q ls hx hb hml hown hts hK hA hret hP hD hS hl
  have hown : s.vm.findClass RX5 = some m.cls := hown
  have hl : lv_has ls 3 [(0, .ref sto), (1, .ref tlo)] := hl
  have iw6 : ∀ w ∈ u_ws RX6 TX6 12, w ∈ wsX5_begin := (fun _ h => List.mem_cons_of_mem _ (List.mem_append_left _ (List.mem_append_right _ h)))
  have iw5 : ∀ w ∈ u_ws RX5 TX5 7, w ∈ wsX5_begin := (fun _ h => List.mem_cons_of_mem _ (List.mem_append_right _ h))
  have k0 : (Cond.fieldLink RX5 24 "KingRansom$State" "price" "I").before args s = true := hts _ (List.mem_of_getElem? (i := 1) rfl)
  have k1 : (Cond.fieldLink RX5 25 "KingRansom$State" "months" "I").before args s = true := hts _ (List.mem_of_getElem? (i := 2) rfl)
  have k2 : (Cond.fieldLink RX5 28 "KingRansom$State" "chest" "I").before args s = true := hts _ (List.mem_of_getElem? (i := 3) rfl)
  have k3 : (Cond.fieldLink RX5 31 "KingRansom$State" "given" "I").before args s = true := hts _ (List.mem_of_getElem? (i := 4) rfl)
  have k4 : (Cond.fieldLink RX5 34 "KingRansom$State" "fate" "I").before args s = true := hts _ (List.mem_of_getElem? (i := 5) rfl)
  have k5 : (Cond.fieldLink RX5 9 "KingRansom$State" "goods" "[I").before args s = true := hts _ (List.mem_of_getElem? (i := 6) rfl)
  have k6 : (Cond.fieldLink RX5 15 "KingRansom$State" "rates" "[I").before args s = true := hts _ (List.mem_of_getElem? (i := 7) rfl)
  have L30 : ∀ (n30 : Nat) (v2 : Int32) (w_st_price : Int32) (w_st_months : Int32) (w_st_chest : Int32) (w_st_given : Int32) (w_st_fate : Int32) (w_st_goods : Nat → Int32) (w_st_rates : Nat → Int32) (H : Heap) (locs : List Loc) (ls : Array Slot), va_P D vwCl ([(sto, .inr (5, [.int w_st_price, .int w_st_months, .int w_st_chest, .int w_st_given, .int w_st_fate, .ref st_goodsA, .ref st_ratesA])), (st_goodsA, .inl (κ 0, 6, .inl w_st_goods)), (st_ratesA, .inl (κ 0, 6, .inl w_st_rates)), (tlo, .inr (6, [.int tl_stands, .int tl_price, .int tl_death, .int tl_payers, .int tl_bids, .int tl_hostages, .int tl_bags, .int tl_bagMarks, .ref tl_goodsA, .ref tl_shyA, .ref tl_bidOfA, .ref tl_daysOfA])), (tl_goodsA, .inl (κ 0, 6, .inl tl_goods)), (tl_shyA, .inl (κ 0, 6, .inl tl_shy)), (tl_bidOfA, .inl (κ 0, 9, .inl tl_bidOf)), (tl_daysOfA, .inl (κ 0, 6, .inl tl_daysOf))]) H → va_D A ([(sto, .inr (5, [.int w_st_price, .int w_st_months, .int w_st_chest, .int w_st_given, .int w_st_fate, .ref st_goodsA, .ref st_ratesA])), (st_goodsA, .inl (κ 0, 6, .inl w_st_goods)), (st_ratesA, .inl (κ 0, 6, .inl w_st_rates)), (tlo, .inr (6, [.int tl_stands, .int tl_price, .int tl_death, .int tl_payers, .int tl_bids, .int tl_hostages, .int tl_bags, .int tl_bagMarks, .ref tl_goodsA, .ref tl_shyA, .ref tl_bidOfA, .ref tl_daysOfA])), (tl_goodsA, .inl (κ 0, 6, .inl tl_goods)), (tl_shyA, .inl (κ 0, 6, .inl tl_shy)), (tl_bidOfA, .inl (κ 0, 9, .inl tl_bidOf)), (tl_daysOfA, .inl (κ 0, 6, .inl tl_daysOf))]) → va_S A s.heap H locs → lv_has ls 3 [(0, .ref sto), (1, .ref tlo), (2, .int v2)] → pX5_begin_L30 tl_goods n30 v2 w_st_price w_st_months w_st_chest w_st_given w_st_fate w_st_goods w_st_rates = some (z_st_price, z_st_months, z_st_chest, z_st_given, z_st_fate, z_st_goods, z_st_rates) → W p l e { frames := 0, cells := 0, slots := 0, locals := 0 } s m args below meth c H locs 0 0 Q (F0 m 30 ls []) := by
    intro n30
    induction n30 with
    | zero =>
      intro v2 w_st_price w_st_months w_st_chest w_st_given w_st_fate w_st_goods w_st_rates H locs ls hP hD hS hl hres
      exact absurd (show none = some _ from hres) (by simp)
    | succ n30 ih30 =>
      intro v2 w_st_price w_st_months w_st_chest w_st_given w_st_fate w_st_goods w_st_rates H locs ls hP hD hS hl hres
      rw [pX5_begin_L30] at hres
      refine lv_iload_n hx hb dX5_begin_30 rfl (lv_at hl 2 rfl) ?_
      refine lv_bipush (v := 6) hx hb dX5_begin_31 (by decide) ?_
      refine lv_icmp_ge (tgt := 61) hx hb dX5_begin_33 (by decide) (fun c1 => ?_) (fun c1 => ?_)
      · replace hres := og_t c1 hres
        have hres := Option.some.inj hres
        have h0 := (Prod.mk.inj hres).1
        replace hres := (Prod.mk.inj hres).2
        have h1 := (Prod.mk.inj hres).1
        replace hres := (Prod.mk.inj hres).2
        have h2 := (Prod.mk.inj hres).1
        replace hres := (Prod.mk.inj hres).2
        have h3 := (Prod.mk.inj hres).1
        replace hres := (Prod.mk.inj hres).2
        have h4 := (Prod.mk.inj hres).1
        replace hres := (Prod.mk.inj hres).2
        have h5 := (Prod.mk.inj hres).1
        replace hres := (Prod.mk.inj hres).2
        have h6 := hres
        subst h0
        subst h1
        subst h2
        subst h3
        subst h4
        subst h5
        subst h6
        exact hret _ _ _ _ hP hD hS dX5_begin_61
      · replace hres := og_f c1 hres
        refine lv_aload_n hx hb dX5_begin_36 rfl (lv_at hl 0 rfl) ?_
        refine va_get (D := D) (ci := 5) (v := .ref st_goodsA) (C := RX5) (T := TX5) (N := 7) hx hb hts iw5 hown hK.1 hP 0 rfl rfl 5 (by decide) k5 (fun _ h9 => h9) rfl dX5_begin_37 ?_
        refine lv_iload_n hx hb dX5_begin_40 rfl (lv_at hl 2 rfl) ?_
        refine lv_aload_n hx hb dX5_begin_41 rfl (lv_at hl 1 rfl) ?_
        refine va_getN (D := D) (ci := 6) (v := .ref tl_goodsA) (C := RX6) (T := TX6) (N := 12) hx hb hts iw6 hown hK.1 hP 3 rfl rfl 8 (by decide) (hK.fl 23 rfl) (fun _ h9 => h9) rfl dX5_begin_42 ?_
        refine lv_iload_n hx hb dX5_begin_45 rfl (lv_at hl 2 rfl) ?_
        obtain ⟨g2, hres⟩ := og_no hres
        refine kr_iald (f := tl_goods) (j := v2.toNatClampNeg) hx hb hK hP 4 rfl g2 rfl dX5_begin_46 ?_
        refine kr_iast (f := w_st_goods) (j := v2.toNatClampNeg) (x := (tl_goods v2.toNatClampNeg)) hx hb hK hP hD hS 1 rfl g2 rfl dX5_begin_47 (fun H locs hP hD hS => ?_)
        have hP : va_P D vwCl ([(sto, .inr (5, [.int w_st_price, .int w_st_months, .int w_st_chest, .int w_st_given, .int w_st_fate, .ref st_goodsA, .ref st_ratesA])), (st_goodsA, .inl (κ 0, 6, .inl (upd w_st_goods v2.toNatClampNeg (tl_goods v2.toNatClampNeg)))), (st_ratesA, .inl (κ 0, 6, .inl w_st_rates)), (tlo, .inr (6, [.int tl_stands, .int tl_price, .int tl_death, .int tl_payers, .int tl_bids, .int tl_hostages, .int tl_bags, .int tl_bagMarks, .ref tl_goodsA, .ref tl_shyA, .ref tl_bidOfA, .ref tl_daysOfA])), (tl_goodsA, .inl (κ 0, 6, .inl tl_goods)), (tl_shyA, .inl (κ 0, 6, .inl tl_shy)), (tl_bidOfA, .inl (κ 0, 9, .inl tl_bidOf)), (tl_daysOfA, .inl (κ 0, 6, .inl tl_daysOf))]) H := hP
        have hD : va_D A ([(sto, .inr (5, [.int w_st_price, .int w_st_months, .int w_st_chest, .int w_st_given, .int w_st_fate, .ref st_goodsA, .ref st_ratesA])), (st_goodsA, .inl (κ 0, 6, .inl (upd w_st_goods v2.toNatClampNeg (tl_goods v2.toNatClampNeg)))), (st_ratesA, .inl (κ 0, 6, .inl w_st_rates)), (tlo, .inr (6, [.int tl_stands, .int tl_price, .int tl_death, .int tl_payers, .int tl_bids, .int tl_hostages, .int tl_bags, .int tl_bagMarks, .ref tl_goodsA, .ref tl_shyA, .ref tl_bidOfA, .ref tl_daysOfA])), (tl_goodsA, .inl (κ 0, 6, .inl tl_goods)), (tl_shyA, .inl (κ 0, 6, .inl tl_shy)), (tl_bidOfA, .inl (κ 0, 9, .inl tl_bidOf)), (tl_daysOfA, .inl (κ 0, 6, .inl tl_daysOf))]) := hD
        refine lv_aload_n hx hb dX5_begin_48 rfl (lv_at hl 0 rfl) ?_
        refine va_get (D := D) (ci := 5) (v := .ref st_ratesA) (C := RX5) (T := TX5) (N := 7) hx hb hts iw5 hown hK.1 hP 0 rfl rfl 6 (by decide) k6 (fun _ h9 => h9) rfl dX5_begin_49 ?_
        refine lv_iload_n hx hb dX5_begin_52 rfl (lv_at hl 2 rfl) ?_
        refine lv_iconst (v := 0) hx hb dX5_begin_53 (by decide) ?_
        refine kr_iast (f := w_st_rates) (j := v2.toNatClampNeg) (x := 0) hx hb hK hP hD hS 2 rfl g2 rfl dX5_begin_54 (fun H locs hP hD hS => ?_)
        have hP : va_P D vwCl ([(sto, .inr (5, [.int w_st_price, .int w_st_months, .int w_st_chest, .int w_st_given, .int w_st_fate, .ref st_goodsA, .ref st_ratesA])), (st_goodsA, .inl (κ 0, 6, .inl (upd w_st_goods v2.toNatClampNeg (tl_goods v2.toNatClampNeg)))), (st_ratesA, .inl (κ 0, 6, .inl (upd w_st_rates v2.toNatClampNeg 0))), (tlo, .inr (6, [.int tl_stands, .int tl_price, .int tl_death, .int tl_payers, .int tl_bids, .int tl_hostages, .int tl_bags, .int tl_bagMarks, .ref tl_goodsA, .ref tl_shyA, .ref tl_bidOfA, .ref tl_daysOfA])), (tl_goodsA, .inl (κ 0, 6, .inl tl_goods)), (tl_shyA, .inl (κ 0, 6, .inl tl_shy)), (tl_bidOfA, .inl (κ 0, 9, .inl tl_bidOf)), (tl_daysOfA, .inl (κ 0, 6, .inl tl_daysOf))]) H := hP
        have hD : va_D A ([(sto, .inr (5, [.int w_st_price, .int w_st_months, .int w_st_chest, .int w_st_given, .int w_st_fate, .ref st_goodsA, .ref st_ratesA])), (st_goodsA, .inl (κ 0, 6, .inl (upd w_st_goods v2.toNatClampNeg (tl_goods v2.toNatClampNeg)))), (st_ratesA, .inl (κ 0, 6, .inl (upd w_st_rates v2.toNatClampNeg 0))), (tlo, .inr (6, [.int tl_stands, .int tl_price, .int tl_death, .int tl_payers, .int tl_bids, .int tl_hostages, .int tl_bags, .int tl_bagMarks, .ref tl_goodsA, .ref tl_shyA, .ref tl_bidOfA, .ref tl_daysOfA])), (tl_goodsA, .inl (κ 0, 6, .inl tl_goods)), (tl_shyA, .inl (κ 0, 6, .inl tl_shy)), (tl_bidOfA, .inl (κ 0, 9, .inl tl_bidOf)), (tl_daysOfA, .inl (κ 0, 6, .inl tl_daysOf))]) := hD
        refine lv_iinc (v := (v2 + 1)) (lv' := [(2, .int (v2 + 1)), (0, .ref sto), (1, .ref tlo)]) hx hb dX5_begin_55 hl (k := 2) rfl rfl (by decide) rfl (fun ls hl => ?_)
        refine lv_goto (tgt := 30) hx hb dX5_begin_58 (by decide) ?_
        exact ih30 (v2 + 1) w_st_price w_st_months w_st_chest w_st_given w_st_fate (upd w_st_goods v2.toNatClampNeg (tl_goods v2.toNatClampNeg)) (upd w_st_rates v2.toNatClampNeg 0) _ _ _ hP hD hS (lv_sub hl [1, 2, 0] rfl) hres
  unfold pX5_begin at hres
  refine lv_aload_n hx hb dX5_begin_0 rfl (lv_at hl 0 rfl) ?_
  refine lv_aload_n hx hb dX5_begin_1 rfl (lv_at hl 1 rfl) ?_
  refine va_getN (D := D) (ci := 6) (v := .int tl_price) (C := RX6) (T := TX6) (N := 12) hx hb hts iw6 hown hK.1 hP 3 rfl rfl 1 (by decide) (hK.fl 5 rfl) (fun _ h9 => h9) rfl dX5_begin_2 ?_
  refine va_put (D := D) (ci := 5) (v := .int tl_price) (ty := .int) (C := RX5) (T := TX5) (N := 7) hx hb hts iw5 tyX5 tyX5_ok nmX5 hown hK.1 hP hD hS 0 rfl rfl 0 (by decide) k0 (fun _ h9 => h9) rfl (tyX5_ok 0 (by decide)) rfl rfl (Nat.le_of_ble_eq_true rfl) dX5_begin_5 (fun H locs hP hD hS => ?_)
  have hP : va_P D vwCl ([(sto, .inr (5, [.int tl_price, .int st_months, .int st_chest, .int st_given, .int st_fate, .ref st_goodsA, .ref st_ratesA])), (st_goodsA, .inl (κ 0, 6, .inl st_goods)), (st_ratesA, .inl (κ 0, 6, .inl st_rates)), (tlo, .inr (6, [.int tl_stands, .int tl_price, .int tl_death, .int tl_payers, .int tl_bids, .int tl_hostages, .int tl_bags, .int tl_bagMarks, .ref tl_goodsA, .ref tl_shyA, .ref tl_bidOfA, .ref tl_daysOfA])), (tl_goodsA, .inl (κ 0, 6, .inl tl_goods)), (tl_shyA, .inl (κ 0, 6, .inl tl_shy)), (tl_bidOfA, .inl (κ 0, 9, .inl tl_bidOf)), (tl_daysOfA, .inl (κ 0, 6, .inl tl_daysOf))]) H := hP
  have hD : va_D A ([(sto, .inr (5, [.int tl_price, .int st_months, .int st_chest, .int st_given, .int st_fate, .ref st_goodsA, .ref st_ratesA])), (st_goodsA, .inl (κ 0, 6, .inl st_goods)), (st_ratesA, .inl (κ 0, 6, .inl st_rates)), (tlo, .inr (6, [.int tl_stands, .int tl_price, .int tl_death, .int tl_payers, .int tl_bids, .int tl_hostages, .int tl_bags, .int tl_bagMarks, .ref tl_goodsA, .ref tl_shyA, .ref tl_bidOfA, .ref tl_daysOfA])), (tl_goodsA, .inl (κ 0, 6, .inl tl_goods)), (tl_shyA, .inl (κ 0, 6, .inl tl_shy)), (tl_bidOfA, .inl (κ 0, 9, .inl tl_bidOf)), (tl_daysOfA, .inl (κ 0, 6, .inl tl_daysOf))]) := hD
  refine lv_aload_n hx hb dX5_begin_8 rfl (lv_at hl 0 rfl) ?_
  refine lv_iconst (v := 0) hx hb dX5_begin_9 (by decide) ?_
  refine va_put (D := D) (ci := 5) (v := .int 0) (ty := .int) (C := RX5) (T := TX5) (N := 7) hx hb hts iw5 tyX5 tyX5_ok nmX5 hown hK.1 hP hD hS 0 rfl rfl 1 (by decide) k1 (fun _ h9 => h9) rfl (tyX5_ok 1 (by decide)) rfl rfl (Nat.le_of_ble_eq_true rfl) dX5_begin_10 (fun H locs hP hD hS => ?_)
  have hP : va_P D vwCl ([(sto, .inr (5, [.int tl_price, .int 0, .int st_chest, .int st_given, .int st_fate, .ref st_goodsA, .ref st_ratesA])), (st_goodsA, .inl (κ 0, 6, .inl st_goods)), (st_ratesA, .inl (κ 0, 6, .inl st_rates)), (tlo, .inr (6, [.int tl_stands, .int tl_price, .int tl_death, .int tl_payers, .int tl_bids, .int tl_hostages, .int tl_bags, .int tl_bagMarks, .ref tl_goodsA, .ref tl_shyA, .ref tl_bidOfA, .ref tl_daysOfA])), (tl_goodsA, .inl (κ 0, 6, .inl tl_goods)), (tl_shyA, .inl (κ 0, 6, .inl tl_shy)), (tl_bidOfA, .inl (κ 0, 9, .inl tl_bidOf)), (tl_daysOfA, .inl (κ 0, 6, .inl tl_daysOf))]) H := hP
  have hD : va_D A ([(sto, .inr (5, [.int tl_price, .int 0, .int st_chest, .int st_given, .int st_fate, .ref st_goodsA, .ref st_ratesA])), (st_goodsA, .inl (κ 0, 6, .inl st_goods)), (st_ratesA, .inl (κ 0, 6, .inl st_rates)), (tlo, .inr (6, [.int tl_stands, .int tl_price, .int tl_death, .int tl_payers, .int tl_bids, .int tl_hostages, .int tl_bags, .int tl_bagMarks, .ref tl_goodsA, .ref tl_shyA, .ref tl_bidOfA, .ref tl_daysOfA])), (tl_goodsA, .inl (κ 0, 6, .inl tl_goods)), (tl_shyA, .inl (κ 0, 6, .inl tl_shy)), (tl_bidOfA, .inl (κ 0, 9, .inl tl_bidOf)), (tl_daysOfA, .inl (κ 0, 6, .inl tl_daysOf))]) := hD
  refine lv_aload_n hx hb dX5_begin_13 rfl (lv_at hl 0 rfl) ?_
  refine lv_iconst (v := 0) hx hb dX5_begin_14 (by decide) ?_
  refine va_put (D := D) (ci := 5) (v := .int 0) (ty := .int) (C := RX5) (T := TX5) (N := 7) hx hb hts iw5 tyX5 tyX5_ok nmX5 hown hK.1 hP hD hS 0 rfl rfl 2 (by decide) k2 (fun _ h9 => h9) rfl (tyX5_ok 2 (by decide)) rfl rfl (Nat.le_of_ble_eq_true rfl) dX5_begin_15 (fun H locs hP hD hS => ?_)
  have hP : va_P D vwCl ([(sto, .inr (5, [.int tl_price, .int 0, .int 0, .int st_given, .int st_fate, .ref st_goodsA, .ref st_ratesA])), (st_goodsA, .inl (κ 0, 6, .inl st_goods)), (st_ratesA, .inl (κ 0, 6, .inl st_rates)), (tlo, .inr (6, [.int tl_stands, .int tl_price, .int tl_death, .int tl_payers, .int tl_bids, .int tl_hostages, .int tl_bags, .int tl_bagMarks, .ref tl_goodsA, .ref tl_shyA, .ref tl_bidOfA, .ref tl_daysOfA])), (tl_goodsA, .inl (κ 0, 6, .inl tl_goods)), (tl_shyA, .inl (κ 0, 6, .inl tl_shy)), (tl_bidOfA, .inl (κ 0, 9, .inl tl_bidOf)), (tl_daysOfA, .inl (κ 0, 6, .inl tl_daysOf))]) H := hP
  have hD : va_D A ([(sto, .inr (5, [.int tl_price, .int 0, .int 0, .int st_given, .int st_fate, .ref st_goodsA, .ref st_ratesA])), (st_goodsA, .inl (κ 0, 6, .inl st_goods)), (st_ratesA, .inl (κ 0, 6, .inl st_rates)), (tlo, .inr (6, [.int tl_stands, .int tl_price, .int tl_death, .int tl_payers, .int tl_bids, .int tl_hostages, .int tl_bags, .int tl_bagMarks, .ref tl_goodsA, .ref tl_shyA, .ref tl_bidOfA, .ref tl_daysOfA])), (tl_goodsA, .inl (κ 0, 6, .inl tl_goods)), (tl_shyA, .inl (κ 0, 6, .inl tl_shy)), (tl_bidOfA, .inl (κ 0, 9, .inl tl_bidOf)), (tl_daysOfA, .inl (κ 0, 6, .inl tl_daysOf))]) := hD
  refine lv_aload_n hx hb dX5_begin_18 rfl (lv_at hl 0 rfl) ?_
  refine lv_iconst (v := 0) hx hb dX5_begin_19 (by decide) ?_
  refine va_put (D := D) (ci := 5) (v := .int 0) (ty := .int) (C := RX5) (T := TX5) (N := 7) hx hb hts iw5 tyX5 tyX5_ok nmX5 hown hK.1 hP hD hS 0 rfl rfl 3 (by decide) k3 (fun _ h9 => h9) rfl (tyX5_ok 3 (by decide)) rfl rfl (Nat.le_of_ble_eq_true rfl) dX5_begin_20 (fun H locs hP hD hS => ?_)
  have hP : va_P D vwCl ([(sto, .inr (5, [.int tl_price, .int 0, .int 0, .int 0, .int st_fate, .ref st_goodsA, .ref st_ratesA])), (st_goodsA, .inl (κ 0, 6, .inl st_goods)), (st_ratesA, .inl (κ 0, 6, .inl st_rates)), (tlo, .inr (6, [.int tl_stands, .int tl_price, .int tl_death, .int tl_payers, .int tl_bids, .int tl_hostages, .int tl_bags, .int tl_bagMarks, .ref tl_goodsA, .ref tl_shyA, .ref tl_bidOfA, .ref tl_daysOfA])), (tl_goodsA, .inl (κ 0, 6, .inl tl_goods)), (tl_shyA, .inl (κ 0, 6, .inl tl_shy)), (tl_bidOfA, .inl (κ 0, 9, .inl tl_bidOf)), (tl_daysOfA, .inl (κ 0, 6, .inl tl_daysOf))]) H := hP
  have hD : va_D A ([(sto, .inr (5, [.int tl_price, .int 0, .int 0, .int 0, .int st_fate, .ref st_goodsA, .ref st_ratesA])), (st_goodsA, .inl (κ 0, 6, .inl st_goods)), (st_ratesA, .inl (κ 0, 6, .inl st_rates)), (tlo, .inr (6, [.int tl_stands, .int tl_price, .int tl_death, .int tl_payers, .int tl_bids, .int tl_hostages, .int tl_bags, .int tl_bagMarks, .ref tl_goodsA, .ref tl_shyA, .ref tl_bidOfA, .ref tl_daysOfA])), (tl_goodsA, .inl (κ 0, 6, .inl tl_goods)), (tl_shyA, .inl (κ 0, 6, .inl tl_shy)), (tl_bidOfA, .inl (κ 0, 9, .inl tl_bidOf)), (tl_daysOfA, .inl (κ 0, 6, .inl tl_daysOf))]) := hD
  refine lv_aload_n hx hb dX5_begin_23 rfl (lv_at hl 0 rfl) ?_
  refine lv_iconst (v := 0) hx hb dX5_begin_24 (by decide) ?_
  refine va_put (D := D) (ci := 5) (v := .int 0) (ty := .int) (C := RX5) (T := TX5) (N := 7) hx hb hts iw5 tyX5 tyX5_ok nmX5 hown hK.1 hP hD hS 0 rfl rfl 4 (by decide) k4 (fun _ h9 => h9) rfl (tyX5_ok 4 (by decide)) rfl rfl (Nat.le_of_ble_eq_true rfl) dX5_begin_25 (fun H locs hP hD hS => ?_)
  have hP : va_P D vwCl ([(sto, .inr (5, [.int tl_price, .int 0, .int 0, .int 0, .int 0, .ref st_goodsA, .ref st_ratesA])), (st_goodsA, .inl (κ 0, 6, .inl st_goods)), (st_ratesA, .inl (κ 0, 6, .inl st_rates)), (tlo, .inr (6, [.int tl_stands, .int tl_price, .int tl_death, .int tl_payers, .int tl_bids, .int tl_hostages, .int tl_bags, .int tl_bagMarks, .ref tl_goodsA, .ref tl_shyA, .ref tl_bidOfA, .ref tl_daysOfA])), (tl_goodsA, .inl (κ 0, 6, .inl tl_goods)), (tl_shyA, .inl (κ 0, 6, .inl tl_shy)), (tl_bidOfA, .inl (κ 0, 9, .inl tl_bidOf)), (tl_daysOfA, .inl (κ 0, 6, .inl tl_daysOf))]) H := hP
  have hD : va_D A ([(sto, .inr (5, [.int tl_price, .int 0, .int 0, .int 0, .int 0, .ref st_goodsA, .ref st_ratesA])), (st_goodsA, .inl (κ 0, 6, .inl st_goods)), (st_ratesA, .inl (κ 0, 6, .inl st_rates)), (tlo, .inr (6, [.int tl_stands, .int tl_price, .int tl_death, .int tl_payers, .int tl_bids, .int tl_hostages, .int tl_bags, .int tl_bagMarks, .ref tl_goodsA, .ref tl_shyA, .ref tl_bidOfA, .ref tl_daysOfA])), (tl_goodsA, .inl (κ 0, 6, .inl tl_goods)), (tl_shyA, .inl (κ 0, 6, .inl tl_shy)), (tl_bidOfA, .inl (κ 0, 9, .inl tl_bidOf)), (tl_daysOfA, .inl (κ 0, 6, .inl tl_daysOf))]) := hD
  refine lv_iconst (v := 0) hx hb dX5_begin_28 (by decide) ?_
  refine lv_istore_n (lv' := [(2, .int 0), (0, .ref sto), (1, .ref tlo)]) hx hb dX5_begin_29 rfl hl (by decide) rfl (fun ls hl => ?_)
  exact L30 N 0 tl_price 0 0 0 0 st_goods st_rates _ _ _ hP hD hS (lv_sub hl [1, 2, 0] rfl) hres

def pX5_passMonth_L2 (st_months : Int32) (st_rates : Nat → Int32) (tl_payers : Int32) (tl_shy : Nat → Int32) : Nat → Int32 → Int32 → (Nat → Int32) → Option (Int32 × Int32 × (Nat → Int32))
  | 0, _, _, _ => none
  | n2 + 1, v2, w_st_chest, w_st_goods =>
    (if tl_payers ≤ v2 then
    some ((st_months + 1), w_st_chest, w_st_goods)
    else
    if v2 < 0 ∨ 6 ≤ v2.toNatClampNeg then none else
    kb1 (pX8_pays (w_st_goods v2.toNatClampNeg) (tl_shy v2.toNatClampNeg) (st_rates v2.toNatClampNeg)) fun r3 =>
    kl ((w_st_goods v2.toNatClampNeg) - r3) fun y5 =>
    pX5_passMonth_L2 st_months st_rates tl_payers tl_shy n2 (v2 + 1) (w_st_chest + r3) (upd w_st_goods v2.toNatClampNeg y5))
def pX5_passMonth (N : Nat) (st_months : Int32) (st_chest : Int32) (st_goods : Nat → Int32) (st_rates : Nat → Int32) (tl_payers : Int32) (tl_shy : Nat → Int32) : Option (Int32 × Int32 × (Nat → Int32)) :=
    pX5_passMonth_L2 st_months st_rates tl_payers tl_shy N 0 st_chest st_goods
set_option maxHeartbeats 8000000 in
set_option maxRecDepth 100000 in
theorem tX5_passMonth (l : Launch) (D : va_G) (κ : Nat → ClassId) (sto : Nat) (st_goodsA : Nat) (st_ratesA : Nat) (tlo : Nat) (tl_goodsA : Nat) (tl_shyA : Nat) (tl_bidOfA : Nat) (tl_daysOfA : Nat) (N : Nat) (st_price : Int32) (st_months : Int32) (st_chest : Int32) (st_given : Int32) (st_fate : Int32) (st_goods : Nat → Int32) (st_rates : Nat → Int32) (tl_stands : Int32) (tl_price : Int32) (tl_death : Int32) (tl_payers : Int32) (tl_bids : Int32) (tl_hostages : Int32) (tl_bags : Int32) (tl_bagMarks : Int32) (tl_goods : Nat → Int32) (tl_shy : Nat → Int32) (tl_bidOf : Nat → Int32) (tl_daysOf : Nat → Int32) (z_st_months : Int32) (z_st_chest : Int32) (z_st_goods : Nat → Int32) (hres : pX5_passMonth N st_months st_chest st_goods st_rates tl_payers tl_shy = some (z_st_months, z_st_chest, z_st_goods)) : krV l yX5_passMonth wsX5_passMonth { frames := 3, cells := 0, slots := 0, locals := 300 } D κ [.ref sto, .ref tlo] ([(sto, .inr (5, [.int st_price, .int st_months, .int st_chest, .int st_given, .int st_fate, .ref st_goodsA, .ref st_ratesA])), (st_goodsA, .inl (κ 0, 6, .inl st_goods)), (st_ratesA, .inl (κ 0, 6, .inl st_rates)), (tlo, .inr (6, [.int tl_stands, .int tl_price, .int tl_death, .int tl_payers, .int tl_bids, .int tl_hostages, .int tl_bags, .int tl_bagMarks, .ref tl_goodsA, .ref tl_shyA, .ref tl_bidOfA, .ref tl_daysOfA])), (tl_goodsA, .inl (κ 0, 6, .inl tl_goods)), (tl_shyA, .inl (κ 0, 6, .inl tl_shy)), (tl_bidOfA, .inl (κ 0, 9, .inl tl_bidOf)), (tl_daysOfA, .inl (κ 0, 6, .inl tl_daysOf))]) ([(sto, .inr (5, [.int st_price, .int z_st_months, .int z_st_chest, .int st_given, .int st_fate, .ref st_goodsA, .ref st_ratesA])), (st_goodsA, .inl (κ 0, 6, .inl z_st_goods)), (st_ratesA, .inl (κ 0, 6, .inl st_rates)), (tlo, .inr (6, [.int tl_stands, .int tl_price, .int tl_death, .int tl_payers, .int tl_bids, .int tl_hostages, .int tl_bags, .int tl_bagMarks, .ref tl_goodsA, .ref tl_shyA, .ref tl_bidOfA, .ref tl_daysOfA])), (tl_goodsA, .inl (κ 0, 6, .inl tl_goods)), (tl_shyA, .inl (κ 0, 6, .inl tl_shy)), (tl_bidOfA, .inl (κ 0, 9, .inl tl_bidOf)), (tl_daysOfA, .inl (κ 0, 6, .inl tl_daysOf))]) := by
  refine krV_of (cc := cX5_passMonth) (maxL := 4) (by decide) rfl (Nat.le_of_ble_eq_true rfl) ?_
  intro p e s m args below meth c A Q ls hx hb hml hown hts hK hA hret hP hD hS hl
  have hown : s.vm.findClass RX5 = some m.cls := hown
  have hl : lv_has ls 4 [(0, .ref sto), (1, .ref tlo)] := hl
  have iw6 : ∀ w ∈ u_ws RX6 TX6 12, w ∈ wsX5_passMonth := (fun _ h => List.mem_cons_of_mem _ (List.mem_append_left _ (List.mem_append_right _ h)))
  have iw5 : ∀ w ∈ u_ws RX5 TX5 7, w ∈ wsX5_passMonth := (fun _ h => List.mem_cons_of_mem _ (List.mem_append_right _ h))
  have k0 : (Cond.fieldLink RX5 25 "KingRansom$State" "months" "I").before args s = true := hts _ (List.mem_of_getElem? (i := 4) rfl)
  have k1 : (Cond.fieldLink RX5 9 "KingRansom$State" "goods" "[I").before args s = true := hts _ (List.mem_of_getElem? (i := 1) rfl)
  have k2 : (Cond.fieldLink RX5 15 "KingRansom$State" "rates" "[I").before args s = true := hts _ (List.mem_of_getElem? (i := 2) rfl)
  have k3 : (Cond.initialized RX8).before args s = true := hts _ (List.mem_of_getElem? (i := 6) rfl)
  have k4 : (Cond.static yX8_pays).before args s = true := hts _ (List.mem_of_getElem? (i := 5) rfl)
  have k5 : (Cond.fieldLink RX5 28 "KingRansom$State" "chest" "I").before args s = true := hts _ (List.mem_of_getElem? (i := 3) rfl)
  have L2 : ∀ (n2 : Nat) (v2 : Int32) (w_st_chest : Int32) (w_st_goods : Nat → Int32) (H : Heap) (locs : List Loc) (ls : Array Slot), va_P D vwCl ([(sto, .inr (5, [.int st_price, .int st_months, .int w_st_chest, .int st_given, .int st_fate, .ref st_goodsA, .ref st_ratesA])), (st_goodsA, .inl (κ 0, 6, .inl w_st_goods)), (st_ratesA, .inl (κ 0, 6, .inl st_rates)), (tlo, .inr (6, [.int tl_stands, .int tl_price, .int tl_death, .int tl_payers, .int tl_bids, .int tl_hostages, .int tl_bags, .int tl_bagMarks, .ref tl_goodsA, .ref tl_shyA, .ref tl_bidOfA, .ref tl_daysOfA])), (tl_goodsA, .inl (κ 0, 6, .inl tl_goods)), (tl_shyA, .inl (κ 0, 6, .inl tl_shy)), (tl_bidOfA, .inl (κ 0, 9, .inl tl_bidOf)), (tl_daysOfA, .inl (κ 0, 6, .inl tl_daysOf))]) H → va_D A ([(sto, .inr (5, [.int st_price, .int st_months, .int w_st_chest, .int st_given, .int st_fate, .ref st_goodsA, .ref st_ratesA])), (st_goodsA, .inl (κ 0, 6, .inl w_st_goods)), (st_ratesA, .inl (κ 0, 6, .inl st_rates)), (tlo, .inr (6, [.int tl_stands, .int tl_price, .int tl_death, .int tl_payers, .int tl_bids, .int tl_hostages, .int tl_bags, .int tl_bagMarks, .ref tl_goodsA, .ref tl_shyA, .ref tl_bidOfA, .ref tl_daysOfA])), (tl_goodsA, .inl (κ 0, 6, .inl tl_goods)), (tl_shyA, .inl (κ 0, 6, .inl tl_shy)), (tl_bidOfA, .inl (κ 0, 9, .inl tl_bidOf)), (tl_daysOfA, .inl (κ 0, 6, .inl tl_daysOf))]) → va_S A s.heap H locs → lv_has ls 4 [(0, .ref sto), (1, .ref tlo), (2, .int v2)] → pX5_passMonth_L2 st_months st_rates tl_payers tl_shy n2 v2 w_st_chest w_st_goods = some (z_st_months, z_st_chest, z_st_goods) → W p l e { frames := 3, cells := 0, slots := 0, locals := 300 } s m args below meth c H locs 0 0 Q (F0 m 2 ls []) := by
    intro n2
    induction n2 with
    | zero =>
      intro v2 w_st_chest w_st_goods H locs ls hP hD hS hl hres
      exact absurd (show none = some _ from hres) (by simp)
    | succ n2 ih2 =>
      intro v2 w_st_chest w_st_goods H locs ls hP hD hS hl hres
      rw [pX5_passMonth_L2] at hres
      refine lv_iload_n hx hb dX5_passMonth_2 rfl (lv_at hl 2 rfl) ?_
      refine lv_aload_n hx hb dX5_passMonth_3 rfl (lv_at hl 1 rfl) ?_
      refine va_getN (D := D) (ci := 6) (v := .int tl_payers) (C := RX6) (T := TX6) (N := 12) hx hb hts iw6 hown hK.1 hP 3 rfl rfl 3 (by decide) (hK.fl 11 rfl) (fun _ h9 => h9) rfl dX5_passMonth_4 ?_
      refine lv_icmp_ge (tgt := 58) hx hb dX5_passMonth_7 (by decide) (fun c1 => ?_) (fun c1 => ?_)
      · replace hres := og_t c1 hres
        refine lv_aload_n hx hb dX5_passMonth_58 rfl (lv_at hl 0 rfl) ?_
        refine lv_dup hx hb dX5_passMonth_59 rfl ?_
        refine va_get (D := D) (ci := 5) (v := .int st_months) (C := RX5) (T := TX5) (N := 7) hx hb hts iw5 hown hK.1 hP 0 rfl rfl 1 (by decide) k0 (fun _ h9 => h9) rfl dX5_passMonth_60 ?_
        refine lv_iconst (v := 1) hx hb dX5_passMonth_63 (by decide) ?_
        refine lv_iadd hx hb dX5_passMonth_64 ?_
        refine va_put (D := D) (ci := 5) (v := .int (st_months + 1)) (ty := .int) (C := RX5) (T := TX5) (N := 7) hx hb hts iw5 tyX5 tyX5_ok nmX5 hown hK.1 hP hD hS 0 rfl rfl 1 (by decide) k0 (fun _ h9 => h9) rfl (tyX5_ok 1 (by decide)) rfl rfl (Nat.le_of_ble_eq_true rfl) dX5_passMonth_65 (fun H locs hP hD hS => ?_)
        have hP : va_P D vwCl ([(sto, .inr (5, [.int st_price, .int (st_months + 1), .int w_st_chest, .int st_given, .int st_fate, .ref st_goodsA, .ref st_ratesA])), (st_goodsA, .inl (κ 0, 6, .inl w_st_goods)), (st_ratesA, .inl (κ 0, 6, .inl st_rates)), (tlo, .inr (6, [.int tl_stands, .int tl_price, .int tl_death, .int tl_payers, .int tl_bids, .int tl_hostages, .int tl_bags, .int tl_bagMarks, .ref tl_goodsA, .ref tl_shyA, .ref tl_bidOfA, .ref tl_daysOfA])), (tl_goodsA, .inl (κ 0, 6, .inl tl_goods)), (tl_shyA, .inl (κ 0, 6, .inl tl_shy)), (tl_bidOfA, .inl (κ 0, 9, .inl tl_bidOf)), (tl_daysOfA, .inl (κ 0, 6, .inl tl_daysOf))]) H := hP
        have hD : va_D A ([(sto, .inr (5, [.int st_price, .int (st_months + 1), .int w_st_chest, .int st_given, .int st_fate, .ref st_goodsA, .ref st_ratesA])), (st_goodsA, .inl (κ 0, 6, .inl w_st_goods)), (st_ratesA, .inl (κ 0, 6, .inl st_rates)), (tlo, .inr (6, [.int tl_stands, .int tl_price, .int tl_death, .int tl_payers, .int tl_bids, .int tl_hostages, .int tl_bags, .int tl_bagMarks, .ref tl_goodsA, .ref tl_shyA, .ref tl_bidOfA, .ref tl_daysOfA])), (tl_goodsA, .inl (κ 0, 6, .inl tl_goods)), (tl_shyA, .inl (κ 0, 6, .inl tl_shy)), (tl_bidOfA, .inl (κ 0, 9, .inl tl_bidOf)), (tl_daysOfA, .inl (κ 0, 6, .inl tl_daysOf))]) := hD
        have hres := Option.some.inj hres
        have h0 := (Prod.mk.inj hres).1
        replace hres := (Prod.mk.inj hres).2
        have h1 := (Prod.mk.inj hres).1
        replace hres := (Prod.mk.inj hres).2
        have h2 := hres
        subst h0
        subst h1
        subst h2
        exact hret _ _ _ _ hP hD hS dX5_passMonth_68
      · replace hres := og_f c1 hres
        refine lv_aload_n hx hb dX5_passMonth_10 rfl (lv_at hl 0 rfl) ?_
        refine va_get (D := D) (ci := 5) (v := .ref st_goodsA) (C := RX5) (T := TX5) (N := 7) hx hb hts iw5 hown hK.1 hP 0 rfl rfl 5 (by decide) k1 (fun _ h9 => h9) rfl dX5_passMonth_11 ?_
        refine lv_iload_n hx hb dX5_passMonth_14 rfl (lv_at hl 2 rfl) ?_
        obtain ⟨g2, hres⟩ := og_no hres
        refine kr_iald (f := w_st_goods) (j := v2.toNatClampNeg) hx hb hK hP 1 rfl g2 rfl dX5_passMonth_15 ?_
        refine lv_aload_n hx hb dX5_passMonth_16 rfl (lv_at hl 1 rfl) ?_
        refine va_getN (D := D) (ci := 6) (v := .ref tl_shyA) (C := RX6) (T := TX6) (N := 12) hx hb hts iw6 hown hK.1 hP 3 rfl rfl 9 (by decide) (hK.fl 25 rfl) (fun _ h9 => h9) rfl dX5_passMonth_17 ?_
        refine lv_iload_n hx hb dX5_passMonth_20 rfl (lv_at hl 2 rfl) ?_
        refine kr_iald (f := tl_shy) (j := v2.toNatClampNeg) hx hb hK hP 5 rfl g2 rfl dX5_passMonth_21 ?_
        refine lv_aload_n hx hb dX5_passMonth_22 rfl (lv_at hl 0 rfl) ?_
        refine va_get (D := D) (ci := 5) (v := .ref st_ratesA) (C := RX5) (T := TX5) (N := 7) hx hb hts iw5 hown hK.1 hP 0 rfl rfl 6 (by decide) k2 (fun _ h9 => h9) rfl dX5_passMonth_23 ?_
        refine lv_iload_n hx hb dX5_passMonth_26 rfl (lv_at hl 2 rfl) ?_
        refine kr_iald (f := st_rates) (j := v2.toNatClampNeg) hx hb hK hP 2 rfl g2 rfl dX5_passMonth_27 ?_
        obtain ⟨r3, hc4, hres⟩ := kb1_s hres
        refine krI_SN0 (As := [.int (w_st_goods v2.toNatClampNeg), .int (tl_shy v2.toNatClampNeg), .int (st_rates v2.toNatClampNeg)]) (rest := []) ⟨hx, hb, hml, hown, hts⟩ hK (tX8_pays l D κ (w_st_goods v2.toNatClampNeg) (tl_shy v2.toNatClampNeg) (st_rates v2.toNatClampNeg) r3 hc4) ⟨va_cnB 3 hts gX5_passMonth_X8_pays_n56 rfl rfl rfl (hK.ml 23 rfl) k3 (by decide +kernel) ⟨(Nat.le_of_ble_eq_true rfl), (Nat.le_of_ble_eq_true rfl)⟩, k4, trivial⟩ hP hD hS hA rfl hl.1 rfl (Nat.le_of_ble_eq_true rfl) dX5_passMonth_28 ⟨Nat.zero_le _, Nat.zero_le _⟩ (fun H locs hP hD hS => ?_)
        refine lv_istore_n (lv' := [(3, .int r3), (0, .ref sto), (1, .ref tlo), (2, .int v2)]) hx hb dX5_passMonth_31 rfl hl (by decide) rfl (fun ls hl => ?_)
        refine lv_aload_n hx hb dX5_passMonth_32 rfl (lv_at hl 1 rfl) ?_
        refine va_get (D := D) (ci := 5) (v := .ref st_goodsA) (C := RX5) (T := TX5) (N := 7) hx hb hts iw5 hown hK.1 hP 0 rfl rfl 5 (by decide) k1 (fun _ h9 => h9) rfl dX5_passMonth_33 ?_
        refine lv_iload_n hx hb dX5_passMonth_36 rfl (lv_at hl 3 rfl) ?_
        refine lv_dup2_11 hx hb dX5_passMonth_37 rfl rfl ?_
        refine kr_iald (f := w_st_goods) (j := v2.toNatClampNeg) hx hb hK hP 1 rfl g2 rfl dX5_passMonth_38 ?_
        refine lv_iload_n hx hb dX5_passMonth_39 rfl (lv_at hl 0 rfl) ?_
        refine lv_isub hx hb dX5_passMonth_40 ?_
        obtain ⟨y5, ey5, hres⟩ := kl_s hres
        refine kr_tope ey5 ?_
        refine kr_iast (f := w_st_goods) (j := v2.toNatClampNeg) (x := y5) hx hb hK hP hD hS 1 rfl g2 rfl dX5_passMonth_41 (fun H locs hP hD hS => ?_)
        have hP : va_P D vwCl ([(sto, .inr (5, [.int st_price, .int st_months, .int w_st_chest, .int st_given, .int st_fate, .ref st_goodsA, .ref st_ratesA])), (st_goodsA, .inl (κ 0, 6, .inl (upd w_st_goods v2.toNatClampNeg y5))), (st_ratesA, .inl (κ 0, 6, .inl st_rates)), (tlo, .inr (6, [.int tl_stands, .int tl_price, .int tl_death, .int tl_payers, .int tl_bids, .int tl_hostages, .int tl_bags, .int tl_bagMarks, .ref tl_goodsA, .ref tl_shyA, .ref tl_bidOfA, .ref tl_daysOfA])), (tl_goodsA, .inl (κ 0, 6, .inl tl_goods)), (tl_shyA, .inl (κ 0, 6, .inl tl_shy)), (tl_bidOfA, .inl (κ 0, 9, .inl tl_bidOf)), (tl_daysOfA, .inl (κ 0, 6, .inl tl_daysOf))]) H := hP
        have hD : va_D A ([(sto, .inr (5, [.int st_price, .int st_months, .int w_st_chest, .int st_given, .int st_fate, .ref st_goodsA, .ref st_ratesA])), (st_goodsA, .inl (κ 0, 6, .inl (upd w_st_goods v2.toNatClampNeg y5))), (st_ratesA, .inl (κ 0, 6, .inl st_rates)), (tlo, .inr (6, [.int tl_stands, .int tl_price, .int tl_death, .int tl_payers, .int tl_bids, .int tl_hostages, .int tl_bags, .int tl_bagMarks, .ref tl_goodsA, .ref tl_shyA, .ref tl_bidOfA, .ref tl_daysOfA])), (tl_goodsA, .inl (κ 0, 6, .inl tl_goods)), (tl_shyA, .inl (κ 0, 6, .inl tl_shy)), (tl_bidOfA, .inl (κ 0, 9, .inl tl_bidOf)), (tl_daysOfA, .inl (κ 0, 6, .inl tl_daysOf))]) := hD
        refine lv_aload_n hx hb dX5_passMonth_42 rfl (lv_at hl 1 rfl) ?_
        refine lv_dup hx hb dX5_passMonth_43 rfl ?_
        refine va_get (D := D) (ci := 5) (v := .int w_st_chest) (C := RX5) (T := TX5) (N := 7) hx hb hts iw5 hown hK.1 hP 0 rfl rfl 2 (by decide) k5 (fun _ h9 => h9) rfl dX5_passMonth_44 ?_
        refine lv_iload_n hx hb dX5_passMonth_47 rfl (lv_at hl 0 rfl) ?_
        refine lv_iadd hx hb dX5_passMonth_48 ?_
        refine va_put (D := D) (ci := 5) (v := .int (w_st_chest + r3)) (ty := .int) (C := RX5) (T := TX5) (N := 7) hx hb hts iw5 tyX5 tyX5_ok nmX5 hown hK.1 hP hD hS 0 rfl rfl 2 (by decide) k5 (fun _ h9 => h9) rfl (tyX5_ok 2 (by decide)) rfl rfl (Nat.le_of_ble_eq_true rfl) dX5_passMonth_49 (fun H locs hP hD hS => ?_)
        have hP : va_P D vwCl ([(sto, .inr (5, [.int st_price, .int st_months, .int (w_st_chest + r3), .int st_given, .int st_fate, .ref st_goodsA, .ref st_ratesA])), (st_goodsA, .inl (κ 0, 6, .inl (upd w_st_goods v2.toNatClampNeg y5))), (st_ratesA, .inl (κ 0, 6, .inl st_rates)), (tlo, .inr (6, [.int tl_stands, .int tl_price, .int tl_death, .int tl_payers, .int tl_bids, .int tl_hostages, .int tl_bags, .int tl_bagMarks, .ref tl_goodsA, .ref tl_shyA, .ref tl_bidOfA, .ref tl_daysOfA])), (tl_goodsA, .inl (κ 0, 6, .inl tl_goods)), (tl_shyA, .inl (κ 0, 6, .inl tl_shy)), (tl_bidOfA, .inl (κ 0, 9, .inl tl_bidOf)), (tl_daysOfA, .inl (κ 0, 6, .inl tl_daysOf))]) H := hP
        have hD : va_D A ([(sto, .inr (5, [.int st_price, .int st_months, .int (w_st_chest + r3), .int st_given, .int st_fate, .ref st_goodsA, .ref st_ratesA])), (st_goodsA, .inl (κ 0, 6, .inl (upd w_st_goods v2.toNatClampNeg y5))), (st_ratesA, .inl (κ 0, 6, .inl st_rates)), (tlo, .inr (6, [.int tl_stands, .int tl_price, .int tl_death, .int tl_payers, .int tl_bids, .int tl_hostages, .int tl_bags, .int tl_bagMarks, .ref tl_goodsA, .ref tl_shyA, .ref tl_bidOfA, .ref tl_daysOfA])), (tl_goodsA, .inl (κ 0, 6, .inl tl_goods)), (tl_shyA, .inl (κ 0, 6, .inl tl_shy)), (tl_bidOfA, .inl (κ 0, 9, .inl tl_bidOf)), (tl_daysOfA, .inl (κ 0, 6, .inl tl_daysOf))]) := hD
        refine lv_iinc (v := (v2 + 1)) (lv' := [(2, .int (v2 + 1)), (3, .int r3), (0, .ref sto), (1, .ref tlo)]) hx hb dX5_passMonth_52 hl (k := 3) rfl rfl (by decide) rfl (fun ls hl => ?_)
        refine lv_goto (tgt := 2) hx hb dX5_passMonth_55 (by decide) ?_
        exact ih2 (v2 + 1) (w_st_chest + r3) (upd w_st_goods v2.toNatClampNeg y5) _ _ _ hP hD hS (lv_sub hl [2, 3, 0] rfl) hres
  unfold pX5_passMonth at hres
  refine lv_iconst (v := 0) hx hb dX5_passMonth_0 (by decide) ?_
  refine lv_istore_n (lv' := [(2, .int 0), (0, .ref sto), (1, .ref tlo)]) hx hb dX5_passMonth_1 rfl hl (by decide) rfl (fun ls hl => ?_)
  exact L2 N 0 st_chest st_goods _ _ _ hP hD hS (lv_sub hl [1, 2, 0] rfl) hres
