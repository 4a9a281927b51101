def pX9_in (x1 : Int64) (x2 : Int64) (x3 : Int64) : Option (Int32) :=
    (if (lg_cmp x1 x2) < 0 then
    some (0)
    else
    (if 0 < (lg_cmp x1 x3) then
    some (0)
    else
    some (1)))
set_option maxHeartbeats 8000000 in
set_option maxRecDepth 100000 in
theorem tX9_in (l : Launch) (D : va_G) (κ : Nat → ClassId) (x1 : Int64) (x2 : Int64) (x3 : Int64) (r0 : Int32) (hres : pX9_in x1 x2 x3 = some (r0)) : krI l yX9_in wsX9_in { frames := 0, cells := 0, slots := 0, locals := 0 } D κ [.long x1, .long x2, .long x3] ([]) ([]) r0 := by
  refine krI_of (cc := cX9_in) (maxL := 6) (rt := .boolean) (by decide) rfl (Nat.le_of_ble_eq_true rfl) ?_
  intro p e s m args below meth c A Q ls hx hb hml hown hts hK hA hret hP hD hS hl
  have hown : s.vm.findClass RX9 = some m.cls := hown
  have hl : lv_has ls 6 [(0, .long x1), (2, .long x2), (4, .long x3)] := hl
  unfold pX9_in at hres
  refine lv_lload_n hx hb dX9_in_0 rfl (lv_at hl 0 rfl) ?_
  refine lv_lload_n hx hb dX9_in_1 rfl (lv_at hl 1 rfl) ?_
  refine W.lcmp hx hb dX9_in_2 ?_
  refine lv_if_lt (tgt := 17) hx hb dX9_in_3 (by decide) (fun c1 => ?_) (fun c1 => ?_)
  · replace hres := og_t c1 hres
    refine lv_iconst (v := 0) hx hb dX9_in_17 (by decide) ?_
    have hres := Option.some.inj hres
    have h0 := hres
    subst h0
    exact hret _ _ _ _ (by decide) hP hD hS dX9_in_18
  · replace hres := og_f c1 hres
    refine lv_lload_n hx hb dX9_in_6 rfl (lv_at hl 0 rfl) ?_
    refine lv_lload hx hb dX9_in_7 (lv_at hl 2 rfl) ?_
    refine W.lcmp hx hb dX9_in_9 ?_
    refine lv_if_gt (tgt := 17) hx hb dX9_in_10 (by decide) (fun c2 => ?_) (fun c2 => ?_)
    · replace hres := og_t c2 hres
      refine lv_iconst (v := 0) hx hb dX9_in_17 (by decide) ?_
      have hres := Option.some.inj hres
      have h0 := hres
      subst h0
      exact hret _ _ _ _ (by decide) hP hD hS dX9_in_18
    · replace hres := og_f c2 hres
      refine lv_iconst (v := 1) hx hb dX9_in_13 (by decide) ?_
      refine lv_goto (tgt := 18) hx hb dX9_in_14 (by decide) ?_
      have hres := Option.some.inj hres
      have h0 := hres
      subst h0
      exact hret _ _ _ _ (by decide) hP hD hS dX9_in_18

def pX9_has (x1 : Int32) (x2 : Int32) : Option (Int32) :=
    (if ((x1 >>> (x2 &&& 31)) &&& 1) = 1 then
    some (1)
    else
    some (0))
set_option maxHeartbeats 8000000 in
set_option maxRecDepth 100000 in
theorem tX9_has (l : Launch) (D : va_G) (κ : Nat → ClassId) (x1 : Int32) (x2 : Int32) (r0 : Int32) (hres : pX9_has x1 x2 = some (r0)) : krI l yX9_has wsX9_has { frames := 0, cells := 0, slots := 0, locals := 0 } D κ [.int x1, .int x2] ([]) ([]) r0 := by
  refine krI_of (cc := cX9_has) (maxL := 2) (rt := .boolean) (by decide) rfl (Nat.le_of_ble_eq_true rfl) ?_
  intro p e s m args below meth c A Q ls hx hb hml hown hts hK hA hret hP hD hS hl
  have hown : s.vm.findClass RX9 = some m.cls := hown
  have hl : lv_has ls 2 [(0, .int x1), (1, .int x2)] := hl
  unfold pX9_has at hres
  refine lv_iload_n hx hb dX9_has_0 rfl (lv_at hl 0 rfl) ?_
  refine lv_iload_n hx hb dX9_has_1 rfl (lv_at hl 1 rfl) ?_
  refine lv_ishr hx hb dX9_has_2 ?_
  refine lv_iconst (v := 1) hx hb dX9_has_3 (by decide) ?_
  refine lv_iand hx hb dX9_has_4 ?_
  refine lv_iconst (v := 1) hx hb dX9_has_5 (by decide) ?_
  refine lv_icmp_ne (tgt := 13) hx hb dX9_has_6 (by decide) (fun c1 => ?_) (fun c1 => ?_)
  · replace hres := og_f c1 hres
    refine lv_iconst (v := 0) hx hb dX9_has_13 (by decide) ?_
    have hres := Option.some.inj hres
    have h0 := hres
    subst h0
    exact hret _ _ _ _ (by decide) hP hD hS dX9_has_14
  · replace hres := og_t c1 hres
    refine lv_iconst (v := 1) hx hb dX9_has_9 (by decide) ?_
    refine lv_goto (tgt := 14) hx hb dX9_has_10 (by decide) ?_
    have hres := Option.some.inj hres
    have h0 := hres
    subst h0
    exact hret _ _ _ _ (by decide) hP hD hS dX9_has_14

def pX9_ones_L4 : Nat → Int32 → Int32 → Option (Int32)
  | 0, _, _ => none
  | n4 + 1, v1, v2 =>
    (if v2 = 0 then
    some (v1)
    else
    pX9_ones_L4 n4 (v1 + 1) (v2 &&& (v2 - 1)))
def pX9_ones (N : Nat) (x1 : Int32) : Option (Int32) :=
    pX9_ones_L4 N 0 x1
set_option maxHeartbeats 8000000 in
set_option maxRecDepth 100000 in
theorem tX9_ones (l : Launch) (D : va_G) (κ : Nat → ClassId) (N : Nat) (x1 : Int32) (r0 : Int32) (hres : pX9_ones N x1 = some (r0)) : krI l yX9_ones wsX9_ones { frames := 0, cells := 0, slots := 0, locals := 0 } D κ [.int x1] ([]) ([]) r0 := by
  refine krI_of (cc := cX9_ones) (maxL := 3) (rt := .int) (by decide) rfl (Nat.le_of_ble_eq_true rfl) ?_
  intro p e s m args below meth c A Q ls hx hb hml hown hts hK hA hret hP hD hS hl
  have hown : s.vm.findClass RX9 = some m.cls := hown
  have hl : lv_has ls 3 [(0, .int x1)] := hl
  have L4 : ∀ (n4 : Nat) (v1 : Int32) (v2 : Int32) (H : Heap) (locs : List Loc) (ls : Array Slot), va_P D vwCl ([]) H → va_D A ([]) → va_S A s.heap H locs → lv_has ls 3 [(1, .int v1), (2, .int v2)] → pX9_ones_L4 n4 v1 v2 = some (r0) → W p l e { frames := 0, cells := 0, slots := 0, locals := 0 } s m args below meth c H locs 0 0 Q (F0 m 4 ls []) := by
    intro n4
    induction n4 with
    | zero =>
      intro v1 v2 H locs ls hP hD hS hl hres
      exact absurd (show none = some _ from hres) (by simp)
    | succ n4 ih4 =>
      intro v1 v2 H locs ls hP hD hS hl hres
      rw [pX9_ones_L4] at hres
      refine lv_iload_n hx hb dX9_ones_4 rfl (lv_at hl 1 rfl) ?_
      refine lv_if_eq (tgt := 20) hx hb dX9_ones_5 (by decide) (fun c1 => ?_) (fun c1 => ?_)
      · replace hres := og_t c1 hres
        refine lv_iload_n hx hb dX9_ones_20 rfl (lv_at hl 0 rfl) ?_
        have hres := Option.some.inj hres
        have h0 := hres
        subst h0
        exact hret _ _ _ _ (vp_nar_int _) hP hD hS dX9_ones_21
      · replace hres := og_f c1 hres
        refine lv_iinc (v := (v1 + 1)) (lv' := [(1, .int (v1 + 1)), (2, .int v2)]) hx hb dX9_ones_8 hl (k := 0) rfl rfl (by decide) rfl (fun ls hl => ?_)
        refine lv_iload_n hx hb dX9_ones_11 rfl (lv_at hl 1 rfl) ?_
        refine lv_iload_n hx hb dX9_ones_12 rfl (lv_at hl 1 rfl) ?_
        refine lv_iconst (v := 1) hx hb dX9_ones_13 (by decide) ?_
        refine lv_isub hx hb dX9_ones_14 ?_
        refine lv_iand hx hb dX9_ones_15 ?_
        refine lv_istore_n (lv' := [(2, .int (v2 &&& (v2 - 1))), (1, .int (v1 + 1))]) hx hb dX9_ones_16 rfl hl (by decide) rfl (fun ls hl => ?_)
        refine lv_goto (tgt := 4) hx hb dX9_ones_17 (by decide) ?_
        exact ih4 (v1 + 1) (v2 &&& (v2 - 1)) _ _ _ hP hD hS (lv_sub hl [1, 0] rfl) hres
  unfold pX9_ones at hres
  refine lv_iconst (v := 0) hx hb dX9_ones_0 (by decide) ?_
  refine lv_istore_n (lv' := [(1, .int 0), (0, .int x1)]) hx hb dX9_ones_1 rfl hl (by decide) rfl (fun ls hl => ?_)
  refine lv_iload_n hx hb dX9_ones_2 rfl (lv_at hl 1 rfl) ?_
  refine lv_istore_n (lv' := [(2, .int x1), (1, .int 0), (0, .int x1)]) hx hb dX9_ones_3 rfl hl (by decide) rfl (fun ls hl => ?_)
  exact L4 N 0 x1 _ _ _ hP hD hS (lv_sub hl [1, 0] rfl) hres

def pX9_feed (x1 : Int32) (mo_text : Nat → Int32) (mo_typed : Int32) : Option (Int32 × (Nat → Int32) × Int32) :=
    kb1 (pX9_in (x1.toInt64) 0 255) fun r1 =>
    (if r1 = 0 then
    some ((-1000000002), mo_text, mo_typed)
    else
    (if mo_typed = 240 then
    some ((-1000000004), mo_text, mo_typed)
    else
    if mo_typed < 0 ∨ 240 ≤ mo_typed.toNatClampNeg then none else
    some ((mo_typed + 1), (upd mo_text mo_typed.toNatClampNeg x1), (mo_typed + 1))))
set_option maxHeartbeats 8000000 in
set_option maxRecDepth 100000 in
theorem tX9_feed (l : Launch) (D : va_G) (κ : Nat → ClassId) (moo : Nat) (mo_toldA : Nat) (mo_stA : Nat) (mo_textA : Nat) (mo_readA : Nat) (mo_aheadA : Nat) (mo_asideA : Nat) (mo_weighingsA : Nat) (mo_bookA : Nat) (mo_isKeptA : Nat) (mo_keptA : Nat) (mo_seedsA : Nat) (mo_told : Nat → Int32) (mo_st : Nat → Int32) (mo_isThere : Int32) (mo_seed : Int32) (mo_text : Nat → Int32) (mo_typed : Int32) (mo_faultAt : Int32) (mo_place : Int32) (mo_wrong : Int32) (mo_value : Int32) (mo_read : Nat → Int32) (mo_ahead : Nat → Int32) (mo_undoMany : Int32) (mo_aside : Nat → Int32) (mo_weighings : Nat → Int32) (mo_weighed : Int32) (mo_book : Nat → Int32) (mo_entries : Int32) (mo_isKept : Nat → Int32) (mo_kept : Nat → Int32) (mo_seeds : Nat → Int32) (x1 : Int32) (r0 : Int32) (z_mo_text : Nat → Int32) (z_mo_typed : Int32) (hres : pX9_feed x1 mo_text mo_typed = some (r0, z_mo_text, z_mo_typed)) : krI l yX9_feed wsX9_feed { frames := 1, cells := 0, slots := 0, locals := 100 } D κ [.ref moo, .int x1] ([(moo, .inr (9, [.ref mo_toldA, .ref mo_stA, .int mo_isThere, .int mo_seed, .ref mo_textA, .int mo_typed, .int mo_faultAt, .int mo_place, .int mo_wrong, .int mo_value, .ref mo_readA, .ref mo_aheadA, .int mo_undoMany, .ref mo_asideA, .ref mo_weighingsA, .int mo_weighed, .ref mo_bookA, .int mo_entries, .ref mo_isKeptA, .ref mo_keptA, .ref mo_seedsA])), (mo_toldA, .inl (κ 0, 37, .inl mo_told)), (mo_stA, .inl (κ 0, 17, .inl mo_st)), (mo_textA, .inl (κ 0, 240, .inl mo_text)), (mo_readA, .inl (κ 0, 37, .inl mo_read)), (mo_aheadA, .inl (κ 0, 340, .inl mo_ahead)), (mo_asideA, .inl (κ 0, 17, .inl mo_aside)), (mo_weighingsA, .inl (κ 0, 12, .inl mo_weighings)), (mo_bookA, .inl (κ 0, 30, .inl mo_book)), (mo_isKeptA, .inl (κ 1, 2, .inl mo_isKept)), (mo_keptA, .inl (κ 0, 34, .inl mo_kept)), (mo_seedsA, .inl (κ 0, 2, .inl mo_seeds))]) ([(moo, .inr (9, [.ref mo_toldA, .ref mo_stA, .int mo_isThere, .int mo_seed, .ref mo_textA, .int z_mo_typed, .int mo_faultAt, .int mo_place, .int mo_wrong, .int mo_value, .ref mo_readA, .ref mo_aheadA, .int mo_undoMany, .ref mo_asideA, .ref mo_weighingsA, .int mo_weighed, .ref mo_bookA, .int mo_entries, .ref mo_isKeptA, .ref mo_keptA, .ref mo_seedsA])), (mo_toldA, .inl (κ 0, 37, .inl mo_told)), (mo_stA, .inl (κ 0, 17, .inl mo_st)), (mo_textA, .inl (κ 0, 240, .inl z_mo_text)), (mo_readA, .inl (κ 0, 37, .inl mo_read)), (mo_aheadA, .inl (κ 0, 340, .inl mo_ahead)), (mo_asideA, .inl (κ 0, 17, .inl mo_aside)), (mo_weighingsA, .inl (κ 0, 12, .inl mo_weighings)), (mo_bookA, .inl (κ 0, 30, .inl mo_book)), (mo_isKeptA, .inl (κ 1, 2, .inl mo_isKept)), (mo_keptA, .inl (κ 0, 34, .inl mo_kept)), (mo_seedsA, .inl (κ 0, 2, .inl mo_seeds))]) r0 := by
  refine krI_of (cc := cX9_feed) (maxL := 2) (rt := .int) (by decide) rfl (Nat.le_of_ble_eq_true rfl) ?_
  intro p e s m args below meth c A Q ls hx hb hml hown hts hK hA hret hP hD hS hl
  have hown : s.vm.findClass RX9 = some m.cls := hown
  have hl : lv_has ls 2 [(0, .ref moo), (1, .int x1)] := hl
  have iw9 : ∀ w ∈ u_ws RX9 TX9 21, w ∈ wsX9_feed := (fun _ h => List.mem_cons_of_mem _ (List.mem_append_right _ h))
  have k0 : (Cond.constantLong RX9 48 (255)).before args s = true := hts _ (List.mem_of_getElem? (i := 1) rfl)
  have k1 : (Cond.fieldLink RX9 55 "KingRansomModel" "typed" "I").before args s = true := hts _ (List.mem_of_getElem? (i := 3) rfl)
  have k2 : (Cond.fieldLink RX9 16 "KingRansomModel" "text" "[I").before args s = true := hts _ (List.mem_of_getElem? (i := 5) rfl)
  have k3 : (Cond.constant RX9 58 (-1000000004)).before args s = true := hts _ (List.mem_of_getElem? (i := 4) rfl)
  have k4 : (Cond.constant RX9 54 (-1000000002)).before args s = true := hts _ (List.mem_of_getElem? (i := 2) rfl)
  unfold pX9_feed at hres
  refine lv_iload_n hx hb dX9_feed_0 rfl (lv_at hl 1 rfl) ?_
  refine lv_i2l (v := x1.toInt64) hx hb dX9_feed_1 rfl ?_
  refine lv_lconst (v := 0) hx hb dX9_feed_2 (by decide) ?_
  refine lv_ldc2 (v := 255) hx hb hown k0 dX9_feed_3 ?_
  obtain ⟨r1, hc2, hres⟩ := kb1_s hres
  refine krI_S0 (As := [.long (x1.toInt64), .long 0, .long 255]) (rest := []) ⟨hx, hb, hml, hown, hts⟩ hK (tX9_in l D κ (x1.toInt64) 0 255 r1 hc2) (va_cwS 3 hts gX9_feed_X9_in rfl rfl rfl (by decide +kernel) ⟨(Nat.le_of_ble_eq_true rfl), (Nat.le_of_ble_eq_true rfl)⟩) hP hD hS hA rfl hl.1 rfl (Nat.le_of_ble_eq_true rfl) dX9_feed_6 ⟨Nat.zero_le _, Nat.zero_le _⟩ (fun H locs hP hD hS => ?_)
  refine lv_if_ne (tgt := 15) hx hb dX9_feed_9 (by decide) (fun c3 => ?_) (fun c3 => ?_)
  · replace hres := og_f c3 hres
    refine lv_aload_n hx hb dX9_feed_15 rfl (lv_at hl 0 rfl) ?_
    refine va_get (D := D) (ci := 9) (v := .int mo_typed) (C := RX9) (T := TX9) (N := 21) hx hb hts iw9 hown hK.1 hP 0 rfl rfl 5 (by decide) k1 (fun _ h9 => h9) rfl dX9_feed_16 ?_
    refine lv_sipush (v := 240) hx hb dX9_feed_19 (by decide) ?_
    refine lv_icmp_ne (tgt := 28) hx hb dX9_feed_22 (by decide) (fun c4 => ?_) (fun c4 => ?_)
    · replace hres := og_f c4 hres
      refine lv_aload_n hx hb dX9_feed_28 rfl (lv_at hl 0 rfl) ?_
      refine va_get (D := D) (ci := 9) (v := .ref mo_textA) (C := RX9) (T := TX9) (N := 21) hx hb hts iw9 hown hK.1 hP 0 rfl rfl 4 (by decide) k2 (fun _ h9 => h9) rfl dX9_feed_29 ?_
      refine lv_aload_n hx hb dX9_feed_32 rfl (lv_at hl 0 rfl) ?_
      refine va_get (D := D) (ci := 9) (v := .int mo_typed) (C := RX9) (T := TX9) (N := 21) hx hb hts iw9 hown hK.1 hP 0 rfl rfl 5 (by decide) k1 (fun _ h9 => h9) rfl dX9_feed_33 ?_
      refine lv_iload_n hx hb dX9_feed_36 rfl (lv_at hl 1 rfl) ?_
      obtain ⟨g5, hres⟩ := og_no hres
      refine kr_iast (f := mo_text) (j := mo_typed.toNatClampNeg) (x := x1) hx hb hK hP hD hS 3 rfl g5 rfl dX9_feed_37 (fun H locs hP hD hS => ?_)
      have hP : va_P D vwCl ([(moo, .inr (9, [.ref mo_toldA, .ref mo_stA, .int mo_isThere, .int mo_seed, .ref mo_textA, .int mo_typed, .int mo_faultAt, .int mo_place, .int mo_wrong, .int mo_value, .ref mo_readA, .ref mo_aheadA, .int mo_undoMany, .ref mo_asideA, .ref mo_weighingsA, .int mo_weighed, .ref mo_bookA, .int mo_entries, .ref mo_isKeptA, .ref mo_keptA, .ref mo_seedsA])), (mo_toldA, .inl (κ 0, 37, .inl mo_told)), (mo_stA, .inl (κ 0, 17, .inl mo_st)), (mo_textA, .inl (κ 0, 240, .inl (upd mo_text mo_typed.toNatClampNeg x1))), (mo_readA, .inl (κ 0, 37, .inl mo_read)), (mo_aheadA, .inl (κ 0, 340, .inl mo_ahead)), (mo_asideA, .inl (κ 0, 17, .inl mo_aside)), (mo_weighingsA, .inl (κ 0, 12, .inl mo_weighings)), (mo_bookA, .inl (κ 0, 30, .inl mo_book)), (mo_isKeptA, .inl (κ 1, 2, .inl mo_isKept)), (mo_keptA, .inl (κ 0, 34, .inl mo_kept)), (mo_seedsA, .inl (κ 0, 2, .inl mo_seeds))]) H := hP
      have hD : va_D A ([(moo, .inr (9, [.ref mo_toldA, .ref mo_stA, .int mo_isThere, .int mo_seed, .ref mo_textA, .int mo_typed, .int mo_faultAt, .int mo_place, .int mo_wrong, .int mo_value, .ref mo_readA, .ref mo_aheadA, .int mo_undoMany, .ref mo_asideA, .ref mo_weighingsA, .int mo_weighed, .ref mo_bookA, .int mo_entries, .ref mo_isKeptA, .ref mo_keptA, .ref mo_seedsA])), (mo_toldA, .inl (κ 0, 37, .inl mo_told)), (mo_stA, .inl (κ 0, 17, .inl mo_st)), (mo_textA, .inl (κ 0, 240, .inl (upd mo_text mo_typed.toNatClampNeg x1))), (mo_readA, .inl (κ 0, 37, .inl mo_read)), (mo_aheadA, .inl (κ 0, 340, .inl mo_ahead)), (mo_asideA, .inl (κ 0, 17, .inl mo_aside)), (mo_weighingsA, .inl (κ 0, 12, .inl mo_weighings)), (mo_bookA, .inl (κ 0, 30, .inl mo_book)), (mo_isKeptA, .inl (κ 1, 2, .inl mo_isKept)), (mo_keptA, .inl (κ 0, 34, .inl mo_kept)), (mo_seedsA, .inl (κ 0, 2, .inl mo_seeds))]) := hD
      refine lv_aload_n hx hb dX9_feed_38 rfl (lv_at hl 0 rfl) ?_
      refine lv_dup hx hb dX9_feed_39 rfl ?_
      refine va_get (D := D) (ci := 9) (v := .int mo_typed) (C := RX9) (T := TX9) (N := 21) hx hb hts iw9 hown hK.1 hP 0 rfl rfl 5 (by decide) k1 (fun _ h9 => h9) rfl dX9_feed_40 ?_
      refine lv_iconst (v := 1) hx hb dX9_feed_43 (by decide) ?_
      refine lv_iadd hx hb dX9_feed_44 ?_
      refine va_put (D := D) (ci := 9) (v := .int (mo_typed + 1)) (ty := .int) (C := RX9) (T := TX9) (N := 21) hx hb hts iw9 tyX9 tyX9_ok nmX9 hown hK.1 hP hD hS 0 rfl rfl 5 (by decide) k1 (fun _ h9 => h9) rfl (tyX9_ok 5 (by decide)) rfl rfl (Nat.le_of_ble_eq_true rfl) dX9_feed_45 (fun H locs hP hD hS => ?_)
      have hP : va_P D vwCl ([(moo, .inr (9, [.ref mo_toldA, .ref mo_stA, .int mo_isThere, .int mo_seed, .ref mo_textA, .int (mo_typed + 1), .int mo_faultAt, .int mo_place, .int mo_wrong, .int mo_value, .ref mo_readA, .ref mo_aheadA, .int mo_undoMany, .ref mo_asideA, .ref mo_weighingsA, .int mo_weighed, .ref mo_bookA, .int mo_entries, .ref mo_isKeptA, .ref mo_keptA, .ref mo_seedsA])), (mo_toldA, .inl (κ 0, 37, .inl mo_told)), (mo_stA, .inl (κ 0, 17, .inl mo_st)), (mo_textA, .inl (κ 0, 240, .inl (upd mo_text mo_typed.toNatClampNeg x1))), (mo_readA, .inl (κ 0, 37, .inl mo_read)), (mo_aheadA, .inl (κ 0, 340, .inl mo_ahead)), (mo_asideA, .inl (κ 0, 17, .inl mo_aside)), (mo_weighingsA, .inl (κ 0, 12, .inl mo_weighings)), (mo_bookA, .inl (κ 0, 30, .inl mo_book)), (mo_isKeptA, .inl (κ 1, 2, .inl mo_isKept)), (mo_keptA, .inl (κ 0, 34, .inl mo_kept)), (mo_seedsA, .inl (κ 0, 2, .inl mo_seeds))]) H := hP
      have hD : va_D A ([(moo, .inr (9, [.ref mo_toldA, .ref mo_stA, .int mo_isThere, .int mo_seed, .ref mo_textA, .int (mo_typed + 1), .int mo_faultAt, .int mo_place, .int mo_wrong, .int mo_value, .ref mo_readA, .ref mo_aheadA, .int mo_undoMany, .ref mo_asideA, .ref mo_weighingsA, .int mo_weighed, .ref mo_bookA, .int mo_entries, .ref mo_isKeptA, .ref mo_keptA, .ref mo_seedsA])), (mo_toldA, .inl (κ 0, 37, .inl mo_told)), (mo_stA, .inl (κ 0, 17, .inl mo_st)), (mo_textA, .inl (κ 0, 240, .inl (upd mo_text mo_typed.toNatClampNeg x1))), (mo_readA, .inl (κ 0, 37, .inl mo_read)), (mo_aheadA, .inl (κ 0, 340, .inl mo_ahead)), (mo_asideA, .inl (κ 0, 17, .inl mo_aside)), (mo_weighingsA, .inl (κ 0, 12, .inl mo_weighings)), (mo_bookA, .inl (κ 0, 30, .inl mo_book)), (mo_isKeptA, .inl (κ 1, 2, .inl mo_isKept)), (mo_keptA, .inl (κ 0, 34, .inl mo_kept)), (mo_seedsA, .inl (κ 0, 2, .inl mo_seeds))]) := hD
      refine lv_aload_n hx hb dX9_feed_48 rfl (lv_at hl 0 rfl) ?_
      refine va_get (D := D) (ci := 9) (v := .int (mo_typed + 1)) (C := RX9) (T := TX9) (N := 21) hx hb hts iw9 hown hK.1 hP 0 rfl rfl 5 (by decide) k1 (fun _ h9 => h9) rfl dX9_feed_49 ?_
      have hres := Option.some.inj hres
      have h0 := (Prod.mk.inj hres).1
      replace hres := (Prod.mk.inj hres).2
      have h1 := (Prod.mk.inj hres).1
      replace hres := (Prod.mk.inj hres).2
      have h2 := hres
      subst h0
      subst h1
      subst h2
      exact hret _ _ _ _ (vp_nar_int _) hP hD hS dX9_feed_52
    · replace hres := og_t c4 hres
      refine lv_ldc (v := (-1000000004)) hx hb hown k3 dX9_feed_25 ?_
      have hres := Option.some.inj hres
      have h0 := (Prod.mk.inj hres).1
      replace hres := (Prod.mk.inj hres).2
      have h1 := (Prod.mk.inj hres).1
      replace hres := (Prod.mk.inj hres).2
      have h2 := hres
      subst h0
      subst h1
      subst h2
      exact hret _ _ _ _ (vp_nar_int _) hP hD hS dX9_feed_27
  · replace hres := og_t c3 hres
    refine lv_ldc (v := (-1000000002)) hx hb hown k4 dX9_feed_12 ?_
    have hres := Option.some.inj hres
    have h0 := (Prod.mk.inj hres).1
    replace hres := (Prod.mk.inj hres).2
    have h1 := (Prod.mk.inj hres).1
    replace hres := (Prod.mk.inj hres).2
    have h2 := hres
    subst h0
    subst h1
    subst h2
    exact hret _ _ _ _ (vp_nar_int _) hP hD hS dX9_feed_14

def pX9_next_L38 (mo_text : Nat → Int32) (mo_typed : Int32) (w_mo_place : Int32) : Option (Int32 × Int32) :=
    (if mo_typed ≤ w_mo_place then
    some ((-1), w_mo_place)
    else
    if w_mo_place < 0 ∨ 240 ≤ w_mo_place.toNatClampNeg then none else
    some ((mo_text w_mo_place.toNatClampNeg), w_mo_place))
def pX9_next_L0 (mo_text : Nat → Int32) (mo_typed : Int32) : Nat → Int32 → Option (Int32 × Int32)
  | 0, _ => none
  | n0 + 1, w_mo_place =>
    (if mo_typed ≤ w_mo_place then
    pX9_next_L38 mo_text mo_typed w_mo_place
    else
    if w_mo_place < 0 ∨ 240 ≤ w_mo_place.toNatClampNeg then none else
    (if (mo_text w_mo_place.toNatClampNeg) = 32 then
    pX9_next_L0 mo_text mo_typed n0 (w_mo_place + 1)
    else
    pX9_next_L38 mo_text mo_typed w_mo_place))
def pX9_next (N : Nat) (mo_text : Nat → Int32) (mo_typed : Int32) (mo_place : Int32) : Option (Int32 × Int32) :=
    pX9_next_L0 mo_text mo_typed N mo_place
set_option maxHeartbeats 8000000 in
set_option maxRecDepth 100000 in
theorem tX9_next (l : Launch) (D : va_G) (κ : Nat → ClassId) (moo : Nat) (mo_toldA : Nat) (mo_stA : Nat) (mo_textA : Nat) (mo_readA : Nat) (mo_aheadA : Nat) (mo_asideA : Nat) (mo_weighingsA : Nat) (mo_bookA : Nat) (mo_isKeptA : Nat) (mo_keptA : Nat) (mo_seedsA : Nat) (N : Nat) (mo_told : Nat → Int32) (mo_st : Nat → Int32) (mo_isThere : Int32) (mo_seed : Int32) (mo_text : Nat → Int32) (mo_typed : Int32) (mo_faultAt : Int32) (mo_place : Int32) (mo_wrong : Int32) (mo_value : Int32) (mo_read : Nat → Int32) (mo_ahead : Nat → Int32) (mo_undoMany : Int32) (mo_aside : Nat → Int32) (mo_weighings : Nat → Int32) (mo_weighed : Int32) (mo_book : Nat → Int32) (mo_entries : Int32) (mo_isKept : Nat → Int32) (mo_kept : Nat → Int32) (mo_seeds : Nat → Int32) (r0 : Int32) (z_mo_place : Int32) (hres : pX9_next N mo_text mo_typed mo_place = some (r0, z_mo_place)) : krI l yX9_next wsX9_next { frames := 0, cells := 0, slots := 0, locals := 0 } D κ [.ref moo] ([(moo, .inr (9, [.ref mo_toldA, .ref mo_stA, .int mo_isThere, .int mo_seed, .ref mo_textA, .int mo_typed, .int mo_faultAt, .int mo_place, .int mo_wrong, .int mo_value, .ref mo_readA, .ref mo_aheadA, .int mo_undoMany, .ref mo_asideA, .ref mo_weighingsA, .int mo_weighed, .ref mo_bookA, .int mo_entries, .ref mo_isKeptA, .ref mo_keptA, .ref mo_seedsA])), (mo_toldA, .inl (κ 0, 37, .inl mo_told)), (mo_stA, .inl (κ 0, 17, .inl mo_st)), (mo_textA, .inl (κ 0, 240, .inl mo_text)), (mo_readA, .inl (κ 0, 37, .inl mo_read)), (mo_aheadA, .inl (κ 0, 340, .inl mo_ahead)), (mo_asideA, .inl (κ 0, 17, .inl mo_aside)), (mo_weighingsA, .inl (κ 0, 12, .inl mo_weighings)), (mo_bookA, .inl (κ 0, 30, .inl mo_book)), (mo_isKeptA, .inl (κ 1, 2, .inl mo_isKept)), (mo_keptA, .inl (κ 0, 34, .inl mo_kept)), (mo_seedsA, .inl (κ 0, 2, .inl mo_seeds))]) ([(moo, .inr (9, [.ref mo_toldA, .ref mo_stA, .int mo_isThere, .int mo_seed, .ref mo_textA, .int mo_typed, .int mo_faultAt, .int z_mo_place, .int mo_wrong, .int mo_value, .ref mo_readA, .ref mo_aheadA, .int mo_undoMany, .ref mo_asideA, .ref mo_weighingsA, .int mo_weighed, .ref mo_bookA, .int mo_entries, .ref mo_isKeptA, .ref mo_keptA, .ref mo_seedsA])), (mo_toldA, .inl (κ 0, 37, .inl mo_told)), (mo_stA, .inl (κ 0, 17, .inl mo_st)), (mo_textA, .inl (κ 0, 240, .inl mo_text)), (mo_readA, .inl (κ 0, 37, .inl mo_read)), (mo_aheadA, .inl (κ 0, 340, .inl mo_ahead)), (mo_asideA, .inl (κ 0, 17, .inl mo_aside)), (mo_weighingsA, .inl (κ 0, 12, .inl mo_weighings)), (mo_bookA, .inl (κ 0, 30, .inl mo_book)), (mo_isKeptA, .inl (κ 1, 2, .inl mo_isKept)), (mo_keptA, .inl (κ 0, 34, .inl mo_kept)), (mo_seedsA, .inl (κ 0, 2, .inl mo_seeds))]) r0 := by
  refine krI_of (cc := cX9_next) (maxL := 1) (rt := .int) (by decide) rfl (Nat.le_of_ble_eq_true rfl) ?_
  intro p e s m args below meth c A Q ls hx hb hml hown hts hK hA hret hP hD hS hl
  have hown : s.vm.findClass RX9 = some m.cls := hown
  have hl : lv_has ls 1 [(0, .ref moo)] := hl
  have iw9 : ∀ w ∈ u_ws RX9 TX9 21, w ∈ wsX9_next := (fun _ h => List.mem_cons_of_mem _ (List.mem_append_right _ h))
  have k0 : (Cond.fieldLink RX9 59 "KingRansomModel" "place" "I").before args s = true := hts _ (List.mem_of_getElem? (i := 1) rfl)
  have k1 : (Cond.fieldLink RX9 55 "KingRansomModel" "typed" "I").before args s = true := hts _ (List.mem_of_getElem? (i := 2) rfl)
  have k2 : (Cond.fieldLink RX9 16 "KingRansomModel" "text" "[I").before args s = true := hts _ (List.mem_of_getElem? (i := 3) rfl)
  have L38 : ∀ (w_mo_place : Int32) (H : Heap) (locs : List Loc) (ls : Array Slot), va_P D vwCl ([(moo, .inr (9, [.ref mo_toldA, .ref mo_stA, .int mo_isThere, .int mo_seed, .ref mo_textA, .int mo_typed, .int mo_faultAt, .int w_mo_place, .int mo_wrong, .int mo_value, .ref mo_readA, .ref mo_aheadA, .int mo_undoMany, .ref mo_asideA, .ref mo_weighingsA, .int mo_weighed, .ref mo_bookA, .int mo_entries, .ref mo_isKeptA, .ref mo_keptA, .ref mo_seedsA])), (mo_toldA, .inl (κ 0, 37, .inl mo_told)), (mo_stA, .inl (κ 0, 17, .inl mo_st)), (mo_textA, .inl (κ 0, 240, .inl mo_text)), (mo_readA, .inl (κ 0, 37, .inl mo_read)), (mo_aheadA, .inl (κ 0, 340, .inl mo_ahead)), (mo_asideA, .inl (κ 0, 17, .inl mo_aside)), (mo_weighingsA, .inl (κ 0, 12, .inl mo_weighings)), (mo_bookA, .inl (κ 0, 30, .inl mo_book)), (mo_isKeptA, .inl (κ 1, 2, .inl mo_isKept)), (mo_keptA, .inl (κ 0, 34, .inl mo_kept)), (mo_seedsA, .inl (κ 0, 2, .inl mo_seeds))]) H → va_D A ([(moo, .inr (9, [.ref mo_toldA, .ref mo_stA, .int mo_isThere, .int mo_seed, .ref mo_textA, .int mo_typed, .int mo_faultAt, .int w_mo_place, .int mo_wrong, .int mo_value, .ref mo_readA, .ref mo_aheadA, .int mo_undoMany, .ref mo_asideA, .ref mo_weighingsA, .int mo_weighed, .ref mo_bookA, .int mo_entries, .ref mo_isKeptA, .ref mo_keptA, .ref mo_seedsA])), (mo_toldA, .inl (κ 0, 37, .inl mo_told)), (mo_stA, .inl (κ 0, 17, .inl mo_st)), (mo_textA, .inl (κ 0, 240, .inl mo_text)), (mo_readA, .inl (κ 0, 37, .inl mo_read)), (mo_aheadA, .inl (κ 0, 340, .inl mo_ahead)), (mo_asideA, .inl (κ 0, 17, .inl mo_aside)), (mo_weighingsA, .inl (κ 0, 12, .inl mo_weighings)), (mo_bookA, .inl (κ 0, 30, .inl mo_book)), (mo_isKeptA, .inl (κ 1, 2, .inl mo_isKept)), (mo_keptA, .inl (κ 0, 34, .inl mo_kept)), (mo_seedsA, .inl (κ 0, 2, .inl mo_seeds))]) → va_S A s.heap H locs → lv_has ls 1 [(0, .ref moo)] → pX9_next_L38 mo_text mo_typed w_mo_place = some (r0, z_mo_place) → W p l e { frames := 0, cells := 0, slots := 0, locals := 0 } s m args below meth c H locs 0 0 Q (F0 m 38 ls []) := by
    intro w_mo_place H locs ls hP hD hS hl hres
    unfold pX9_next_L38 at hres
    refine lv_aload_n hx hb dX9_next_38 rfl (lv_at hl 0 rfl) ?_
    refine va_get (D := D) (ci := 9) (v := .int w_mo_place) (C := RX9) (T := TX9) (N := 21) hx hb hts iw9 hown hK.1 hP 0 rfl rfl 7 (by decide) k0 (fun _ h9 => h9) rfl dX9_next_39 ?_
    refine lv_aload_n hx hb dX9_next_42 rfl (lv_at hl 0 rfl) ?_
    refine va_get (D := D) (ci := 9) (v := .int mo_typed) (C := RX9) (T := TX9) (N := 21) hx hb hts iw9 hown hK.1 hP 0 rfl rfl 5 (by decide) k1 (fun _ h9 => h9) rfl dX9_next_43 ?_
    refine lv_icmp_ge (tgt := 61) hx hb dX9_next_46 (by decide) (fun c1 => ?_) (fun c1 => ?_)
    · replace hres := og_t c1 hres
      refine lv_iconst (v := (-1)) hx hb dX9_next_61 (by decide) ?_
      have hres := Option.some.inj hres
      have h0 := (Prod.mk.inj hres).1
      replace hres := (Prod.mk.inj hres).2
      have h1 := hres
      subst h0
      subst h1
      exact hret _ _ _ _ (vp_nar_int _) hP hD hS dX9_next_62
    · replace hres := og_f c1 hres
      refine lv_aload_n hx hb dX9_next_49 rfl (lv_at hl 0 rfl) ?_
      refine va_get (D := D) (ci := 9) (v := .ref mo_textA) (C := RX9) (T := TX9) (N := 21) hx hb hts iw9 hown hK.1 hP 0 rfl rfl 4 (by decide) k2 (fun _ h9 => h9) rfl dX9_next_50 ?_
      refine lv_aload_n hx hb dX9_next_53 rfl (lv_at hl 0 rfl) ?_
      refine va_get (D := D) (ci := 9) (v := .int w_mo_place) (C := RX9) (T := TX9) (N := 21) hx hb hts iw9 hown hK.1 hP 0 rfl rfl 7 (by decide) k0 (fun _ h9 => h9) rfl dX9_next_54 ?_
      obtain ⟨g2, hres⟩ := og_no hres
      refine kr_iald (f := mo_text) (j := w_mo_place.toNatClampNeg) hx hb hK hP 3 rfl g2 rfl dX9_next_57 ?_
      refine lv_goto (tgt := 62) hx hb dX9_next_58 (by decide) ?_
      have hres := Option.some.inj hres
      have h0 := (Prod.mk.inj hres).1
      replace hres := (Prod.mk.inj hres).2
      have h1 := hres
      subst h0
      subst h1
      exact hret _ _ _ _ (vp_nar_int _) hP hD hS dX9_next_62
  have L0 : ∀ (n0 : Nat) (w_mo_place : Int32) (H : Heap) (locs : List Loc) (ls : Array Slot), va_P D vwCl ([(moo, .inr (9, [.ref mo_toldA, .ref mo_stA, .int mo_isThere, .int mo_seed, .ref mo_textA, .int mo_typed, .int mo_faultAt, .int w_mo_place, .int mo_wrong, .int mo_value, .ref mo_readA, .ref mo_aheadA, .int mo_undoMany, .ref mo_asideA, .ref mo_weighingsA, .int mo_weighed, .ref mo_bookA, .int mo_entries, .ref mo_isKeptA, .ref mo_keptA, .ref mo_seedsA])), (mo_toldA, .inl (κ 0, 37, .inl mo_told)), (mo_stA, .inl (κ 0, 17, .inl mo_st)), (mo_textA, .inl (κ 0, 240, .inl mo_text)), (mo_readA, .inl (κ 0, 37, .inl mo_read)), (mo_aheadA, .inl (κ 0, 340, .inl mo_ahead)), (mo_asideA, .inl (κ 0, 17, .inl mo_aside)), (mo_weighingsA, .inl (κ 0, 12, .inl mo_weighings)), (mo_bookA, .inl (κ 0, 30, .inl mo_book)), (mo_isKeptA, .inl (κ 1, 2, .inl mo_isKept)), (mo_keptA, .inl (κ 0, 34, .inl mo_kept)), (mo_seedsA, .inl (κ 0, 2, .inl mo_seeds))]) H → va_D A ([(moo, .inr (9, [.ref mo_toldA, .ref mo_stA, .int mo_isThere, .int mo_seed, .ref mo_textA, .int mo_typed, .int mo_faultAt, .int w_mo_place, .int mo_wrong, .int mo_value, .ref mo_readA, .ref mo_aheadA, .int mo_undoMany, .ref mo_asideA, .ref mo_weighingsA, .int mo_weighed, .ref mo_bookA, .int mo_entries, .ref mo_isKeptA, .ref mo_keptA, .ref mo_seedsA])), (mo_toldA, .inl (κ 0, 37, .inl mo_told)), (mo_stA, .inl (κ 0, 17, .inl mo_st)), (mo_textA, .inl (κ 0, 240, .inl mo_text)), (mo_readA, .inl (κ 0, 37, .inl mo_read)), (mo_aheadA, .inl (κ 0, 340, .inl mo_ahead)), (mo_asideA, .inl (κ 0, 17, .inl mo_aside)), (mo_weighingsA, .inl (κ 0, 12, .inl mo_weighings)), (mo_bookA, .inl (κ 0, 30, .inl mo_book)), (mo_isKeptA, .inl (κ 1, 2, .inl mo_isKept)), (mo_keptA, .inl (κ 0, 34, .inl mo_kept)), (mo_seedsA, .inl (κ 0, 2, .inl mo_seeds))]) → va_S A s.heap H locs → lv_has ls 1 [(0, .ref moo)] → pX9_next_L0 mo_text mo_typed n0 w_mo_place = some (r0, z_mo_place) → W p l e { frames := 0, cells := 0, slots := 0, locals := 0 } s m args below meth c H locs 0 0 Q (F0 m 0 ls []) := by
    intro n0
    induction n0 with
    | zero =>
      intro w_mo_place H locs ls hP hD hS hl hres
      exact absurd (show none = some _ from hres) (by simp)
    | succ n0 ih0 =>
      intro w_mo_place H locs ls hP hD hS hl hres
      rw [pX9_next_L0] at hres
      refine lv_aload_n hx hb dX9_next_0 rfl (lv_at hl 0 rfl) ?_
      refine va_get (D := D) (ci := 9) (v := .int w_mo_place) (C := RX9) (T := TX9) (N := 21) hx hb hts iw9 hown hK.1 hP 0 rfl rfl 7 (by decide) k0 (fun _ h9 => h9) rfl dX9_next_1 ?_
      refine lv_aload_n hx hb dX9_next_4 rfl (lv_at hl 0 rfl) ?_
      refine va_get (D := D) (ci := 9) (v := .int mo_typed) (C := RX9) (T := TX9) (N := 21) hx hb hts iw9 hown hK.1 hP 0 rfl rfl 5 (by decide) k1 (fun _ h9 => h9) rfl dX9_next_5 ?_
      refine lv_icmp_ge (tgt := 38) hx hb dX9_next_8 (by decide) (fun c3 => ?_) (fun c3 => ?_)
      · replace hres := og_t c3 hres
        exact L38 w_mo_place _ _ _ hP hD hS (lv_sub hl [0] rfl) hres
      · replace hres := og_f c3 hres
        refine lv_aload_n hx hb dX9_next_11 rfl (lv_at hl 0 rfl) ?_
        refine va_get (D := D) (ci := 9) (v := .ref mo_textA) (C := RX9) (T := TX9) (N := 21) hx hb hts iw9 hown hK.1 hP 0 rfl rfl 4 (by decide) k2 (fun _ h9 => h9) rfl dX9_next_12 ?_
        refine lv_aload_n hx hb dX9_next_15 rfl (lv_at hl 0 rfl) ?_
        refine va_get (D := D) (ci := 9) (v := .int w_mo_place) (C := RX9) (T := TX9) (N := 21) hx hb hts iw9 hown hK.1 hP 0 rfl rfl 7 (by decide) k0 (fun _ h9 => h9) rfl dX9_next_16 ?_
        obtain ⟨g4, hres⟩ := og_no hres
        refine kr_iald (f := mo_text) (j := w_mo_place.toNatClampNeg) hx hb hK hP 3 rfl g4 rfl dX9_next_19 ?_
        refine lv_bipush (v := 32) hx hb dX9_next_20 (by decide) ?_
        refine lv_icmp_ne (tgt := 38) hx hb dX9_next_22 (by decide) (fun c5 => ?_) (fun c5 => ?_)
        · replace hres := og_f c5 hres
          exact L38 w_mo_place _ _ _ hP hD hS (lv_sub hl [0] rfl) hres
        · replace hres := og_t c5 hres
          refine lv_aload_n hx hb dX9_next_25 rfl (lv_at hl 0 rfl) ?_
          refine lv_dup hx hb dX9_next_26 rfl ?_
          refine va_get (D := D) (ci := 9) (v := .int w_mo_place) (C := RX9) (T := TX9) (N := 21) hx hb hts iw9 hown hK.1 hP 0 rfl rfl 7 (by decide) k0 (fun _ h9 => h9) rfl dX9_next_27 ?_
          refine lv_iconst (v := 1) hx hb dX9_next_30 (by decide) ?_
          refine lv_iadd hx hb dX9_next_31 ?_
          refine va_put (D := D) (ci := 9) (v := .int (w_mo_place + 1)) (ty := .int) (C := RX9) (T := TX9) (N := 21) hx hb hts iw9 tyX9 tyX9_ok nmX9 hown hK.1 hP hD hS 0 rfl rfl 7 (by decide) k0 (fun _ h9 => h9) rfl (tyX9_ok 7 (by decide)) rfl rfl (Nat.le_of_ble_eq_true rfl) dX9_next_32 (fun H locs hP hD hS => ?_)
          have hP : va_P D vwCl ([(moo, .inr (9, [.ref mo_toldA, .ref mo_stA, .int mo_isThere, .int mo_seed, .ref mo_textA, .int mo_typed, .int mo_faultAt, .int (w_mo_place + 1), .int mo_wrong, .int mo_value, .ref mo_readA, .ref mo_aheadA, .int mo_undoMany, .ref mo_asideA, .ref mo_weighingsA, .int mo_weighed, .ref mo_bookA, .int mo_entries, .ref mo_isKeptA, .ref mo_keptA, .ref mo_seedsA])), (mo_toldA, .inl (κ 0, 37, .inl mo_told)), (mo_stA, .inl (κ 0, 17, .inl mo_st)), (mo_textA, .inl (κ 0, 240, .inl mo_text)), (mo_readA, .inl (κ 0, 37, .inl mo_read)), (mo_aheadA, .inl (κ 0, 340, .inl mo_ahead)), (mo_asideA, .inl (κ 0, 17, .inl mo_aside)), (mo_weighingsA, .inl (κ 0, 12, .inl mo_weighings)), (mo_bookA, .inl (κ 0, 30, .inl mo_book)), (mo_isKeptA, .inl (κ 1, 2, .inl mo_isKept)), (mo_keptA, .inl (κ 0, 34, .inl mo_kept)), (mo_seedsA, .inl (κ 0, 2, .inl mo_seeds))]) H := hP
          have hD : va_D A ([(moo, .inr (9, [.ref mo_toldA, .ref mo_stA, .int mo_isThere, .int mo_seed, .ref mo_textA, .int mo_typed, .int mo_faultAt, .int (w_mo_place + 1), .int mo_wrong, .int mo_value, .ref mo_readA, .ref mo_aheadA, .int mo_undoMany, .ref mo_asideA, .ref mo_weighingsA, .int mo_weighed, .ref mo_bookA, .int mo_entries, .ref mo_isKeptA, .ref mo_keptA, .ref mo_seedsA])), (mo_toldA, .inl (κ 0, 37, .inl mo_told)), (mo_stA, .inl (κ 0, 17, .inl mo_st)), (mo_textA, .inl (κ 0, 240, .inl mo_text)), (mo_readA, .inl (κ 0, 37, .inl mo_read)), (mo_aheadA, .inl (κ 0, 340, .inl mo_ahead)), (mo_asideA, .inl (κ 0, 17, .inl mo_aside)), (mo_weighingsA, .inl (κ 0, 12, .inl mo_weighings)), (mo_bookA, .inl (κ 0, 30, .inl mo_book)), (mo_isKeptA, .inl (κ 1, 2, .inl mo_isKept)), (mo_keptA, .inl (κ 0, 34, .inl mo_kept)), (mo_seedsA, .inl (κ 0, 2, .inl mo_seeds))]) := hD
          refine lv_goto (tgt := 0) hx hb dX9_next_35 (by decide) ?_
          exact ih0 (w_mo_place + 1) _ _ _ hP hD hS (lv_sub hl [0] rfl) hres
  unfold pX9_next at hres
  exact L0 N mo_place _ _ _ hP hD hS (lv_sub hl [0] rfl) hres

def pX9_faults (x1 : Int32) : Option (Int32 × Int32) :=
    some (0, x1)
set_option maxHeartbeats 8000000 in
set_option maxRecDepth 100000 in
theorem tX9_faults (l : Launch) (D : va_G) (κ : Nat → ClassId) (moo : Nat) (mo_toldA : Nat) (mo_stA : Nat) (mo_textA : Nat) (mo_readA : Nat) (mo_aheadA : Nat) (mo_asideA : Nat) (mo_weighingsA : Nat) (mo_bookA : Nat) (mo_isKeptA : Nat) (mo_keptA : Nat) (mo_seedsA : Nat) (mo_told : Nat → Int32) (mo_st : Nat → Int32) (mo_isThere : Int32) (mo_seed : Int32) (mo_text : Nat → Int32) (mo_typed : Int32) (mo_faultAt : Int32) (mo_place : Int32) (mo_wrong : Int32) (mo_value : Int32) (mo_read : Nat → Int32) (mo_ahead : Nat → Int32) (mo_undoMany : Int32) (mo_aside : Nat → Int32) (mo_weighings : Nat → Int32) (mo_weighed : Int32) (mo_book : Nat → Int32) (mo_entries : Int32) (mo_isKept : Nat → Int32) (mo_kept : Nat → Int32) (mo_seeds : Nat → Int32) (x1 : Int32) (r0 : Int32) (z_mo_wrong : Int32) (hres : pX9_faults x1 = some (r0, z_mo_wrong)) : krI l yX9_faults wsX9_faults { frames := 0, cells := 0, slots := 0, locals := 0 } D κ [.ref moo, .int x1] ([(moo, .inr (9, [.ref mo_toldA, .ref mo_stA, .int mo_isThere, .int mo_seed, .ref mo_textA, .int mo_typed, .int mo_faultAt, .int mo_place, .int mo_wrong, .int mo_value, .ref mo_readA, .ref mo_aheadA, .int mo_undoMany, .ref mo_asideA, .ref mo_weighingsA, .int mo_weighed, .ref mo_bookA, .int mo_entries, .ref mo_isKeptA, .ref mo_keptA, .ref mo_seedsA])), (mo_toldA, .inl (κ 0, 37, .inl mo_told)), (mo_stA, .inl (κ 0, 17, .inl mo_st)), (mo_textA, .inl (κ 0, 240, .inl mo_text)), (mo_readA, .inl (κ 0, 37, .inl mo_read)), (mo_aheadA, .inl (κ 0, 340, .inl mo_ahead)), (mo_asideA, .inl (κ 0, 17, .inl mo_aside)), (mo_weighingsA, .inl (κ 0, 12, .inl mo_weighings)), (mo_bookA, .inl (κ 0, 30, .inl mo_book)), (mo_isKeptA, .inl (κ 1, 2, .inl mo_isKept)), (mo_keptA, .inl (κ 0, 34, .inl mo_kept)), (mo_seedsA, .inl (κ 0, 2, .inl mo_seeds))]) ([(moo, .inr (9, [.ref mo_toldA, .ref mo_stA, .int mo_isThere, .int mo_seed, .ref mo_textA, .int mo_typed, .int mo_faultAt, .int mo_place, .int z_mo_wrong, .int mo_value, .ref mo_readA, .ref mo_aheadA, .int mo_undoMany, .ref mo_asideA, .ref mo_weighingsA, .int mo_weighed, .ref mo_bookA, .int mo_entries, .ref mo_isKeptA, .ref mo_keptA, .ref mo_seedsA])), (mo_toldA, .inl (κ 0, 37, .inl mo_told)), (mo_stA, .inl (κ 0, 17, .inl mo_st)), (mo_textA, .inl (κ 0, 240, .inl mo_text)), (mo_readA, .inl (κ 0, 37, .inl mo_read)), (mo_aheadA, .inl (κ 0, 340, .inl mo_ahead)), (mo_asideA, .inl (κ 0, 17, .inl mo_aside)), (mo_weighingsA, .inl (κ 0, 12, .inl mo_weighings)), (mo_bookA, .inl (κ 0, 30, .inl mo_book)), (mo_isKeptA, .inl (κ 1, 2, .inl mo_isKept)), (mo_keptA, .inl (κ 0, 34, .inl mo_kept)), (mo_seedsA, .inl (κ 0, 2, .inl mo_seeds))]) r0 := by
  refine krI_of (cc := cX9_faults) (maxL := 2) (rt := .boolean) (by decide) rfl (Nat.le_of_ble_eq_true rfl) ?_
  intro p e s m args below meth c A Q ls hx hb hml hown hts hK hA hret hP hD hS hl
  have hown : s.vm.findClass RX9 = some m.cls := hown
  have hl : lv_has ls 2 [(0, .ref moo), (1, .int x1)] := hl
  have iw9 : ∀ w ∈ u_ws RX9 TX9 21, w ∈ wsX9_faults := (fun _ h => List.mem_cons_of_mem _ (List.mem_append_right _ h))
  have k0 : (Cond.fieldLink RX9 62 "KingRansomModel" "wrong" "I").before args s = true := hts _ (List.mem_of_getElem? (i := 1) rfl)
  unfold pX9_faults at hres
  refine lv_aload_n hx hb dX9_faults_0 rfl (lv_at hl 0 rfl) ?_
  refine lv_iload_n hx hb dX9_faults_1 rfl (lv_at hl 1 rfl) ?_
  refine va_put (D := D) (ci := 9) (v := .int x1) (ty := .int) (C := RX9) (T := TX9) (N := 21) hx hb hts iw9 tyX9 tyX9_ok nmX9 hown hK.1 hP hD hS 0 rfl rfl 8 (by decide) k0 (fun _ h9 => h9) rfl (tyX9_ok 8 (by decide)) rfl rfl (Nat.le_of_ble_eq_true rfl) dX9_faults_2 (fun H locs hP hD hS => ?_)
  have hP : va_P D vwCl ([(moo, .inr (9, [.ref mo_toldA, .ref mo_stA, .int mo_isThere, .int mo_seed, .ref mo_textA, .int mo_typed, .int mo_faultAt, .int mo_place, .int x1, .int mo_value, .ref mo_readA, .ref mo_aheadA, .int mo_undoMany, .ref mo_asideA, .ref mo_weighingsA, .int mo_weighed, .ref mo_bookA, .int mo_entries, .ref mo_isKeptA, .ref mo_keptA, .ref mo_seedsA])), (mo_toldA, .inl (κ 0, 37, .inl mo_told)), (mo_stA, .inl (κ 0, 17, .inl mo_st)), (mo_textA, .inl (κ 0, 240, .inl mo_text)), (mo_readA, .inl (κ 0, 37, .inl mo_read)), (mo_aheadA, .inl (κ 0, 340, .inl mo_ahead)), (mo_asideA, .inl (κ 0, 17, .inl mo_aside)), (mo_weighingsA, .inl (κ 0, 12, .inl mo_weighings)), (mo_bookA, .inl (κ 0, 30, .inl mo_book)), (mo_isKeptA, .inl (κ 1, 2, .inl mo_isKept)), (mo_keptA, .inl (κ 0, 34, .inl mo_kept)), (mo_seedsA, .inl (κ 0, 2, .inl mo_seeds))]) H := hP
  have hD : va_D A ([(moo, .inr (9, [.ref mo_toldA, .ref mo_stA, .int mo_isThere, .int mo_seed, .ref mo_textA, .int mo_typed, .int mo_faultAt, .int mo_place, .int x1, .int mo_value, .ref mo_readA, .ref mo_aheadA, .int mo_undoMany, .ref mo_asideA, .ref mo_weighingsA, .int mo_weighed, .ref mo_bookA, .int mo_entries, .ref mo_isKeptA, .ref mo_keptA, .ref mo_seedsA])), (mo_toldA, .inl (κ 0, 37, .inl mo_told)), (mo_stA, .inl (κ 0, 17, .inl mo_st)), (mo_textA, .inl (κ 0, 240, .inl mo_text)), (mo_readA, .inl (κ 0, 37, .inl mo_read)), (mo_aheadA, .inl (κ 0, 340, .inl mo_ahead)), (mo_asideA, .inl (κ 0, 17, .inl mo_aside)), (mo_weighingsA, .inl (κ 0, 12, .inl mo_weighings)), (mo_bookA, .inl (κ 0, 30, .inl mo_book)), (mo_isKeptA, .inl (κ 1, 2, .inl mo_isKept)), (mo_keptA, .inl (κ 0, 34, .inl mo_kept)), (mo_seedsA, .inl (κ 0, 2, .inl mo_seeds))]) := hD
  refine lv_iconst (v := 0) hx hb dX9_faults_5 (by decide) ?_
  have hres := Option.some.inj hres
  have h0 := (Prod.mk.inj hres).1
  replace hres := (Prod.mk.inj hres).2
  have h1 := hres
  subst h0
  subst h1
  exact hret _ _ _ _ (by decide) hP hD hS dX9_faults_6

def pX9_takes (N : Nat) (x1 : Int32) (mo_text : Nat → Int32) (mo_typed : Int32) (mo_place : Int32) (mo_wrong : Int32) : Option (Int32 × Int32 × Int32) :=
    kb2 (pX9_next N mo_text mo_typed mo_place) fun r1 w2 =>
    (if r1 = x1 then
    some (1, (w2 + 1), mo_wrong)
    else
    kb2 (pX9_faults 1) fun r5 w6 =>
    if ¬ (r5 = 0 ∨ r5 = 1) then none else
    some (r5, w2, w6))
set_option maxHeartbeats 8000000 in
set_option maxRecDepth 100000 in
theorem tX9_takes (l : Launch) (D : va_G) (κ : Nat → ClassId) (moo : Nat) (mo_toldA : Nat) (mo_stA : Nat) (mo_textA : Nat) (mo_readA : Nat) (mo_aheadA : Nat) (mo_asideA : Nat) (mo_weighingsA : Nat) (mo_bookA : Nat) (mo_isKeptA : Nat) (mo_keptA : Nat) (mo_seedsA : Nat) (N : Nat) (mo_told : Nat → Int32) (mo_st : Nat → Int32) (mo_isThere : Int32) (mo_seed : Int32) (mo_text : Nat → Int32) (mo_typed : Int32) (mo_faultAt : Int32) (mo_place : Int32) (mo_wrong : Int32) (mo_value : Int32) (mo_read : Nat → Int32) (mo_ahead : Nat → Int32) (mo_undoMany : Int32) (mo_aside : Nat → Int32) (mo_weighings : Nat → Int32) (mo_weighed : Int32) (mo_book : Nat → Int32) (mo_entries : Int32) (mo_isKept : Nat → Int32) (mo_kept : Nat → Int32) (mo_seeds : Nat → Int32) (x1 : Int32) (r0 : Int32) (z_mo_place : Int32) (z_mo_wrong : Int32) (hres : pX9_takes N x1 mo_text mo_typed mo_place mo_wrong = some (r0, z_mo_place, z_mo_wrong)) : krI l yX9_takes wsX9_takes { frames := 1, cells := 0, slots := 0, locals := 100 } D κ [.ref moo, .int x1] ([(moo, .inr (9, [.ref mo_toldA, .ref mo_stA, .int mo_isThere, .int mo_seed, .ref mo_textA, .int mo_typed, .int mo_faultAt, .int mo_place, .int mo_wrong, .int mo_value, .ref mo_readA, .ref mo_aheadA, .int mo_undoMany, .ref mo_asideA, .ref mo_weighingsA, .int mo_weighed, .ref mo_bookA, .int mo_entries, .ref mo_isKeptA, .ref mo_keptA, .ref mo_seedsA])), (mo_toldA, .inl (κ 0, 37, .inl mo_told)), (mo_stA, .inl (κ 0, 17, .inl mo_st)), (mo_textA, .inl (κ 0, 240, .inl mo_text)), (mo_readA, .inl (κ 0, 37, .inl mo_read)), (mo_aheadA, .inl (κ 0, 340, .inl mo_ahead)), (mo_asideA, .inl (κ 0, 17, .inl mo_aside)), (mo_weighingsA, .inl (κ 0, 12, .inl mo_weighings)), (mo_bookA, .inl (κ 0, 30, .inl mo_book)), (mo_isKeptA, .inl (κ 1, 2, .inl mo_isKept)), (mo_keptA, .inl (κ 0, 34, .inl mo_kept)), (mo_seedsA, .inl (κ 0, 2, .inl mo_seeds))]) ([(moo, .inr (9, [.ref mo_toldA, .ref mo_stA, .int mo_isThere, .int mo_seed, .ref mo_textA, .int mo_typed, .int mo_faultAt, .int z_mo_place, .int z_mo_wrong, .int mo_value, .ref mo_readA, .ref mo_aheadA, .int mo_undoMany, .ref mo_asideA, .ref mo_weighingsA, .int mo_weighed, .ref mo_bookA, .int mo_entries, .ref mo_isKeptA, .ref mo_keptA, .ref mo_seedsA])), (mo_toldA, .inl (κ 0, 37, .inl mo_told)), (mo_stA, .inl (κ 0, 17, .inl mo_st)), (mo_textA, .inl (κ 0, 240, .inl mo_text)), (mo_readA, .inl (κ 0, 37, .inl mo_read)), (mo_aheadA, .inl (κ 0, 340, .inl mo_ahead)), (mo_asideA, .inl (κ 0, 17, .inl mo_aside)), (mo_weighingsA, .inl (κ 0, 12, .inl mo_weighings)), (mo_bookA, .inl (κ 0, 30, .inl mo_book)), (mo_isKeptA, .inl (κ 1, 2, .inl mo_isKept)), (mo_keptA, .inl (κ 0, 34, .inl mo_kept)), (mo_seedsA, .inl (κ 0, 2, .inl mo_seeds))]) r0 := by
  refine krI_of (cc := cX9_takes) (maxL := 2) (rt := .boolean) (by decide) rfl (Nat.le_of_ble_eq_true rfl) ?_
  intro p e s m args below meth c A Q ls hx hb hml hown hts hK hA hret hP hD hS hl
  have hown : s.vm.findClass RX9 = some m.cls := hown
  have hl : lv_has ls 2 [(0, .ref moo), (1, .int x1)] := hl
  have iw9 : ∀ w ∈ u_ws RX9 TX9 21, w ∈ wsX9_takes := (fun _ h => List.mem_cons_of_mem _ (List.mem_append_right _ h))
  have k0 : (Cond.fieldLink RX9 59 "KingRansomModel" "place" "I").before args s = true := hts _ (List.mem_of_getElem? (i := 1) rfl)
  unfold pX9_takes at hres
  refine lv_aload_n hx hb dX9_takes_0 rfl (lv_at hl 0 rfl) ?_
  obtain ⟨r1, w2, hc3, hres⟩ := kb2_s hres
  refine krI_V (As := []) (rest := []) (wr := []) ⟨hx, hb, hml, hown, hts⟩ hK (tX9_next l D κ moo mo_toldA mo_stA mo_textA mo_readA mo_aheadA mo_asideA mo_weighingsA mo_bookA mo_isKeptA mo_keptA mo_seedsA N mo_told mo_st mo_isThere mo_seed mo_text mo_typed mo_faultAt mo_place mo_wrong mo_value mo_read mo_ahead mo_undoMany mo_aside mo_weighings mo_weighed mo_book mo_entries mo_isKept mo_kept mo_seeds r1 w2 hc3) (cwV 0 hts gX9_takes_X9_next rfl rfl rfl (by decide +kernel) ⟨(Nat.le_of_ble_eq_true rfl), (Nat.le_of_ble_eq_true rfl)⟩) rfl rfl rfl hP hD hS hA [0, 1, 2, 3, 4, 5, 6, 7, 8, 9, 10, 11] [] rfl rfl rfl rfl (by decide) rfl hl.1 rfl (Nat.le_of_ble_eq_true rfl) dX9_takes_1 ⟨Nat.zero_le _, Nat.zero_le _⟩ (fun H locs hP hD hS => ?_)
  have hP : va_P D vwCl ([(moo, .inr (9, [.ref mo_toldA, .ref mo_stA, .int mo_isThere, .int mo_seed, .ref mo_textA, .int mo_typed, .int mo_faultAt, .int w2, .int mo_wrong, .int mo_value, .ref mo_readA, .ref mo_aheadA, .int mo_undoMany, .ref mo_asideA, .ref mo_weighingsA, .int mo_weighed, .ref mo_bookA, .int mo_entries, .ref mo_isKeptA, .ref mo_keptA, .ref mo_seedsA])), (mo_toldA, .inl (κ 0, 37, .inl mo_told)), (mo_stA, .inl (κ 0, 17, .inl mo_st)), (mo_textA, .inl (κ 0, 240, .inl mo_text)), (mo_readA, .inl (κ 0, 37, .inl mo_read)), (mo_aheadA, .inl (κ 0, 340, .inl mo_ahead)), (mo_asideA, .inl (κ 0, 17, .inl mo_aside)), (mo_weighingsA, .inl (κ 0, 12, .inl mo_weighings)), (mo_bookA, .inl (κ 0, 30, .inl mo_book)), (mo_isKeptA, .inl (κ 1, 2, .inl mo_isKept)), (mo_keptA, .inl (κ 0, 34, .inl mo_kept)), (mo_seedsA, .inl (κ 0, 2, .inl mo_seeds))]) H := hP
  have hD : va_D A ([(moo, .inr (9, [.ref mo_toldA, .ref mo_stA, .int mo_isThere, .int mo_seed, .ref mo_textA, .int mo_typed, .int mo_faultAt, .int w2, .int mo_wrong, .int mo_value, .ref mo_readA, .ref mo_aheadA, .int mo_undoMany, .ref mo_asideA, .ref mo_weighingsA, .int mo_weighed, .ref mo_bookA, .int mo_entries, .ref mo_isKeptA, .ref mo_keptA, .ref mo_seedsA])), (mo_toldA, .inl (κ 0, 37, .inl mo_told)), (mo_stA, .inl (κ 0, 17, .inl mo_st)), (mo_textA, .inl (κ 0, 240, .inl mo_text)), (mo_readA, .inl (κ 0, 37, .inl mo_read)), (mo_aheadA, .inl (κ 0, 340, .inl mo_ahead)), (mo_asideA, .inl (κ 0, 17, .inl mo_aside)), (mo_weighingsA, .inl (κ 0, 12, .inl mo_weighings)), (mo_bookA, .inl (κ 0, 30, .inl mo_book)), (mo_isKeptA, .inl (κ 1, 2, .inl mo_isKept)), (mo_keptA, .inl (κ 0, 34, .inl mo_kept)), (mo_seedsA, .inl (κ 0, 2, .inl mo_seeds))]) := hD
  refine lv_iload_n hx hb dX9_takes_4 rfl (lv_at hl 1 rfl) ?_
  refine lv_icmp_eq (tgt := 14) hx hb dX9_takes_5 (by decide) (fun c4 => ?_) (fun c4 => ?_)
  · replace hres := og_t c4 hres
    refine lv_aload_n hx hb dX9_takes_14 rfl (lv_at hl 0 rfl) ?_
    refine lv_dup hx hb dX9_takes_15 rfl ?_
    refine va_get (D := D) (ci := 9) (v := .int w2) (C := RX9) (T := TX9) (N := 21) hx hb hts iw9 hown hK.1 hP 0 rfl rfl 7 (by decide) k0 (fun _ h9 => h9) rfl dX9_takes_16 ?_
    refine lv_iconst (v := 1) hx hb dX9_takes_19 (by decide) ?_
    refine lv_iadd hx hb dX9_takes_20 ?_
    refine va_put (D := D) (ci := 9) (v := .int (w2 + 1)) (ty := .int) (C := RX9) (T := TX9) (N := 21) hx hb hts iw9 tyX9 tyX9_ok nmX9 hown hK.1 hP hD hS 0 rfl rfl 7 (by decide) k0 (fun _ h9 => h9) rfl (tyX9_ok 7 (by decide)) rfl rfl (Nat.le_of_ble_eq_true rfl) dX9_takes_21 (fun H locs hP hD hS => ?_)
    have hP : va_P D vwCl ([(moo, .inr (9, [.ref mo_toldA, .ref mo_stA, .int mo_isThere, .int mo_seed, .ref mo_textA, .int mo_typed, .int mo_faultAt, .int (w2 + 1), .int mo_wrong, .int mo_value, .ref mo_readA, .ref mo_aheadA, .int mo_undoMany, .ref mo_asideA, .ref mo_weighingsA, .int mo_weighed, .ref mo_bookA, .int mo_entries, .ref mo_isKeptA, .ref mo_keptA, .ref mo_seedsA])), (mo_toldA, .inl (κ 0, 37, .inl mo_told)), (mo_stA, .inl (κ 0, 17, .inl mo_st)), (mo_textA, .inl (κ 0, 240, .inl mo_text)), (mo_readA, .inl (κ 0, 37, .inl mo_read)), (mo_aheadA, .inl (κ 0, 340, .inl mo_ahead)), (mo_asideA, .inl (κ 0, 17, .inl mo_aside)), (mo_weighingsA, .inl (κ 0, 12, .inl mo_weighings)), (mo_bookA, .inl (κ 0, 30, .inl mo_book)), (mo_isKeptA, .inl (κ 1, 2, .inl mo_isKept)), (mo_keptA, .inl (κ 0, 34, .inl mo_kept)), (mo_seedsA, .inl (κ 0, 2, .inl mo_seeds))]) H := hP
    have hD : va_D A ([(moo, .inr (9, [.ref mo_toldA, .ref mo_stA, .int mo_isThere, .int mo_seed, .ref mo_textA, .int mo_typed, .int mo_faultAt, .int (w2 + 1), .int mo_wrong, .int mo_value, .ref mo_readA, .ref mo_aheadA, .int mo_undoMany, .ref mo_asideA, .ref mo_weighingsA, .int mo_weighed, .ref mo_bookA, .int mo_entries, .ref mo_isKeptA, .ref mo_keptA, .ref mo_seedsA])), (mo_toldA, .inl (κ 0, 37, .inl mo_told)), (mo_stA, .inl (κ 0, 17, .inl mo_st)), (mo_textA, .inl (κ 0, 240, .inl mo_text)), (mo_readA, .inl (κ 0, 37, .inl mo_read)), (mo_aheadA, .inl (κ 0, 340, .inl mo_ahead)), (mo_asideA, .inl (κ 0, 17, .inl mo_aside)), (mo_weighingsA, .inl (κ 0, 12, .inl mo_weighings)), (mo_bookA, .inl (κ 0, 30, .inl mo_book)), (mo_isKeptA, .inl (κ 1, 2, .inl mo_isKept)), (mo_keptA, .inl (κ 0, 34, .inl mo_kept)), (mo_seedsA, .inl (κ 0, 2, .inl mo_seeds))]) := hD
    refine lv_iconst (v := 1) hx hb dX9_takes_24 (by decide) ?_
    have hres := Option.some.inj hres
    have h0 := (Prod.mk.inj hres).1
    replace hres := (Prod.mk.inj hres).2
    have h1 := (Prod.mk.inj hres).1
    replace hres := (Prod.mk.inj hres).2
    have h2 := hres
    subst h0
    subst h1
    subst h2
    exact hret _ _ _ _ (by decide) hP hD hS dX9_takes_25
  · replace hres := og_f c4 hres
    refine lv_aload_n hx hb dX9_takes_8 rfl (lv_at hl 0 rfl) ?_
    refine lv_iconst (v := 1) hx hb dX9_takes_9 (by decide) ?_
    obtain ⟨r5, w6, hc7, hres⟩ := kb2_s hres
    refine krI_V (As := [.int 1]) (rest := []) (wr := []) ⟨hx, hb, hml, hown, hts⟩ hK (tX9_faults l D κ moo mo_toldA mo_stA mo_textA mo_readA mo_aheadA mo_asideA mo_weighingsA mo_bookA mo_isKeptA mo_keptA mo_seedsA mo_told mo_st mo_isThere mo_seed mo_text mo_typed mo_faultAt w2 mo_wrong mo_value mo_read mo_ahead mo_undoMany mo_aside mo_weighings mo_weighed mo_book mo_entries mo_isKept mo_kept mo_seeds 1 r5 w6 hc7) (cwV 1 hts gX9_takes_X9_faults rfl rfl rfl (by decide +kernel) ⟨(Nat.le_of_ble_eq_true rfl), (Nat.le_of_ble_eq_true rfl)⟩) rfl rfl rfl hP hD hS hA [0, 1, 2, 3, 4, 5, 6, 7, 8, 9, 10, 11] [] rfl rfl rfl rfl (by decide) rfl hl.1 rfl (Nat.le_of_ble_eq_true rfl) dX9_takes_10 ⟨Nat.zero_le _, Nat.zero_le _⟩ (fun H locs hP hD hS => ?_)
    have hP : va_P D vwCl ([(moo, .inr (9, [.ref mo_toldA, .ref mo_stA, .int mo_isThere, .int mo_seed, .ref mo_textA, .int mo_typed, .int mo_faultAt, .int w2, .int w6, .int mo_value, .ref mo_readA, .ref mo_aheadA, .int mo_undoMany, .ref mo_asideA, .ref mo_weighingsA, .int mo_weighed, .ref mo_bookA, .int mo_entries, .ref mo_isKeptA, .ref mo_keptA, .ref mo_seedsA])), (mo_toldA, .inl (κ 0, 37, .inl mo_told)), (mo_stA, .inl (κ 0, 17, .inl mo_st)), (mo_textA, .inl (κ 0, 240, .inl mo_text)), (mo_readA, .inl (κ 0, 37, .inl mo_read)), (mo_aheadA, .inl (κ 0, 340, .inl mo_ahead)), (mo_asideA, .inl (κ 0, 17, .inl mo_aside)), (mo_weighingsA, .inl (κ 0, 12, .inl mo_weighings)), (mo_bookA, .inl (κ 0, 30, .inl mo_book)), (mo_isKeptA, .inl (κ 1, 2, .inl mo_isKept)), (mo_keptA, .inl (κ 0, 34, .inl mo_kept)), (mo_seedsA, .inl (κ 0, 2, .inl mo_seeds))]) H := hP
    have hD : va_D A ([(moo, .inr (9, [.ref mo_toldA, .ref mo_stA, .int mo_isThere, .int mo_seed, .ref mo_textA, .int mo_typed, .int mo_faultAt, .int w2, .int w6, .int mo_value, .ref mo_readA, .ref mo_aheadA, .int mo_undoMany, .ref mo_asideA, .ref mo_weighingsA, .int mo_weighed, .ref mo_bookA, .int mo_entries, .ref mo_isKeptA, .ref mo_keptA, .ref mo_seedsA])), (mo_toldA, .inl (κ 0, 37, .inl mo_told)), (mo_stA, .inl (κ 0, 17, .inl mo_st)), (mo_textA, .inl (κ 0, 240, .inl mo_text)), (mo_readA, .inl (κ 0, 37, .inl mo_read)), (mo_aheadA, .inl (κ 0, 340, .inl mo_ahead)), (mo_asideA, .inl (κ 0, 17, .inl mo_aside)), (mo_weighingsA, .inl (κ 0, 12, .inl mo_weighings)), (mo_bookA, .inl (κ 0, 30, .inl mo_book)), (mo_isKeptA, .inl (κ 1, 2, .inl mo_isKept)), (mo_keptA, .inl (κ 0, 34, .inl mo_kept)), (mo_seedsA, .inl (κ 0, 2, .inl mo_seeds))]) := hD
    obtain ⟨g8, hres⟩ := og_no hres
    have hres := Option.some.inj hres
    have h0 := (Prod.mk.inj hres).1
    replace hres := (Prod.mk.inj hres).2
    have h1 := (Prod.mk.inj hres).1
    replace hres := (Prod.mk.inj hres).2
    have h2 := hres
    subst h0
    subst h1
    subst h2
    exact hret _ _ _ _ (kr_nz g8) hP hD hS dX9_takes_13

def pX9_takesNumber_L147 (mo_read : Nat → Int32) (v4 : Int32) (w_mo_place : Int32) (w_mo_value : Int32) : Option (Int32 × Int32 × Int32 × Int32 × (Nat → Int32)) :=
    kb2 (pX9_faults 2) fun r11 w12 =>
    if ¬ (r11 = 0 ∨ r11 = 1) then none else
    some (r11, v4, w12, w_mo_value, mo_read)
def pX9_takesNumber_L121 (x1 : Int32) (x2 : Int32) (x3 : Int32) (mo_wrong : Int32) (mo_read : Nat → Int32) (v4 : Int32) (w_mo_place : Int32) (w_mo_value : Int32) : Option (Int32 × Int32 × Int32 × Int32 × (Nat → Int32)) :=
    (if 3 < (w_mo_place - v4) then
    pX9_takesNumber_L147 mo_read v4 w_mo_place w_mo_value
    else
    kb1 (pX9_in (w_mo_value.toInt64) (x1.toInt64) (x2.toInt64)) fun r16 =>
    (if r16 = 0 then
    pX9_takesNumber_L147 mo_read v4 w_mo_place w_mo_value
    else
    if x3 < 0 ∨ 37 ≤ x3.toNatClampNeg then none else
    some (1, w_mo_place, mo_wrong, w_mo_value, (upd mo_read x3.toNatClampNeg w_mo_value))))
def pX9_takesNumber_L105 (k34 : Int32 → Int32 → Int32 → Option (Int32 × Int32 × Int32 × Int32 × (Nat → Int32))) (v4 : Int32) (s0 : Int32) (w_mo_place : Int32) (w_mo_value : Int32) : Option (Int32 × Int32 × Int32 × Int32 × (Nat → Int32)) :=
    k34 v4 (w_mo_place + 1) s0
def pX9_takesNumber_L34 (x1 : Int32) (x2 : Int32) (x3 : Int32) (mo_text : Nat → Int32) (mo_typed : Int32) (mo_wrong : Int32) (mo_read : Nat → Int32) : Nat → Int32 → Int32 → Int32 → Option (Int32 × Int32 × Int32 × Int32 × (Nat → Int32))
  | 0, _, _, _ => none
  | n34 + 1, v4, w_mo_place, w_mo_value =>
    (if mo_typed ≤ w_mo_place then
    pX9_takesNumber_L121 x1 x2 x3 mo_wrong mo_read v4 w_mo_place w_mo_value
    else
    if w_mo_place < 0 ∨ 240 ≤ w_mo_place.toNatClampNeg then none else
    kb1 (pX9_in ((mo_text w_mo_place.toNatClampNeg).toInt64) 48 57) fun r22 =>
    (if r22 = 0 then
    pX9_takesNumber_L121 x1 x2 x3 mo_wrong mo_read v4 w_mo_place w_mo_value
    else
    (if w_mo_value ≤ 999 then
    pX9_takesNumber_L105 (pX9_takesNumber_L34 x1 x2 x3 mo_text mo_typed mo_wrong mo_read n34) v4 (((10 * w_mo_value) + (mo_text w_mo_place.toNatClampNeg)) - 48) w_mo_place w_mo_value
    else
    pX9_takesNumber_L105 (pX9_takesNumber_L34 x1 x2 x3 mo_text mo_typed mo_wrong mo_read n34) v4 w_mo_value w_mo_place w_mo_value)))
def pX9_takesNumber (N : Nat) (x1 : Int32) (x2 : Int32) (x3 : Int32) (mo_text : Nat → Int32) (mo_typed : Int32) (mo_place : Int32) (mo_wrong : Int32) (mo_value : Int32) (mo_read : Nat → Int32) : Option (Int32 × Int32 × Int32 × Int32 × (Nat → Int32)) :=
    kb2 (pX9_next N mo_text mo_typed mo_place) fun r1 w2 =>
    kb1 (pX9_in (r1.toInt64) 48 57) fun r4 =>
    (if r4 = 0 then
    kb2 (pX9_faults 1) fun r7 w8 =>
    if ¬ (r7 = 0 ∨ r7 = 1) then none else
    some (r7, w2, w8, mo_value, mo_read)
    else
    pX9_takesNumber_L34 x1 x2 x3 mo_text mo_typed mo_wrong mo_read N w2 w2 0)
set_option maxHeartbeats 8000000 in
set_option maxRecDepth 100000 in
theorem tX9_takesNumber (l : Launch) (D : va_G) (κ : Nat → ClassId) (moo : Nat) (mo_toldA : Nat) (mo_stA : Nat) (mo_textA : Nat) (mo_readA : Nat) (mo_aheadA : Nat) (mo_asideA : Nat) (mo_weighingsA : Nat) (mo_bookA : Nat) (mo_isKeptA : Nat) (mo_keptA : Nat) (mo_seedsA : Nat) (N : Nat) (mo_told : Nat → Int32) (mo_st : Nat → Int32) (mo_isThere : Int32) (mo_seed : Int32) (mo_text : Nat → Int32) (mo_typed : Int32) (mo_faultAt : Int32) (mo_place : Int32) (mo_wrong : Int32) (mo_value : Int32) (mo_read : Nat → Int32) (mo_ahead : Nat → Int32) (mo_undoMany : Int32) (mo_aside : Nat → Int32) (mo_weighings : Nat → Int32) (mo_weighed : Int32) (mo_book : Nat → Int32) (mo_entries : Int32) (mo_isKept : Nat → Int32) (mo_kept : Nat → Int32) (mo_seeds : Nat → Int32) (x1 : Int32) (x2 : Int32) (x3 : Int32) (r0 : Int32) (z_mo_place : Int32) (z_mo_wrong : Int32) (z_mo_value : Int32) (z_mo_read : Nat → Int32) (hres : pX9_takesNumber N x1 x2 x3 mo_text mo_typed mo_place mo_wrong mo_value mo_read = some (r0, z_mo_place, z_mo_wrong, z_mo_value, z_mo_read)) : krI l yX9_takesNumber wsX9_takesNumber { frames := 1, cells := 0, slots := 0, locals := 100 } D κ [.ref moo, .int x1, .int x2, .int x3] ([(moo, .inr (9, [.ref mo_toldA, .ref mo_stA, .int mo_isThere, .int mo_seed, .ref mo_textA, .int mo_typed, .int mo_faultAt, .int mo_place, .int mo_wrong, .int mo_value, .ref mo_readA, .ref mo_aheadA, .int mo_undoMany, .ref mo_asideA, .ref mo_weighingsA, .int mo_weighed, .ref mo_bookA, .int mo_entries, .ref mo_isKeptA, .ref mo_keptA, .ref mo_seedsA])), (mo_toldA, .inl (κ 0, 37, .inl mo_told)), (mo_stA, .inl (κ 0, 17, .inl mo_st)), (mo_textA, .inl (κ 0, 240, .inl mo_text)), (mo_readA, .inl (κ 0, 37, .inl mo_read)), (mo_aheadA, .inl (κ 0, 340, .inl mo_ahead)), (mo_asideA, .inl (κ 0, 17, .inl mo_aside)), (mo_weighingsA, .inl (κ 0, 12, .inl mo_weighings)), (mo_bookA, .inl (κ 0, 30, .inl mo_book)), (mo_isKeptA, .inl (κ 1, 2, .inl mo_isKept)), (mo_keptA, .inl (κ 0, 34, .inl mo_kept)), (mo_seedsA, .inl (κ 0, 2, .inl mo_seeds))]) ([(moo, .inr (9, [.ref mo_toldA, .ref mo_stA, .int mo_isThere, .int mo_seed, .ref mo_textA, .int mo_typed, .int mo_faultAt, .int z_mo_place, .int z_mo_wrong, .int z_mo_value, .ref mo_readA, .ref mo_aheadA, .int mo_undoMany, .ref mo_asideA, .ref mo_weighingsA, .int mo_weighed, .ref mo_bookA, .int mo_entries, .ref mo_isKeptA, .ref mo_keptA, .ref mo_seedsA])), (mo_toldA, .inl (κ 0, 37, .inl mo_told)), (mo_stA, .inl (κ 0, 17, .inl mo_st)), (mo_textA, .inl (κ 0, 240, .inl mo_text)), (mo_readA, .inl (κ 0, 37, .inl z_mo_read)), (mo_aheadA, .inl (κ 0, 340, .inl mo_ahead)), (mo_asideA, .inl (κ 0, 17, .inl mo_aside)), (mo_weighingsA, .inl (κ 0, 12, .inl mo_weighings)), (mo_bookA, .inl (κ 0, 30, .inl mo_book)), (mo_isKeptA, .inl (κ 1, 2, .inl mo_isKept)), (mo_keptA, .inl (κ 0, 34, .inl mo_kept)), (mo_seedsA, .inl (κ 0, 2, .inl mo_seeds))]) r0 := by
  refine krI_of (cc := cX9_takesNumber) (maxL := 5) (rt := .boolean) (by decide) rfl (Nat.le_of_ble_eq_true rfl) ?_
  intro p e s m args below meth c A Q ls hx hb hml hown hts hK hA hret hP hD hS hl
  have hown : s.vm.findClass RX9 = some m.cls := hown
  have hl : lv_has ls 5 [(0, .ref moo), (1, .int x1), (2, .int x2), (3, .int x3)] := hl
  have iw9 : ∀ w ∈ u_ws RX9 TX9 21, w ∈ wsX9_takesNumber := (fun _ h => List.mem_cons_of_mem _ (List.mem_append_right _ h))
  have k0 : (Cond.constantLong RX9 73 (48)).before args s = true := hts _ (List.mem_of_getElem? (i := 1) rfl)
  have k1 : (Cond.constantLong RX9 75 (57)).before args s = true := hts _ (List.mem_of_getElem? (i := 2) rfl)
  have k2 : (Cond.fieldLink RX9 59 "KingRansomModel" "place" "I").before args s = true := hts _ (List.mem_of_getElem? (i := 3) rfl)
  have k3 : (Cond.fieldLink RX9 77 "KingRansomModel" "value" "I").before args s = true := hts _ (List.mem_of_getElem? (i := 4) rfl)
  have k4 : (Cond.fieldLink RX9 23 "KingRansomModel" "read" "[I").before args s = true := hts _ (List.mem_of_getElem? (i := 7) rfl)
  have k5 : (Cond.fieldLink RX9 55 "KingRansomModel" "typed" "I").before args s = true := hts _ (List.mem_of_getElem? (i := 5) rfl)
  have k6 : (Cond.fieldLink RX9 16 "KingRansomModel" "text" "[I").before args s = true := hts _ (List.mem_of_getElem? (i := 6) rfl)
  have L147 : ∀ (v4 : Int32) (w_mo_place : Int32) (w_mo_value : Int32) (H : Heap) (locs : List Loc) (ls : Array Slot), va_P D vwCl ([(moo, .inr (9, [.ref mo_toldA, .ref mo_stA, .int mo_isThere, .int mo_seed, .ref mo_textA, .int mo_typed, .int mo_faultAt, .int w_mo_place, .int mo_wrong, .int w_mo_value, .ref mo_readA, .ref mo_aheadA, .int mo_undoMany, .ref mo_asideA, .ref mo_weighingsA, .int mo_weighed, .ref mo_bookA, .int mo_entries, .ref mo_isKeptA, .ref mo_keptA, .ref mo_seedsA])), (mo_toldA, .inl (κ 0, 37, .inl mo_told)), (mo_stA, .inl (κ 0, 17, .inl mo_st)), (mo_textA, .inl (κ 0, 240, .inl mo_text)), (mo_readA, .inl (κ 0, 37, .inl mo_read)), (mo_aheadA, .inl (κ 0, 340, .inl mo_ahead)), (mo_asideA, .inl (κ 0, 17, .inl mo_aside)), (mo_weighingsA, .inl (κ 0, 12, .inl mo_weighings)), (mo_bookA, .inl (κ 0, 30, .inl mo_book)), (mo_isKeptA, .inl (κ 1, 2, .inl mo_isKept)), (mo_keptA, .inl (κ 0, 34, .inl mo_kept)), (mo_seedsA, .inl (κ 0, 2, .inl mo_seeds))]) H → va_D A ([(moo, .inr (9, [.ref mo_toldA, .ref mo_stA, .int mo_isThere, .int mo_seed, .ref mo_textA, .int mo_typed, .int mo_faultAt, .int w_mo_place, .int mo_wrong, .int w_mo_value, .ref mo_readA, .ref mo_aheadA, .int mo_undoMany, .ref mo_asideA, .ref mo_weighingsA, .int mo_weighed, .ref mo_bookA, .int mo_entries, .ref mo_isKeptA, .ref mo_keptA, .ref mo_seedsA])), (mo_toldA, .inl (κ 0, 37, .inl mo_told)), (mo_stA, .inl (κ 0, 17, .inl mo_st)), (mo_textA, .inl (κ 0, 240, .inl mo_text)), (mo_readA, .inl (κ 0, 37, .inl mo_read)), (mo_aheadA, .inl (κ 0, 340, .inl mo_ahead)), (mo_asideA, .inl (κ 0, 17, .inl mo_aside)), (mo_weighingsA, .inl (κ 0, 12, .inl mo_weighings)), (mo_bookA, .inl (κ 0, 30, .inl mo_book)), (mo_isKeptA, .inl (κ 1, 2, .inl mo_isKept)), (mo_keptA, .inl (κ 0, 34, .inl mo_kept)), (mo_seedsA, .inl (κ 0, 2, .inl mo_seeds))]) → va_S A s.heap H locs → lv_has ls 5 [(0, .ref moo), (4, .int v4)] → pX9_takesNumber_L147 mo_read v4 w_mo_place w_mo_value = some (r0, z_mo_place, z_mo_wrong, z_mo_value, z_mo_read) → W p l e { frames := 1, cells := 0, slots := 0, locals := 100 } s m args below meth c H locs 0 0 Q (F0 m 147 ls []) := by
    intro v4 w_mo_place w_mo_value H locs ls hP hD hS hl hres
    unfold pX9_takesNumber_L147 at hres
    refine lv_aload_n hx hb dX9_takesNumber_147 rfl (lv_at hl 0 rfl) ?_
    refine lv_iload hx hb dX9_takesNumber_148 (lv_at hl 1 rfl) ?_
    refine va_put (D := D) (ci := 9) (v := .int v4) (ty := .int) (C := RX9) (T := TX9) (N := 21) hx hb hts iw9 tyX9 tyX9_ok nmX9 hown hK.1 hP hD hS 0 rfl rfl 7 (by decide) k2 (fun _ h9 => h9) rfl (tyX9_ok 7 (by decide)) rfl rfl (Nat.le_of_ble_eq_true rfl) dX9_takesNumber_150 (fun H locs hP hD hS => ?_)
    have hP : va_P D vwCl ([(moo, .inr (9, [.ref mo_toldA, .ref mo_stA, .int mo_isThere, .int mo_seed, .ref mo_textA, .int mo_typed, .int mo_faultAt, .int v4, .int mo_wrong, .int w_mo_value, .ref mo_readA, .ref mo_aheadA, .int mo_undoMany, .ref mo_asideA, .ref mo_weighingsA, .int mo_weighed, .ref mo_bookA, .int mo_entries, .ref mo_isKeptA, .ref mo_keptA, .ref mo_seedsA])), (mo_toldA, .inl (κ 0, 37, .inl mo_told)), (mo_stA, .inl (κ 0, 17, .inl mo_st)), (mo_textA, .inl (κ 0, 240, .inl mo_text)), (mo_readA, .inl (κ 0, 37, .inl mo_read)), (mo_aheadA, .inl (κ 0, 340, .inl mo_ahead)), (mo_asideA, .inl (κ 0, 17, .inl mo_aside)), (mo_weighingsA, .inl (κ 0, 12, .inl mo_weighings)), (mo_bookA, .inl (κ 0, 30, .inl mo_book)), (mo_isKeptA, .inl (κ 1, 2, .inl mo_isKept)), (mo_keptA, .inl (κ 0, 34, .inl mo_kept)), (mo_seedsA, .inl (κ 0, 2, .inl mo_seeds))]) H := hP
    have hD : va_D A ([(moo, .inr (9, [.ref mo_toldA, .ref mo_stA, .int mo_isThere, .int mo_seed, .ref mo_textA, .int mo_typed, .int mo_faultAt, .int v4, .int mo_wrong, .int w_mo_value, .ref mo_readA, .ref mo_aheadA, .int mo_undoMany, .ref mo_asideA, .ref mo_weighingsA, .int mo_weighed, .ref mo_bookA, .int mo_entries, .ref mo_isKeptA, .ref mo_keptA, .ref mo_seedsA])), (mo_toldA, .inl (κ 0, 37, .inl mo_told)), (mo_stA, .inl (κ 0, 17, .inl mo_st)), (mo_textA, .inl (κ 0, 240, .inl mo_text)), (mo_readA, .inl (κ 0, 37, .inl mo_read)), (mo_aheadA, .inl (κ 0, 340, .inl mo_ahead)), (mo_asideA, .inl (κ 0, 17, .inl mo_aside)), (mo_weighingsA, .inl (κ 0, 12, .inl mo_weighings)), (mo_bookA, .inl (κ 0, 30, .inl mo_book)), (mo_isKeptA, .inl (κ 1, 2, .inl mo_isKept)), (mo_keptA, .inl (κ 0, 34, .inl mo_kept)), (mo_seedsA, .inl (κ 0, 2, .inl mo_seeds))]) := hD
    refine lv_aload_n hx hb dX9_takesNumber_153 rfl (lv_at hl 0 rfl) ?_
    refine lv_iconst (v := 2) hx hb dX9_takesNumber_154 (by decide) ?_
    obtain ⟨r11, w12, hc13, hres⟩ := kb2_s hres
    refine krI_V (As := [.int 2]) (rest := []) (wr := []) ⟨hx, hb, hml, hown, hts⟩ hK (tX9_faults l D κ moo mo_toldA mo_stA mo_textA mo_readA mo_aheadA mo_asideA mo_weighingsA mo_bookA mo_isKeptA mo_keptA mo_seedsA mo_told mo_st mo_isThere mo_seed mo_text mo_typed mo_faultAt v4 mo_wrong w_mo_value mo_read mo_ahead mo_undoMany mo_aside mo_weighings mo_weighed mo_book mo_entries mo_isKept mo_kept mo_seeds 2 r11 w12 hc13) (cwV 1 hts gX9_takesNumber_X9_faults rfl rfl rfl (by decide +kernel) ⟨(Nat.le_of_ble_eq_true rfl), (Nat.le_of_ble_eq_true rfl)⟩) rfl rfl rfl hP hD hS hA [0, 1, 2, 3, 4, 5, 6, 7, 8, 9, 10, 11] [] rfl rfl rfl rfl (by decide) rfl hl.1 rfl (Nat.le_of_ble_eq_true rfl) dX9_takesNumber_155 ⟨Nat.zero_le _, Nat.zero_le _⟩ (fun H locs hP hD hS => ?_)
    have hP : va_P D vwCl ([(moo, .inr (9, [.ref mo_toldA, .ref mo_stA, .int mo_isThere, .int mo_seed, .ref mo_textA, .int mo_typed, .int mo_faultAt, .int v4, .int w12, .int w_mo_value, .ref mo_readA, .ref mo_aheadA, .int mo_undoMany, .ref mo_asideA, .ref mo_weighingsA, .int mo_weighed, .ref mo_bookA, .int mo_entries, .ref mo_isKeptA, .ref mo_keptA, .ref mo_seedsA])), (mo_toldA, .inl (κ 0, 37, .inl mo_told)), (mo_stA, .inl (κ 0, 17, .inl mo_st)), (mo_textA, .inl (κ 0, 240, .inl mo_text)), (mo_readA, .inl (κ 0, 37, .inl mo_read)), (mo_aheadA, .inl (κ 0, 340, .inl mo_ahead)), (mo_asideA, .inl (κ 0, 17, .inl mo_aside)), (mo_weighingsA, .inl (κ 0, 12, .inl mo_weighings)), (mo_bookA, .inl (κ 0, 30, .inl mo_book)), (mo_isKeptA, .inl (κ 1, 2, .inl mo_isKept)), (mo_keptA, .inl (κ 0, 34, .inl mo_kept)), (mo_seedsA, .inl (κ 0, 2, .inl mo_seeds))]) H := hP
    have hD : va_D A ([(moo, .inr (9, [.ref mo_toldA, .ref mo_stA, .int mo_isThere, .int mo_seed, .ref mo_textA, .int mo_typed, .int mo_faultAt, .int v4, .int w12, .int w_mo_value, .ref mo_readA, .ref mo_aheadA, .int mo_undoMany, .ref mo_asideA, .ref mo_weighingsA, .int mo_weighed, .ref mo_bookA, .int mo_entries, .ref mo_isKeptA, .ref mo_keptA, .ref mo_seedsA])), (mo_toldA, .inl (κ 0, 37, .inl mo_told)), (mo_stA, .inl (κ 0, 17, .inl mo_st)), (mo_textA, .inl (κ 0, 240, .inl mo_text)), (mo_readA, .inl (κ 0, 37, .inl mo_read)), (mo_aheadA, .inl (κ 0, 340, .inl mo_ahead)), (mo_asideA, .inl (κ 0, 17, .inl mo_aside)), (mo_weighingsA, .inl (κ 0, 12, .inl mo_weighings)), (mo_bookA, .inl (κ 0, 30, .inl mo_book)), (mo_isKeptA, .inl (κ 1, 2, .inl mo_isKept)), (mo_keptA, .inl (κ 0, 34, .inl mo_kept)), (mo_seedsA, .inl (κ 0, 2, .inl mo_seeds))]) := hD
    obtain ⟨g14, hres⟩ := og_no hres
    have hres := Option.some.inj hres
    have h0 := (Prod.mk.inj hres).1
    replace hres := (Prod.mk.inj hres).2
    have h1 := (Prod.mk.inj hres).1
    replace hres := (Prod.mk.inj hres).2
    have h2 := (Prod.mk.inj hres).1
    replace hres := (Prod.mk.inj hres).2
    have h3 := (Prod.mk.inj hres).1
    replace hres := (Prod.mk.inj hres).2
    have h4 := hres
    subst h0
    subst h1
    subst h2
    subst h3
    subst h4
    exact hret _ _ _ _ (kr_nz g14) hP hD hS dX9_takesNumber_158
  have L121 : ∀ (v4 : Int32) (w_mo_place : Int32) (w_mo_value : Int32) (H : Heap) (locs : List Loc) (ls : Array Slot), va_P D vwCl ([(moo, .inr (9, [.ref mo_toldA, .ref mo_stA, .int mo_isThere, .int mo_seed, .ref mo_textA, .int mo_typed, .int mo_faultAt, .int w_mo_place, .int mo_wrong, .int w_mo_value, .ref mo_readA, .ref mo_aheadA, .int mo_undoMany, .ref mo_asideA, .ref mo_weighingsA, .int mo_weighed, .ref mo_bookA, .int mo_entries, .ref mo_isKeptA, .ref mo_keptA, .ref mo_seedsA])), (mo_toldA, .inl (κ 0, 37, .inl mo_told)), (mo_stA, .inl (κ 0, 17, .inl mo_st)), (mo_textA, .inl (κ 0, 240, .inl mo_text)), (mo_readA, .inl (κ 0, 37, .inl mo_read)), (mo_aheadA, .inl (κ 0, 340, .inl mo_ahead)), (mo_asideA, .inl (κ 0, 17, .inl mo_aside)), (mo_weighingsA, .inl (κ 0, 12, .inl mo_weighings)), (mo_bookA, .inl (κ 0, 30, .inl mo_book)), (mo_isKeptA, .inl (κ 1, 2, .inl mo_isKept)), (mo_keptA, .inl (κ 0, 34, .inl mo_kept)), (mo_seedsA, .inl (κ 0, 2, .inl mo_seeds))]) H → va_D A ([(moo, .inr (9, [.ref mo_toldA, .ref mo_stA, .int mo_isThere, .int mo_seed, .ref mo_textA, .int mo_typed, .int mo_faultAt, .int w_mo_place, .int mo_wrong, .int w_mo_value, .ref mo_readA, .ref mo_aheadA, .int mo_undoMany, .ref mo_asideA, .ref mo_weighingsA, .int mo_weighed, .ref mo_bookA, .int mo_entries, .ref mo_isKeptA, .ref mo_keptA, .ref mo_seedsA])), (mo_toldA, .inl (κ 0, 37, .inl mo_told)), (mo_stA, .inl (κ 0, 17, .inl mo_st)), (mo_textA, .inl (κ 0, 240, .inl mo_text)), (mo_readA, .inl (κ 0, 37, .inl mo_read)), (mo_aheadA, .inl (κ 0, 340, .inl mo_ahead)), (mo_asideA, .inl (κ 0, 17, .inl mo_aside)), (mo_weighingsA, .inl (κ 0, 12, .inl mo_weighings)), (mo_bookA, .inl (κ 0, 30, .inl mo_book)), (mo_isKeptA, .inl (κ 1, 2, .inl mo_isKept)), (mo_keptA, .inl (κ 0, 34, .inl mo_kept)), (mo_seedsA, .inl (κ 0, 2, .inl mo_seeds))]) → va_S A s.heap H locs → lv_has ls 5 [(0, .ref moo), (1, .int x1), (2, .int x2), (3, .int x3), (4, .int v4)] → pX9_takesNumber_L121 x1 x2 x3 mo_wrong mo_read v4 w_mo_place w_mo_value = some (r0, z_mo_place, z_mo_wrong, z_mo_value, z_mo_read) → W p l e { frames := 1, cells := 0, slots := 0, locals := 100 } s m args below meth c H locs 0 0 Q (F0 m 121 ls []) := by
    intro v4 w_mo_place w_mo_value H locs ls hP hD hS hl hres
    unfold pX9_takesNumber_L121 at hres
    refine lv_aload_n hx hb dX9_takesNumber_121 rfl (lv_at hl 0 rfl) ?_
    refine va_get (D := D) (ci := 9) (v := .int w_mo_place) (C := RX9) (T := TX9) (N := 21) hx hb hts iw9 hown hK.1 hP 0 rfl rfl 7 (by decide) k2 (fun _ h9 => h9) rfl dX9_takesNumber_122 ?_
    refine lv_iload hx hb dX9_takesNumber_125 (lv_at hl 4 rfl) ?_
    refine lv_isub hx hb dX9_takesNumber_127 ?_
    refine lv_iconst (v := 3) hx hb dX9_takesNumber_128 (by decide) ?_
    refine lv_icmp_gt (tgt := 147) hx hb dX9_takesNumber_129 (by decide) (fun c15 => ?_) (fun c15 => ?_)
    · replace hres := og_t c15 hres
      exact L147 v4 w_mo_place w_mo_value _ _ _ hP hD hS (lv_sub hl [0, 4] rfl) hres
    · replace hres := og_f c15 hres
      refine lv_aload_n hx hb dX9_takesNumber_132 rfl (lv_at hl 0 rfl) ?_
      refine va_get (D := D) (ci := 9) (v := .int w_mo_value) (C := RX9) (T := TX9) (N := 21) hx hb hts iw9 hown hK.1 hP 0 rfl rfl 9 (by decide) k3 (fun _ h9 => h9) rfl dX9_takesNumber_133 ?_
      refine lv_i2l (v := w_mo_value.toInt64) hx hb dX9_takesNumber_136 rfl ?_
      refine lv_iload_n hx hb dX9_takesNumber_137 rfl (lv_at hl 1 rfl) ?_
      refine lv_i2l (v := x1.toInt64) hx hb dX9_takesNumber_138 rfl ?_
      refine lv_iload_n hx hb dX9_takesNumber_139 rfl (lv_at hl 2 rfl) ?_
      refine lv_i2l (v := x2.toInt64) hx hb dX9_takesNumber_140 rfl ?_
      obtain ⟨r16, hc17, hres⟩ := kb1_s hres
      refine krI_S0 (As := [.long (w_mo_value.toInt64), .long (x1.toInt64), .long (x2.toInt64)]) (rest := []) ⟨hx, hb, hml, hown, hts⟩ hK (tX9_in l D κ (w_mo_value.toInt64) (x1.toInt64) (x2.toInt64) r16 hc17) (va_cwS 3 hts gX9_takesNumber_X9_in rfl rfl rfl (by decide +kernel) ⟨(Nat.le_of_ble_eq_true rfl), (Nat.le_of_ble_eq_true rfl)⟩) hP hD hS hA rfl hl.1 rfl (Nat.le_of_ble_eq_true rfl) dX9_takesNumber_141 ⟨Nat.zero_le _, Nat.zero_le _⟩ (fun H locs hP hD hS => ?_)
      refine lv_if_ne (tgt := 159) hx hb dX9_takesNumber_144 (by decide) (fun c18 => ?_) (fun c18 => ?_)
      · replace hres := og_f c18 hres
        refine lv_aload_n hx hb dX9_takesNumber_159 rfl (lv_at hl 0 rfl) ?_
        refine va_get (D := D) (ci := 9) (v := .ref mo_readA) (C := RX9) (T := TX9) (N := 21) hx hb hts iw9 hown hK.1 hP 0 rfl rfl 10 (by decide) k4 (fun _ h9 => h9) rfl dX9_takesNumber_160 ?_
        refine lv_iload_n hx hb dX9_takesNumber_163 rfl (lv_at hl 3 rfl) ?_
        refine lv_aload_n hx hb dX9_takesNumber_164 rfl (lv_at hl 0 rfl) ?_
        refine va_get (D := D) (ci := 9) (v := .int w_mo_value) (C := RX9) (T := TX9) (N := 21) hx hb hts iw9 hown hK.1 hP 0 rfl rfl 9 (by decide) k3 (fun _ h9 => h9) rfl dX9_takesNumber_165 ?_
        obtain ⟨g19, hres⟩ := og_no hres
        refine kr_iast (f := mo_read) (j := x3.toNatClampNeg) (x := w_mo_value) hx hb hK hP hD hS 4 rfl g19 rfl dX9_takesNumber_168 (fun H locs hP hD hS => ?_)
        have hP : va_P D vwCl ([(moo, .inr (9, [.ref mo_toldA, .ref mo_stA, .int mo_isThere, .int mo_seed, .ref mo_textA, .int mo_typed, .int mo_faultAt, .int w_mo_place, .int mo_wrong, .int w_mo_value, .ref mo_readA, .ref mo_aheadA, .int mo_undoMany, .ref mo_asideA, .ref mo_weighingsA, .int mo_weighed, .ref mo_bookA, .int mo_entries, .ref mo_isKeptA, .ref mo_keptA, .ref mo_seedsA])), (mo_toldA, .inl (κ 0, 37, .inl mo_told)), (mo_stA, .inl (κ 0, 17, .inl mo_st)), (mo_textA, .inl (κ 0, 240, .inl mo_text)), (mo_readA, .inl (κ 0, 37, .inl (upd mo_read x3.toNatClampNeg w_mo_value))), (mo_aheadA, .inl (κ 0, 340, .inl mo_ahead)), (mo_asideA, .inl (κ 0, 17, .inl mo_aside)), (mo_weighingsA, .inl (κ 0, 12, .inl mo_weighings)), (mo_bookA, .inl (κ 0, 30, .inl mo_book)), (mo_isKeptA, .inl (κ 1, 2, .inl mo_isKept)), (mo_keptA, .inl (κ 0, 34, .inl mo_kept)), (mo_seedsA, .inl (κ 0, 2, .inl mo_seeds))]) H := hP
        have hD : va_D A ([(moo, .inr (9, [.ref mo_toldA, .ref mo_stA, .int mo_isThere, .int mo_seed, .ref mo_textA, .int mo_typed, .int mo_faultAt, .int w_mo_place, .int mo_wrong, .int w_mo_value, .ref mo_readA, .ref mo_aheadA, .int mo_undoMany, .ref mo_asideA, .ref mo_weighingsA, .int mo_weighed, .ref mo_bookA, .int mo_entries, .ref mo_isKeptA, .ref mo_keptA, .ref mo_seedsA])), (mo_toldA, .inl (κ 0, 37, .inl mo_told)), (mo_stA, .inl (κ 0, 17, .inl mo_st)), (mo_textA, .inl (κ 0, 240, .inl mo_text)), (mo_readA, .inl (κ 0, 37, .inl (upd mo_read x3.toNatClampNeg w_mo_value))), (mo_aheadA, .inl (κ 0, 340, .inl mo_ahead)), (mo_asideA, .inl (κ 0, 17, .inl mo_aside)), (mo_weighingsA, .inl (κ 0, 12, .inl mo_weighings)), (mo_bookA, .inl (κ 0, 30, .inl mo_book)), (mo_isKeptA, .inl (κ 1, 2, .inl mo_isKept)), (mo_keptA, .inl (κ 0, 34, .inl mo_kept)), (mo_seedsA, .inl (κ 0, 2, .inl mo_seeds))]) := hD
        refine lv_iconst (v := 1) hx hb dX9_takesNumber_169 (by decide) ?_
        have hres := Option.some.inj hres
        have h0 := (Prod.mk.inj hres).1
        replace hres := (Prod.mk.inj hres).2
        have h1 := (Prod.mk.inj hres).1
        replace hres := (Prod.mk.inj hres).2
        have h2 := (Prod.mk.inj hres).1
        replace hres := (Prod.mk.inj hres).2
        have h3 := (Prod.mk.inj hres).1
        replace hres := (Prod.mk.inj hres).2
        have h4 := hres
        subst h0
        subst h1
        subst h2
        subst h3
        subst h4
        exact hret _ _ _ _ (by decide) hP hD hS dX9_takesNumber_170
      · replace hres := og_t c18 hres
        exact L147 v4 w_mo_place w_mo_value _ _ _ hP hD hS (lv_sub hl [0, 4] rfl) hres
  have L34 : ∀ (n34 : Nat) (v4 : Int32) (w_mo_place : Int32) (w_mo_value : Int32) (H : Heap) (locs : List Loc) (ls : Array Slot), va_P D vwCl ([(moo, .inr (9, [.ref mo_toldA, .ref mo_stA, .int mo_isThere, .int mo_seed, .ref mo_textA, .int mo_typed, .int mo_faultAt, .int w_mo_place, .int mo_wrong, .int w_mo_value, .ref mo_readA, .ref mo_aheadA, .int mo_undoMany, .ref mo_asideA, .ref mo_weighingsA, .int mo_weighed, .ref mo_bookA, .int mo_entries, .ref mo_isKeptA, .ref mo_keptA, .ref mo_seedsA])), (mo_toldA, .inl (κ 0, 37, .inl mo_told)), (mo_stA, .inl (κ 0, 17, .inl mo_st)), (mo_textA, .inl (κ 0, 240, .inl mo_text)), (mo_readA, .inl (κ 0, 37, .inl mo_read)), (mo_aheadA, .inl (κ 0, 340, .inl mo_ahead)), (mo_asideA, .inl (κ 0, 17, .inl mo_aside)), (mo_weighingsA, .inl (κ 0, 12, .inl mo_weighings)), (mo_bookA, .inl (κ 0, 30, .inl mo_book)), (mo_isKeptA, .inl (κ 1, 2, .inl mo_isKept)), (mo_keptA, .inl (κ 0, 34, .inl mo_kept)), (mo_seedsA, .inl (κ 0, 2, .inl mo_seeds))]) H → va_D A ([(moo, .inr (9, [.ref mo_toldA, .ref mo_stA, .int mo_isThere, .int mo_seed, .ref mo_textA, .int mo_typed, .int mo_faultAt, .int w_mo_place, .int mo_wrong, .int w_mo_value, .ref mo_readA, .ref mo_aheadA, .int mo_undoMany, .ref mo_asideA, .ref mo_weighingsA, .int mo_weighed, .ref mo_bookA, .int mo_entries, .ref mo_isKeptA, .ref mo_keptA, .ref mo_seedsA])), (mo_toldA, .inl (κ 0, 37, .inl mo_told)), (mo_stA, .inl (κ 0, 17, .inl mo_st)), (mo_textA, .inl (κ 0, 240, .inl mo_text)), (mo_readA, .inl (κ 0, 37, .inl mo_read)), (mo_aheadA, .inl (κ 0, 340, .inl mo_ahead)), (mo_asideA, .inl (κ 0, 17, .inl mo_aside)), (mo_weighingsA, .inl (κ 0, 12, .inl mo_weighings)), (mo_bookA, .inl (κ 0, 30, .inl mo_book)), (mo_isKeptA, .inl (κ 1, 2, .inl mo_isKept)), (mo_keptA, .inl (κ 0, 34, .inl mo_kept)), (mo_seedsA, .inl (κ 0, 2, .inl mo_seeds))]) → va_S A s.heap H locs → lv_has ls 5 [(0, .ref moo), (1, .int x1), (2, .int x2), (3, .int x3), (4, .int v4)] → pX9_takesNumber_L34 x1 x2 x3 mo_text mo_typed mo_wrong mo_read n34 v4 w_mo_place w_mo_value = some (r0, z_mo_place, z_mo_wrong, z_mo_value, z_mo_read) → W p l e { frames := 1, cells := 0, slots := 0, locals := 100 } s m args below meth c H locs 0 0 Q (F0 m 34 ls []) := by
    intro n34
    induction n34 with
    | zero =>
      intro v4 w_mo_place w_mo_value H locs ls hP hD hS hl hres
      exact absurd (show none = some _ from hres) (by simp)
    | succ n34 ih34 =>
      intro v4 w_mo_place w_mo_value H locs ls hP hD hS hl hres
      have L105 : ∀ (v4 : Int32) (s0 : Int32) (w_mo_place : Int32) (w_mo_value : Int32) (H : Heap) (locs : List Loc) (ls : Array Slot), va_P D vwCl ([(moo, .inr (9, [.ref mo_toldA, .ref mo_stA, .int mo_isThere, .int mo_seed, .ref mo_textA, .int mo_typed, .int mo_faultAt, .int w_mo_place, .int mo_wrong, .int w_mo_value, .ref mo_readA, .ref mo_aheadA, .int mo_undoMany, .ref mo_asideA, .ref mo_weighingsA, .int mo_weighed, .ref mo_bookA, .int mo_entries, .ref mo_isKeptA, .ref mo_keptA, .ref mo_seedsA])), (mo_toldA, .inl (κ 0, 37, .inl mo_told)), (mo_stA, .inl (κ 0, 17, .inl mo_st)), (mo_textA, .inl (κ 0, 240, .inl mo_text)), (mo_readA, .inl (κ 0, 37, .inl mo_read)), (mo_aheadA, .inl (κ 0, 340, .inl mo_ahead)), (mo_asideA, .inl (κ 0, 17, .inl mo_aside)), (mo_weighingsA, .inl (κ 0, 12, .inl mo_weighings)), (mo_bookA, .inl (κ 0, 30, .inl mo_book)), (mo_isKeptA, .inl (κ 1, 2, .inl mo_isKept)), (mo_keptA, .inl (κ 0, 34, .inl mo_kept)), (mo_seedsA, .inl (κ 0, 2, .inl mo_seeds))]) H → va_D A ([(moo, .inr (9, [.ref mo_toldA, .ref mo_stA, .int mo_isThere, .int mo_seed, .ref mo_textA, .int mo_typed, .int mo_faultAt, .int w_mo_place, .int mo_wrong, .int w_mo_value, .ref mo_readA, .ref mo_aheadA, .int mo_undoMany, .ref mo_asideA, .ref mo_weighingsA, .int mo_weighed, .ref mo_bookA, .int mo_entries, .ref mo_isKeptA, .ref mo_keptA, .ref mo_seedsA])), (mo_toldA, .inl (κ 0, 37, .inl mo_told)), (mo_stA, .inl (κ 0, 17, .inl mo_st)), (mo_textA, .inl (κ 0, 240, .inl mo_text)), (mo_readA, .inl (κ 0, 37, .inl mo_read)), (mo_aheadA, .inl (κ 0, 340, .inl mo_ahead)), (mo_asideA, .inl (κ 0, 17, .inl mo_aside)), (mo_weighingsA, .inl (κ 0, 12, .inl mo_weighings)), (mo_bookA, .inl (κ 0, 30, .inl mo_book)), (mo_isKeptA, .inl (κ 1, 2, .inl mo_isKept)), (mo_keptA, .inl (κ 0, 34, .inl mo_kept)), (mo_seedsA, .inl (κ 0, 2, .inl mo_seeds))]) → va_S A s.heap H locs → lv_has ls 5 [(0, .ref moo), (1, .int x1), (2, .int x2), (3, .int x3), (4, .int v4)] → pX9_takesNumber_L105 (pX9_takesNumber_L34 x1 x2 x3 mo_text mo_typed mo_wrong mo_read n34) v4 s0 w_mo_place w_mo_value = some (r0, z_mo_place, z_mo_wrong, z_mo_value, z_mo_read) → W p l e { frames := 1, cells := 0, slots := 0, locals := 100 } s m args below meth c H locs 0 0 Q (F0 m 105 ls [.int s0, .ref moo]) := by
        intro v4 s0 w_mo_place w_mo_value H locs ls hP hD hS hl hres
        unfold pX9_takesNumber_L105 at hres
        refine va_put (D := D) (ci := 9) (v := .int s0) (ty := .int) (C := RX9) (T := TX9) (N := 21) hx hb hts iw9 tyX9 tyX9_ok nmX9 hown hK.1 hP hD hS 0 rfl rfl 9 (by decide) k3 (fun _ h9 => h9) rfl (tyX9_ok 9 (by decide)) rfl rfl (Nat.le_of_ble_eq_true rfl) dX9_takesNumber_105 (fun H locs hP hD hS => ?_)
        have hP : va_P D vwCl ([(moo, .inr (9, [.ref mo_toldA, .ref mo_stA, .int mo_isThere, .int mo_seed, .ref mo_textA, .int mo_typed, .int mo_faultAt, .int w_mo_place, .int mo_wrong, .int s0, .ref mo_readA, .ref mo_aheadA, .int mo_undoMany, .ref mo_asideA, .ref mo_weighingsA, .int mo_weighed, .ref mo_bookA, .int mo_entries, .ref mo_isKeptA, .ref mo_keptA, .ref mo_seedsA])), (mo_toldA, .inl (κ 0, 37, .inl mo_told)), (mo_stA, .inl (κ 0, 17, .inl mo_st)), (mo_textA, .inl (κ 0, 240, .inl mo_text)), (mo_readA, .inl (κ 0, 37, .inl mo_read)), (mo_aheadA, .inl (κ 0, 340, .inl mo_ahead)), (mo_asideA, .inl (κ 0, 17, .inl mo_aside)), (mo_weighingsA, .inl (κ 0, 12, .inl mo_weighings)), (mo_bookA, .inl (κ 0, 30, .inl mo_book)), (mo_isKeptA, .inl (κ 1, 2, .inl mo_isKept)), (mo_keptA, .inl (κ 0, 34, .inl mo_kept)), (mo_seedsA, .inl (κ 0, 2, .inl mo_seeds))]) H := hP
        have hD : va_D A ([(moo, .inr (9, [.ref mo_toldA, .ref mo_stA, .int mo_isThere, .int mo_seed, .ref mo_textA, .int mo_typed, .int mo_faultAt, .int w_mo_place, .int mo_wrong, .int s0, .ref mo_readA, .ref mo_aheadA, .int mo_undoMany, .ref mo_asideA, .ref mo_weighingsA, .int mo_weighed, .ref mo_bookA, .int mo_entries, .ref mo_isKeptA, .ref mo_keptA, .ref mo_seedsA])), (mo_toldA, .inl (κ 0, 37, .inl mo_told)), (mo_stA, .inl (κ 0, 17, .inl mo_st)), (mo_textA, .inl (κ 0, 240, .inl mo_text)), (mo_readA, .inl (κ 0, 37, .inl mo_read)), (mo_aheadA, .inl (κ 0, 340, .inl mo_ahead)), (mo_asideA, .inl (κ 0, 17, .inl mo_aside)), (mo_weighingsA, .inl (κ 0, 12, .inl mo_weighings)), (mo_bookA, .inl (κ 0, 30, .inl mo_book)), (mo_isKeptA, .inl (κ 1, 2, .inl mo_isKept)), (mo_keptA, .inl (κ 0, 34, .inl mo_kept)), (mo_seedsA, .inl (κ 0, 2, .inl mo_seeds))]) := hD
        refine lv_aload_n hx hb dX9_takesNumber_108 rfl (lv_at hl 0 rfl) ?_
        refine lv_dup hx hb dX9_takesNumber_109 rfl ?_
        refine va_get (D := D) (ci := 9) (v := .int w_mo_place) (C := RX9) (T := TX9) (N := 21) hx hb hts iw9 hown hK.1 hP 0 rfl rfl 7 (by decide) k2 (fun _ h9 => h9) rfl dX9_takesNumber_110 ?_
        refine lv_iconst (v := 1) hx hb dX9_takesNumber_113 (by decide) ?_
        refine lv_iadd hx hb dX9_takesNumber_114 ?_
        refine va_put (D := D) (ci := 9) (v := .int (w_mo_place + 1)) (ty := .int) (C := RX9) (T := TX9) (N := 21) hx hb hts iw9 tyX9 tyX9_ok nmX9 hown hK.1 hP hD hS 0 rfl rfl 7 (by decide) k2 (fun _ h9 => h9) rfl (tyX9_ok 7 (by decide)) rfl rfl (Nat.le_of_ble_eq_true rfl) dX9_takesNumber_115 (fun H locs hP hD hS => ?_)
        have hP : va_P D vwCl ([(moo, .inr (9, [.ref mo_toldA, .ref mo_stA, .int mo_isThere, .int mo_seed, .ref mo_textA, .int mo_typed, .int mo_faultAt, .int (w_mo_place + 1), .int mo_wrong, .int s0, .ref mo_readA, .ref mo_aheadA, .int mo_undoMany, .ref mo_asideA, .ref mo_weighingsA, .int mo_weighed, .ref mo_bookA, .int mo_entries, .ref mo_isKeptA, .ref mo_keptA, .ref mo_seedsA])), (mo_toldA, .inl (κ 0, 37, .inl mo_told)), (mo_stA, .inl (κ 0, 17, .inl mo_st)), (mo_textA, .inl (κ 0, 240, .inl mo_text)), (mo_readA, .inl (κ 0, 37, .inl mo_read)), (mo_aheadA, .inl (κ 0, 340, .inl mo_ahead)), (mo_asideA, .inl (κ 0, 17, .inl mo_aside)), (mo_weighingsA, .inl (κ 0, 12, .inl mo_weighings)), (mo_bookA, .inl (κ 0, 30, .inl mo_book)), (mo_isKeptA, .inl (κ 1, 2, .inl mo_isKept)), (mo_keptA, .inl (κ 0, 34, .inl mo_kept)), (mo_seedsA, .inl (κ 0, 2, .inl mo_seeds))]) H := hP
        have hD : va_D A ([(moo, .inr (9, [.ref mo_toldA, .ref mo_stA, .int mo_isThere, .int mo_seed, .ref mo_textA, .int mo_typed, .int mo_faultAt, .int (w_mo_place + 1), .int mo_wrong, .int s0, .ref mo_readA, .ref mo_aheadA, .int mo_undoMany, .ref mo_asideA, .ref mo_weighingsA, .int mo_weighed, .ref mo_bookA, .int mo_entries, .ref mo_isKeptA, .ref mo_keptA, .ref mo_seedsA])), (mo_toldA, .inl (κ 0, 37, .inl mo_told)), (mo_stA, .inl (κ 0, 17, .inl mo_st)), (mo_textA, .inl (κ 0, 240, .inl mo_text)), (mo_readA, .inl (κ 0, 37, .inl mo_read)), (mo_aheadA, .inl (κ 0, 340, .inl mo_ahead)), (mo_asideA, .inl (κ 0, 17, .inl mo_aside)), (mo_weighingsA, .inl (κ 0, 12, .inl mo_weighings)), (mo_bookA, .inl (κ 0, 30, .inl mo_book)), (mo_isKeptA, .inl (κ 1, 2, .inl mo_isKept)), (mo_keptA, .inl (κ 0, 34, .inl mo_kept)), (mo_seedsA, .inl (κ 0, 2, .inl mo_seeds))]) := hD
        refine lv_goto (tgt := 34) hx hb dX9_takesNumber_118 (by decide) ?_
        exact ih34 v4 (w_mo_place + 1) s0 _ _ _ hP hD hS (lv_sub hl [0, 1, 2, 3, 4] rfl) hres
      rw [pX9_takesNumber_L34] at hres
      refine lv_aload_n hx hb dX9_takesNumber_34 rfl (lv_at hl 0 rfl) ?_
      refine va_get (D := D) (ci := 9) (v := .int w_mo_place) (C := RX9) (T := TX9) (N := 21) hx hb hts iw9 hown hK.1 hP 0 rfl rfl 7 (by decide) k2 (fun _ h9 => h9) rfl dX9_takesNumber_35 ?_
      refine lv_aload_n hx hb dX9_takesNumber_38 rfl (lv_at hl 0 rfl) ?_
      refine va_get (D := D) (ci := 9) (v := .int mo_typed) (C := RX9) (T := TX9) (N := 21) hx hb hts iw9 hown hK.1 hP 0 rfl rfl 5 (by decide) k5 (fun _ h9 => h9) rfl dX9_takesNumber_39 ?_
      refine lv_icmp_ge (tgt := 121) hx hb dX9_takesNumber_42 (by decide) (fun c20 => ?_) (fun c20 => ?_)
      · replace hres := og_t c20 hres
        exact L121 v4 w_mo_place w_mo_value _ _ _ hP hD hS (lv_sub hl [0, 1, 2, 3, 4] rfl) hres
      · replace hres := og_f c20 hres
        refine lv_aload_n hx hb dX9_takesNumber_45 rfl (lv_at hl 0 rfl) ?_
        refine va_get (D := D) (ci := 9) (v := .ref mo_textA) (C := RX9) (T := TX9) (N := 21) hx hb hts iw9 hown hK.1 hP 0 rfl rfl 4 (by decide) k6 (fun _ h9 => h9) rfl dX9_takesNumber_46 ?_
        refine lv_aload_n hx hb dX9_takesNumber_49 rfl (lv_at hl 0 rfl) ?_
        refine va_get (D := D) (ci := 9) (v := .int w_mo_place) (C := RX9) (T := TX9) (N := 21) hx hb hts iw9 hown hK.1 hP 0 rfl rfl 7 (by decide) k2 (fun _ h9 => h9) rfl dX9_takesNumber_50 ?_
        obtain ⟨g21, hres⟩ := og_no hres
        refine kr_iald (f := mo_text) (j := w_mo_place.toNatClampNeg) hx hb hK hP 3 rfl g21 rfl dX9_takesNumber_53 ?_
        refine lv_i2l (v := (mo_text w_mo_place.toNatClampNeg).toInt64) hx hb dX9_takesNumber_54 rfl ?_
        refine lv_ldc2 (v := 48) hx hb hown k0 dX9_takesNumber_55 ?_
        refine lv_ldc2 (v := 57) hx hb hown k1 dX9_takesNumber_58 ?_
        obtain ⟨r22, hc23, hres⟩ := kb1_s hres
        refine krI_S0 (As := [.long ((mo_text w_mo_place.toNatClampNeg).toInt64), .long 48, .long 57]) (rest := []) ⟨hx, hb, hml, hown, hts⟩ hK (tX9_in l D κ ((mo_text w_mo_place.toNatClampNeg).toInt64) 48 57 r22 hc23) (va_cwS 3 hts gX9_takesNumber_X9_in rfl rfl rfl (by decide +kernel) ⟨(Nat.le_of_ble_eq_true rfl), (Nat.le_of_ble_eq_true rfl)⟩) hP hD hS hA rfl hl.1 rfl (Nat.le_of_ble_eq_true rfl) dX9_takesNumber_61 ⟨Nat.zero_le _, Nat.zero_le _⟩ (fun H locs hP hD hS => ?_)
        refine lv_if_eq (tgt := 121) hx hb dX9_takesNumber_64 (by decide) (fun c24 => ?_) (fun c24 => ?_)
        · replace hres := og_t c24 hres
          exact L121 v4 w_mo_place w_mo_value _ _ _ hP hD hS (lv_sub hl [0, 1, 2, 3, 4] rfl) hres
        · replace hres := og_f c24 hres
          refine lv_aload_n hx hb dX9_takesNumber_67 rfl (lv_at hl 0 rfl) ?_
          refine lv_aload_n hx hb dX9_takesNumber_68 rfl (lv_at hl 0 rfl) ?_
          refine va_get (D := D) (ci := 9) (v := .int w_mo_value) (C := RX9) (T := TX9) (N := 21) hx hb hts iw9 hown hK.1 hP 0 rfl rfl 9 (by decide) k3 (fun _ h9 => h9) rfl dX9_takesNumber_69 ?_
          refine lv_sipush (v := 999) hx hb dX9_takesNumber_72 (by decide) ?_
          refine lv_icmp_le (tgt := 85) hx hb dX9_takesNumber_75 (by decide) (fun c25 => ?_) (fun c25 => ?_)
          · replace hres := og_t c25 hres
            refine lv_bipush (v := 10) hx hb dX9_takesNumber_85 (by decide) ?_
            refine lv_aload_n hx hb dX9_takesNumber_87 rfl (lv_at hl 0 rfl) ?_
            refine va_get (D := D) (ci := 9) (v := .int w_mo_value) (C := RX9) (T := TX9) (N := 21) hx hb hts iw9 hown hK.1 hP 0 rfl rfl 9 (by decide) k3 (fun _ h9 => h9) rfl dX9_takesNumber_88 ?_
            refine lv_imul hx hb dX9_takesNumber_91 ?_
            refine lv_aload_n hx hb dX9_takesNumber_92 rfl (lv_at hl 0 rfl) ?_
            refine va_get (D := D) (ci := 9) (v := .ref mo_textA) (C := RX9) (T := TX9) (N := 21) hx hb hts iw9 hown hK.1 hP 0 rfl rfl 4 (by decide) k6 (fun _ h9 => h9) rfl dX9_takesNumber_93 ?_
            refine lv_aload_n hx hb dX9_takesNumber_96 rfl (lv_at hl 0 rfl) ?_
            refine va_get (D := D) (ci := 9) (v := .int w_mo_place) (C := RX9) (T := TX9) (N := 21) hx hb hts iw9 hown hK.1 hP 0 rfl rfl 7 (by decide) k2 (fun _ h9 => h9) rfl dX9_takesNumber_97 ?_
            refine kr_iald (f := mo_text) (j := w_mo_place.toNatClampNeg) hx hb hK hP 3 rfl g21 rfl dX9_takesNumber_100 ?_
            refine lv_iadd hx hb dX9_takesNumber_101 ?_
            refine lv_bipush (v := 48) hx hb dX9_takesNumber_102 (by decide) ?_
            refine lv_isub hx hb dX9_takesNumber_104 ?_
            exact L105 v4 (((10 * w_mo_value) + (mo_text w_mo_place.toNatClampNeg)) - 48) w_mo_place w_mo_value _ _ _ hP hD hS (lv_sub hl [0, 1, 2, 3, 4] rfl) hres
          · replace hres := og_f c25 hres
            refine lv_aload_n hx hb dX9_takesNumber_78 rfl (lv_at hl 0 rfl) ?_
            refine va_get (D := D) (ci := 9) (v := .int w_mo_value) (C := RX9) (T := TX9) (N := 21) hx hb hts iw9 hown hK.1 hP 0 rfl rfl 9 (by decide) k3 (fun _ h9 => h9) rfl dX9_takesNumber_79 ?_
            refine lv_goto (tgt := 105) hx hb dX9_takesNumber_82 (by decide) ?_
            exact L105 v4 w_mo_value w_mo_place w_mo_value _ _ _ hP hD hS (lv_sub hl [0, 1, 2, 3, 4] rfl) hres
  unfold pX9_takesNumber at hres
  refine lv_aload_n hx hb dX9_takesNumber_0 rfl (lv_at hl 0 rfl) ?_
  obtain ⟨r1, w2, hc3, hres⟩ := kb2_s hres
  refine krI_V (As := []) (rest := []) (wr := []) ⟨hx, hb, hml, hown, hts⟩ hK (tX9_next l D κ moo mo_toldA mo_stA mo_textA mo_readA mo_aheadA mo_asideA mo_weighingsA mo_bookA mo_isKeptA mo_keptA mo_seedsA N mo_told mo_st mo_isThere mo_seed mo_text mo_typed mo_faultAt mo_place mo_wrong mo_value mo_read mo_ahead mo_undoMany mo_aside mo_weighings mo_weighed mo_book mo_entries mo_isKept mo_kept mo_seeds r1 w2 hc3) (cwV 0 hts gX9_takesNumber_X9_next rfl rfl rfl (by decide +kernel) ⟨(Nat.le_of_ble_eq_true rfl), (Nat.le_of_ble_eq_true rfl)⟩) rfl rfl rfl hP hD hS hA [0, 1, 2, 3, 4, 5, 6, 7, 8, 9, 10, 11] [] rfl rfl rfl rfl (by decide) rfl hl.1 rfl (Nat.le_of_ble_eq_true rfl) dX9_takesNumber_1 ⟨Nat.zero_le _, Nat.zero_le _⟩ (fun H locs hP hD hS => ?_)
  have hP : va_P D vwCl ([(moo, .inr (9, [.ref mo_toldA, .ref mo_stA, .int mo_isThere, .int mo_seed, .ref mo_textA, .int mo_typed, .int mo_faultAt, .int w2, .int mo_wrong, .int mo_value, .ref mo_readA, .ref mo_aheadA, .int mo_undoMany, .ref mo_asideA, .ref mo_weighingsA, .int mo_weighed, .ref mo_bookA, .int mo_entries, .ref mo_isKeptA, .ref mo_keptA, .ref mo_seedsA])), (mo_toldA, .inl (κ 0, 37, .inl mo_told)), (mo_stA, .inl (κ 0, 17, .inl mo_st)), (mo_textA, .inl (κ 0, 240, .inl mo_text)), (mo_readA, .inl (κ 0, 37, .inl mo_read)), (mo_aheadA, .inl (κ 0, 340, .inl mo_ahead)), (mo_asideA, .inl (κ 0, 17, .inl mo_aside)), (mo_weighingsA, .inl (κ 0, 12, .inl mo_weighings)), (mo_bookA, .inl (κ 0, 30, .inl mo_book)), (mo_isKeptA, .inl (κ 1, 2, .inl mo_isKept)), (mo_keptA, .inl (κ 0, 34, .inl mo_kept)), (mo_seedsA, .inl (κ 0, 2, .inl mo_seeds))]) H := hP
  have hD : va_D A ([(moo, .inr (9, [.ref mo_toldA, .ref mo_stA, .int mo_isThere, .int mo_seed, .ref mo_textA, .int mo_typed, .int mo_faultAt, .int w2, .int mo_wrong, .int mo_value, .ref mo_readA, .ref mo_aheadA, .int mo_undoMany, .ref mo_asideA, .ref mo_weighingsA, .int mo_weighed, .ref mo_bookA, .int mo_entries, .ref mo_isKeptA, .ref mo_keptA, .ref mo_seedsA])), (mo_toldA, .inl (κ 0, 37, .inl mo_told)), (mo_stA, .inl (κ 0, 17, .inl mo_st)), (mo_textA, .inl (κ 0, 240, .inl mo_text)), (mo_readA, .inl (κ 0, 37, .inl mo_read)), (mo_aheadA, .inl (κ 0, 340, .inl mo_ahead)), (mo_asideA, .inl (κ 0, 17, .inl mo_aside)), (mo_weighingsA, .inl (κ 0, 12, .inl mo_weighings)), (mo_bookA, .inl (κ 0, 30, .inl mo_book)), (mo_isKeptA, .inl (κ 1, 2, .inl mo_isKept)), (mo_keptA, .inl (κ 0, 34, .inl mo_kept)), (mo_seedsA, .inl (κ 0, 2, .inl mo_seeds))]) := hD
  refine lv_i2l (v := r1.toInt64) hx hb dX9_takesNumber_4 rfl ?_
  refine lv_ldc2 (v := 48) hx hb hown k0 dX9_takesNumber_5 ?_
  refine lv_ldc2 (v := 57) hx hb hown k1 dX9_takesNumber_8 ?_
  obtain ⟨r4, hc5, hres⟩ := kb1_s hres
  refine krI_S0 (As := [.long (r1.toInt64), .long 48, .long 57]) (rest := []) ⟨hx, hb, hml, hown, hts⟩ hK (tX9_in l D κ (r1.toInt64) 48 57 r4 hc5) (va_cwS 3 hts gX9_takesNumber_X9_in rfl rfl rfl (by decide +kernel) ⟨(Nat.le_of_ble_eq_true rfl), (Nat.le_of_ble_eq_true rfl)⟩) hP hD hS hA rfl hl.1 rfl (Nat.le_of_ble_eq_true rfl) dX9_takesNumber_11 ⟨Nat.zero_le _, Nat.zero_le _⟩ (fun H locs hP hD hS => ?_)
  refine lv_if_ne (tgt := 23) hx hb dX9_takesNumber_14 (by decide) (fun c6 => ?_) (fun c6 => ?_)
  · replace hres := og_f c6 hres
    refine lv_aload_n hx hb dX9_takesNumber_23 rfl (lv_at hl 0 rfl) ?_
    refine va_get (D := D) (ci := 9) (v := .int w2) (C := RX9) (T := TX9) (N := 21) hx hb hts iw9 hown hK.1 hP 0 rfl rfl 7 (by decide) k2 (fun _ h9 => h9) rfl dX9_takesNumber_24 ?_
    refine lv_istore (lv' := [(4, .int w2), (0, .ref moo), (1, .int x1), (2, .int x2), (3, .int x3)]) hx hb dX9_takesNumber_27 hl (by decide) rfl (fun ls hl => ?_)
    refine lv_aload_n hx hb dX9_takesNumber_29 rfl (lv_at hl 1 rfl) ?_
    refine lv_iconst (v := 0) hx hb dX9_takesNumber_30 (by decide) ?_
    refine va_put (D := D) (ci := 9) (v := .int 0) (ty := .int) (C := RX9) (T := TX9) (N := 21) hx hb hts iw9 tyX9 tyX9_ok nmX9 hown hK.1 hP hD hS 0 rfl rfl 9 (by decide) k3 (fun _ h9 => h9) rfl (tyX9_ok 9 (by decide)) rfl rfl (Nat.le_of_ble_eq_true rfl) dX9_takesNumber_31 (fun H locs hP hD hS => ?_)
    have hP : va_P D vwCl ([(moo, .inr (9, [.ref mo_toldA, .ref mo_stA, .int mo_isThere, .int mo_seed, .ref mo_textA, .int mo_typed, .int mo_faultAt, .int w2, .int mo_wrong, .int 0, .ref mo_readA, .ref mo_aheadA, .int mo_undoMany, .ref mo_asideA, .ref mo_weighingsA, .int mo_weighed, .ref mo_bookA, .int mo_entries, .ref mo_isKeptA, .ref mo_keptA, .ref mo_seedsA])), (mo_toldA, .inl (κ 0, 37, .inl mo_told)), (mo_stA, .inl (κ 0, 17, .inl mo_st)), (mo_textA, .inl (κ 0, 240, .inl mo_text)), (mo_readA, .inl (κ 0, 37, .inl mo_read)), (mo_aheadA, .inl (κ 0, 340, .inl mo_ahead)), (mo_asideA, .inl (κ 0, 17, .inl mo_aside)), (mo_weighingsA, .inl (κ 0, 12, .inl mo_weighings)), (mo_bookA, .inl (κ 0, 30, .inl mo_book)), (mo_isKeptA, .inl (κ 1, 2, .inl mo_isKept)), (mo_keptA, .inl (κ 0, 34, .inl mo_kept)), (mo_seedsA, .inl (κ 0, 2, .inl mo_seeds))]) H := hP
    have hD : va_D A ([(moo, .inr (9, [.ref mo_toldA, .ref mo_stA, .int mo_isThere, .int mo_seed, .ref mo_textA, .int mo_typed, .int mo_faultAt, .int w2, .int mo_wrong, .int 0, .ref mo_readA, .ref mo_aheadA, .int mo_undoMany, .ref mo_asideA, .ref mo_weighingsA, .int mo_weighed, .ref mo_bookA, .int mo_entries, .ref mo_isKeptA, .ref mo_keptA, .ref mo_seedsA])), (mo_toldA, .inl (κ 0, 37, .inl mo_told)), (mo_stA, .inl (κ 0, 17, .inl mo_st)), (mo_textA, .inl (κ 0, 240, .inl mo_text)), (mo_readA, .inl (κ 0, 37, .inl mo_read)), (mo_aheadA, .inl (κ 0, 340, .inl mo_ahead)), (mo_asideA, .inl (κ 0, 17, .inl mo_aside)), (mo_weighingsA, .inl (κ 0, 12, .inl mo_weighings)), (mo_bookA, .inl (κ 0, 30, .inl mo_book)), (mo_isKeptA, .inl (κ 1, 2, .inl mo_isKept)), (mo_keptA, .inl (κ 0, 34, .inl mo_kept)), (mo_seedsA, .inl (κ 0, 2, .inl mo_seeds))]) := hD
    exact L34 N w2 w2 0 _ _ _ hP hD hS (lv_sub hl [1, 2, 3, 4, 0] rfl) hres
  · replace hres := og_t c6 hres
    refine lv_aload_n hx hb dX9_takesNumber_17 rfl (lv_at hl 0 rfl) ?_
    refine lv_iconst (v := 1) hx hb dX9_takesNumber_18 (by decide) ?_
    obtain ⟨r7, w8, hc9, hres⟩ := kb2_s hres
    refine krI_V (As := [.int 1]) (rest := []) (wr := []) ⟨hx, hb, hml, hown, hts⟩ hK (tX9_faults l D κ moo mo_toldA mo_stA mo_textA mo_readA mo_aheadA mo_asideA mo_weighingsA mo_bookA mo_isKeptA mo_keptA mo_seedsA mo_told mo_st mo_isThere mo_seed mo_text mo_typed mo_faultAt w2 mo_wrong mo_value mo_read mo_ahead mo_undoMany mo_aside mo_weighings mo_weighed mo_book mo_entries mo_isKept mo_kept mo_seeds 1 r7 w8 hc9) (cwV 1 hts gX9_takesNumber_X9_faults rfl rfl rfl (by decide +kernel) ⟨(Nat.le_of_ble_eq_true rfl), (Nat.le_of_ble_eq_true rfl)⟩) rfl rfl rfl hP hD hS hA [0, 1, 2, 3, 4, 5, 6, 7, 8, 9, 10, 11] [] rfl rfl rfl rfl (by decide) rfl hl.1 rfl (Nat.le_of_ble_eq_true rfl) dX9_takesNumber_19 ⟨Nat.zero_le _, Nat.zero_le _⟩ (fun H locs hP hD hS => ?_)
    have hP : va_P D vwCl ([(moo, .inr (9, [.ref mo_toldA, .ref mo_stA, .int mo_isThere, .int mo_seed, .ref mo_textA, .int mo_typed, .int mo_faultAt, .int w2, .int w8, .int mo_value, .ref mo_readA, .ref mo_aheadA, .int mo_undoMany, .ref mo_asideA, .ref mo_weighingsA, .int mo_weighed, .ref mo_bookA, .int mo_entries, .ref mo_isKeptA, .ref mo_keptA, .ref mo_seedsA])), (mo_toldA, .inl (κ 0, 37, .inl mo_told)), (mo_stA, .inl (κ 0, 17, .inl mo_st)), (mo_textA, .inl (κ 0, 240, .inl mo_text)), (mo_readA, .inl (κ 0, 37, .inl mo_read)), (mo_aheadA, .inl (κ 0, 340, .inl mo_ahead)), (mo_asideA, .inl (κ 0, 17, .inl mo_aside)), (mo_weighingsA, .inl (κ 0, 12, .inl mo_weighings)), (mo_bookA, .inl (κ 0, 30, .inl mo_book)), (mo_isKeptA, .inl (κ 1, 2, .inl mo_isKept)), (mo_keptA, .inl (κ 0, 34, .inl mo_kept)), (mo_seedsA, .inl (κ 0, 2, .inl mo_seeds))]) H := hP
    have hD : va_D A ([(moo, .inr (9, [.ref mo_toldA, .ref mo_stA, .int mo_isThere, .int mo_seed, .ref mo_textA, .int mo_typed, .int mo_faultAt, .int w2, .int w8, .int mo_value, .ref mo_readA, .ref mo_aheadA, .int mo_undoMany, .ref mo_asideA, .ref mo_weighingsA, .int mo_weighed, .ref mo_bookA, .int mo_entries, .ref mo_isKeptA, .ref mo_keptA, .ref mo_seedsA])), (mo_toldA, .inl (κ 0, 37, .inl mo_told)), (mo_stA, .inl (κ 0, 17, .inl mo_st)), (mo_textA, .inl (κ 0, 240, .inl mo_text)), (mo_readA, .inl (κ 0, 37, .inl mo_read)), (mo_aheadA, .inl (κ 0, 340, .inl mo_ahead)), (mo_asideA, .inl (κ 0, 17, .inl mo_aside)), (mo_weighingsA, .inl (κ 0, 12, .inl mo_weighings)), (mo_bookA, .inl (κ 0, 30, .inl mo_book)), (mo_isKeptA, .inl (κ 1, 2, .inl mo_isKept)), (mo_keptA, .inl (κ 0, 34, .inl mo_kept)), (mo_seedsA, .inl (κ 0, 2, .inl mo_seeds))]) := hD
    obtain ⟨g10, hres⟩ := og_no hres
    have hres := Option.some.inj hres
    have h0 := (Prod.mk.inj hres).1
    replace hres := (Prod.mk.inj hres).2
    have h1 := (Prod.mk.inj hres).1
    replace hres := (Prod.mk.inj hres).2
    have h2 := (Prod.mk.inj hres).1
    replace hres := (Prod.mk.inj hres).2
    have h3 := (Prod.mk.inj hres).1
    replace hres := (Prod.mk.inj hres).2
    have h4 := hres
    subst h0
    subst h1
    subst h2
    subst h3
    subst h4
    exact hret _ _ _ _ (kr_nz g10) hP hD hS dX9_takesNumber_22

def pX9_readPayer (N : Nat) (mo_text : Nat → Int32) (mo_typed : Int32) (mo_place : Int32) (mo_wrong : Int32) (mo_value : Int32) (mo_read : Nat → Int32) : Option (Int32 × Int32 × Int32 × Int32 × (Nat → Int32)) :=
    (if (mo_read 2) = 6 then
    kb2 (pX9_faults 3) fun r21 w22 =>
    if ¬ (r21 = 0 ∨ r21 = 1) then none else
    some (r21, mo_place, w22, mo_value, mo_read)
    else
    kb5 (pX9_takesNumber N 0 999 (7 + (mo_read 2)) mo_text mo_typed (mo_place + 1) mo_wrong mo_value (upd mo_read 2 ((mo_read 2) + 1))) fun r2 w3 w4 w5 w6 =>
    (if r2 = 0 then
    some (0, w3, w4, w5, w6)
    else
    kb5 (pX9_takesNumber N 0 9 (13 + (mo_read 2)) mo_text mo_typed w3 w4 w5 w6) fun r9 w10 w11 w12 w13 =>
    (if r9 = 0 then
    some (0, w10, w11, w12, w13)
    else
    kb3 (pX9_takes N 59 mo_text mo_typed w10 w11) fun r16 w17 w18 =>
    (if r16 = 0 then
    some (0, w17, w18, w12, w13)
    else
    some (1, w17, w18, w12, w13)))))
set_option maxHeartbeats 8000000 in
set_option maxRecDepth 100000 in
theorem tX9_readPayer (l : Launch) (D : va_G) (κ : Nat → ClassId) (moo : Nat) (mo_toldA : Nat) (mo_stA : Nat) (mo_textA : Nat) (mo_readA : Nat) (mo_aheadA : Nat) (mo_asideA : Nat) (mo_weighingsA : Nat) (mo_bookA : Nat) (mo_isKeptA : Nat) (mo_keptA : Nat) (mo_seedsA : Nat) (N : Nat) (mo_told : Nat → Int32) (mo_st : Nat → Int32) (mo_isThere : Int32) (mo_seed : Int32) (mo_text : Nat → Int32) (mo_typed : Int32) (mo_faultAt : Int32) (mo_place : Int32) (mo_wrong : Int32) (mo_value : Int32) (mo_read : Nat → Int32) (mo_ahead : Nat → Int32) (mo_undoMany : Int32) (mo_aside : Nat → Int32) (mo_weighings : Nat → Int32) (mo_weighed : Int32) (mo_book : Nat → Int32) (mo_entries : Int32) (mo_isKept : Nat → Int32) (mo_kept : Nat → Int32) (mo_seeds : Nat → Int32) (r0 : Int32) (z_mo_place : Int32) (z_mo_wrong : Int32) (z_mo_value : Int32) (z_mo_read : Nat → Int32) (hres : pX9_readPayer N mo_text mo_typed mo_place mo_wrong mo_value mo_read = some (r0, z_mo_place, z_mo_wrong, z_mo_value, z_mo_read)) : krI l yX9_readPayer wsX9_readPayer { frames := 2, cells := 0, slots := 0, locals := 200 } D κ [.ref moo] ([(moo, .inr (9, [.ref mo_toldA, .ref mo_stA, .int mo_isThere, .int mo_seed, .ref mo_textA, .int mo_typed, .int mo_faultAt, .int mo_place, .int mo_wrong, .int mo_value, .ref mo_readA, .ref mo_aheadA, .int mo_undoMany, .ref mo_asideA, .ref mo_weighingsA, .int mo_weighed, .ref mo_bookA, .int mo_entries, .ref mo_isKeptA, .ref mo_keptA, .ref mo_seedsA])), (mo_toldA, .inl (κ 0, 37, .inl mo_told)), (mo_stA, .inl (κ 0, 17, .inl mo_st)), (mo_textA, .inl (κ 0, 240, .inl mo_text)), (mo_readA, .inl (κ 0, 37, .inl mo_read)), (mo_aheadA, .inl (κ 0, 340, .inl mo_ahead)), (mo_asideA, .inl (κ 0, 17, .inl mo_aside)), (mo_weighingsA, .inl (κ 0, 12, .inl mo_weighings)), (mo_bookA, .inl (κ 0, 30, .inl mo_book)), (mo_isKeptA, .inl (κ 1, 2, .inl mo_isKept)), (mo_keptA, .inl (κ 0, 34, .inl mo_kept)), (mo_seedsA, .inl (κ 0, 2, .inl mo_seeds))]) ([(moo, .inr (9, [.ref mo_toldA, .ref mo_stA, .int mo_isThere, .int mo_seed, .ref mo_textA, .int mo_typed, .int mo_faultAt, .int z_mo_place, .int z_mo_wrong, .int z_mo_value, .ref mo_readA, .ref mo_aheadA, .int mo_undoMany, .ref mo_asideA, .ref mo_weighingsA, .int mo_weighed, .ref mo_bookA, .int mo_entries, .ref mo_isKeptA, .ref mo_keptA, .ref mo_seedsA])), (mo_toldA, .inl (κ 0, 37, .inl mo_told)), (mo_stA, .inl (κ 0, 17, .inl mo_st)), (mo_textA, .inl (κ 0, 240, .inl mo_text)), (mo_readA, .inl (κ 0, 37, .inl z_mo_read)), (mo_aheadA, .inl (κ 0, 340, .inl mo_ahead)), (mo_asideA, .inl (κ 0, 17, .inl mo_aside)), (mo_weighingsA, .inl (κ 0, 12, .inl mo_weighings)), (mo_bookA, .inl (κ 0, 30, .inl mo_book)), (mo_isKeptA, .inl (κ 1, 2, .inl mo_isKept)), (mo_keptA, .inl (κ 0, 34, .inl mo_kept)), (mo_seedsA, .inl (κ 0, 2, .inl mo_seeds))]) r0 := by
  refine krI_of (cc := cX9_readPayer) (maxL := 2) (rt := .boolean) (by decide) rfl (Nat.le_of_ble_eq_true rfl) ?_
  intro p e s m args below meth c A Q ls hx hb hml hown hts hK hA hret hP hD hS hl
  have hown : s.vm.findClass RX9 = some m.cls := hown
  have hl : lv_has ls 2 [(0, .ref moo)] := hl
  have iw9 : ∀ w ∈ u_ws RX9 TX9 21, w ∈ wsX9_readPayer := (fun _ h => List.mem_cons_of_mem _ (List.mem_append_right _ h))
  have k0 : (Cond.fieldLink RX9 23 "KingRansomModel" "read" "[I").before args s = true := hts _ (List.mem_of_getElem? (i := 1) rfl)
  have k1 : (Cond.fieldLink RX9 59 "KingRansomModel" "place" "I").before args s = true := hts _ (List.mem_of_getElem? (i := 2) rfl)
  unfold pX9_readPayer at hres
  refine lv_aload_n hx hb dX9_readPayer_0 rfl (lv_at hl 0 rfl) ?_
  refine va_get (D := D) (ci := 9) (v := .ref mo_readA) (C := RX9) (T := TX9) (N := 21) hx hb hts iw9 hown hK.1 hP 0 rfl rfl 10 (by decide) k0 (fun _ h9 => h9) rfl dX9_readPayer_1 ?_
  refine lv_iconst (v := 2) hx hb dX9_readPayer_4 (by decide) ?_
  refine kr_iald (f := mo_read) (j := 2) hx hb hK hP 4 rfl (by decide) (by decide) dX9_readPayer_5 ?_
  refine lv_istore_n (lv' := [(1, .int (mo_read 2)), (0, .ref moo)]) hx hb dX9_readPayer_6 rfl hl (by decide) rfl (fun ls hl => ?_)
  refine lv_iload_n hx hb dX9_readPayer_7 rfl (lv_at hl 0 rfl) ?_
  refine lv_bipush (v := 6) hx hb dX9_readPayer_8 (by decide) ?_
  refine lv_icmp_ne (tgt := 19) hx hb dX9_readPayer_10 (by decide) (fun c1 => ?_) (fun c1 => ?_)
  · replace hres := og_f c1 hres
    refine lv_aload_n hx hb dX9_readPayer_19 rfl (lv_at hl 1 rfl) ?_
    refine lv_dup hx hb dX9_readPayer_20 rfl ?_
    refine va_get (D := D) (ci := 9) (v := .int mo_place) (C := RX9) (T := TX9) (N := 21) hx hb hts iw9 hown hK.1 hP 0 rfl rfl 7 (by decide) k1 (fun _ h9 => h9) rfl dX9_readPayer_21 ?_
    refine lv_iconst (v := 1) hx hb dX9_readPayer_24 (by decide) ?_
    refine lv_iadd hx hb dX9_readPayer_25 ?_
    refine va_put (D := D) (ci := 9) (v := .int (mo_place + 1)) (ty := .int) (C := RX9) (T := TX9) (N := 21) hx hb hts iw9 tyX9 tyX9_ok nmX9 hown hK.1 hP hD hS 0 rfl rfl 7 (by decide) k1 (fun _ h9 => h9) rfl (tyX9_ok 7 (by decide)) rfl rfl (Nat.le_of_ble_eq_true rfl) dX9_readPayer_26 (fun H locs hP hD hS => ?_)
    have hP : va_P D vwCl ([(moo, .inr (9, [.ref mo_toldA, .ref mo_stA, .int mo_isThere, .int mo_seed, .ref mo_textA, .int mo_typed, .int mo_faultAt, .int (mo_place + 1), .int mo_wrong, .int mo_value, .ref mo_readA, .ref mo_aheadA, .int mo_undoMany, .ref mo_asideA, .ref mo_weighingsA, .int mo_weighed, .ref mo_bookA, .int mo_entries, .ref mo_isKeptA, .ref mo_keptA, .ref mo_seedsA])), (mo_toldA, .inl (κ 0, 37, .inl mo_told)), (mo_stA, .inl (κ 0, 17, .inl mo_st)), (mo_textA, .inl (κ 0, 240, .inl mo_text)), (mo_readA, .inl (κ 0, 37, .inl mo_read)), (mo_aheadA, .inl (κ 0, 340, .inl mo_ahead)), (mo_asideA, .inl (κ 0, 17, .inl mo_aside)), (mo_weighingsA, .inl (κ 0, 12, .inl mo_weighings)), (mo_bookA, .inl (κ 0, 30, .inl mo_book)), (mo_isKeptA, .inl (κ 1, 2, .inl mo_isKept)), (mo_keptA, .inl (κ 0, 34, .inl mo_kept)), (mo_seedsA, .inl (κ 0, 2, .inl mo_seeds))]) H := hP
    have hD : va_D A ([(moo, .inr (9, [.ref mo_toldA, .ref mo_stA, .int mo_isThere, .int mo_seed, .ref mo_textA, .int mo_typed, .int mo_faultAt, .int (mo_place + 1), .int mo_wrong, .int mo_value, .ref mo_readA, .ref mo_aheadA, .int mo_undoMany, .ref mo_asideA, .ref mo_weighingsA, .int mo_weighed, .ref mo_bookA, .int mo_entries, .ref mo_isKeptA, .ref mo_keptA, .ref mo_seedsA])), (mo_toldA, .inl (κ 0, 37, .inl mo_told)), (mo_stA, .inl (κ 0, 17, .inl mo_st)), (mo_textA, .inl (κ 0, 240, .inl mo_text)), (mo_readA, .inl (κ 0, 37, .inl mo_read)), (mo_aheadA, .inl (κ 0, 340, .inl mo_ahead)), (mo_asideA, .inl (κ 0, 17, .inl mo_aside)), (mo_weighingsA, .inl (κ 0, 12, .inl mo_weighings)), (mo_bookA, .inl (κ 0, 30, .inl mo_book)), (mo_isKeptA, .inl (κ 1, 2, .inl mo_isKept)), (mo_keptA, .inl (κ 0, 34, .inl mo_kept)), (mo_seedsA, .inl (κ 0, 2, .inl mo_seeds))]) := hD
    refine lv_aload_n hx hb dX9_readPayer_29 rfl (lv_at hl 1 rfl) ?_
    refine va_get (D := D) (ci := 9) (v := .ref mo_readA) (C := RX9) (T := TX9) (N := 21) hx hb hts iw9 hown hK.1 hP 0 rfl rfl 10 (by decide) k0 (fun _ h9 => h9) rfl dX9_readPayer_30 ?_
    refine lv_iconst (v := 2) hx hb dX9_readPayer_33 (by decide) ?_
    refine lv_dup2_11 hx hb dX9_readPayer_34 rfl rfl ?_
    refine kr_iald (f := mo_read) (j := 2) hx hb hK hP 4 rfl (by decide) (by decide) dX9_readPayer_35 ?_
    refine lv_iconst (v := 1) hx hb dX9_readPayer_36 (by decide) ?_
    refine lv_iadd hx hb dX9_readPayer_37 ?_
    refine kr_iast (f := mo_read) (j := 2) (x := ((mo_read 2) + 1)) hx hb hK hP hD hS 4 rfl (by decide) (by decide) dX9_readPayer_38 (fun H locs hP hD hS => ?_)
    have hP : va_P D vwCl ([(moo, .inr (9, [.ref mo_toldA, .ref mo_stA, .int mo_isThere, .int mo_seed, .ref mo_textA, .int mo_typed, .int mo_faultAt, .int (mo_place + 1), .int mo_wrong, .int mo_value, .ref mo_readA, .ref mo_aheadA, .int mo_undoMany, .ref mo_asideA, .ref mo_weighingsA, .int mo_weighed, .ref mo_bookA, .int mo_entries, .ref mo_isKeptA, .ref mo_keptA, .ref mo_seedsA])), (mo_toldA, .inl (κ 0, 37, .inl mo_told)), (mo_stA, .inl (κ 0, 17, .inl mo_st)), (mo_textA, .inl (κ 0, 240, .inl mo_text)), (mo_readA, .inl (κ 0, 37, .inl (upd mo_read 2 ((mo_read 2) + 1)))), (mo_aheadA, .inl (κ 0, 340, .inl mo_ahead)), (mo_asideA, .inl (κ 0, 17, .inl mo_aside)), (mo_weighingsA, .inl (κ 0, 12, .inl mo_weighings)), (mo_bookA, .inl (κ 0, 30, .inl mo_book)), (mo_isKeptA, .inl (κ 1, 2, .inl mo_isKept)), (mo_keptA, .inl (κ 0, 34, .inl mo_kept)), (mo_seedsA, .inl (κ 0, 2, .inl mo_seeds))]) H := hP
    have hD : va_D A ([(moo, .inr (9, [.ref mo_toldA, .ref mo_stA, .int mo_isThere, .int mo_seed, .ref mo_textA, .int mo_typed, .int mo_faultAt, .int (mo_place + 1), .int mo_wrong, .int mo_value, .ref mo_readA, .ref mo_aheadA, .int mo_undoMany, .ref mo_asideA, .ref mo_weighingsA, .int mo_weighed, .ref mo_bookA, .int mo_entries, .ref mo_isKeptA, .ref mo_keptA, .ref mo_seedsA])), (mo_toldA, .inl (κ 0, 37, .inl mo_told)), (mo_stA, .inl (κ 0, 17, .inl mo_st)), (mo_textA, .inl (κ 0, 240, .inl mo_text)), (mo_readA, .inl (κ 0, 37, .inl (upd mo_read 2 ((mo_read 2) + 1)))), (mo_aheadA, .inl (κ 0, 340, .inl mo_ahead)), (mo_asideA, .inl (κ 0, 17, .inl mo_aside)), (mo_weighingsA, .inl (κ 0, 12, .inl mo_weighings)), (mo_bookA, .inl (κ 0, 30, .inl mo_book)), (mo_isKeptA, .inl (κ 1, 2, .inl mo_isKept)), (mo_keptA, .inl (κ 0, 34, .inl mo_kept)), (mo_seedsA, .inl (κ 0, 2, .inl mo_seeds))]) := hD
    refine lv_aload_n hx hb dX9_readPayer_39 rfl (lv_at hl 1 rfl) ?_
    refine lv_iconst (v := 0) hx hb dX9_readPayer_40 (by decide) ?_
    refine lv_sipush (v := 999) hx hb dX9_readPayer_41 (by decide) ?_
    refine lv_bipush (v := 7) hx hb dX9_readPayer_44 (by decide) ?_
    refine lv_iload_n hx hb dX9_readPayer_46 rfl (lv_at hl 0 rfl) ?_
    refine lv_iadd hx hb dX9_readPayer_47 ?_
    obtain ⟨r2, w3, w4, w5, w6, hc7, hres⟩ := kb5_s hres
    refine krI_V (As := [.int 0, .int 999, .int (7 + (mo_read 2))]) (rest := []) (wr := []) ⟨hx, hb, hml, hown, hts⟩ hK (tX9_takesNumber l D κ moo mo_toldA mo_stA mo_textA mo_readA mo_aheadA mo_asideA mo_weighingsA mo_bookA mo_isKeptA mo_keptA mo_seedsA N mo_told mo_st mo_isThere mo_seed mo_text mo_typed mo_faultAt (mo_place + 1) mo_wrong mo_value (upd mo_read 2 ((mo_read 2) + 1)) mo_ahead mo_undoMany mo_aside mo_weighings mo_weighed mo_book mo_entries mo_isKept mo_kept mo_seeds 0 999 (7 + (mo_read 2)) r2 w3 w4 w5 w6 hc7) (cwV 3 hts gX9_readPayer_X9_takesNumber rfl rfl rfl (by decide +kernel) ⟨(Nat.le_of_ble_eq_true rfl), (Nat.le_of_ble_eq_true rfl)⟩) rfl rfl rfl hP hD hS hA [0, 1, 2, 3, 4, 5, 6, 7, 8, 9, 10, 11] [] rfl rfl rfl rfl (by decide) rfl hl.1 rfl (Nat.le_of_ble_eq_true rfl) dX9_readPayer_48 ⟨Nat.zero_le _, Nat.zero_le _⟩ (fun H locs hP hD hS => ?_)
    have hP : va_P D vwCl ([(moo, .inr (9, [.ref mo_toldA, .ref mo_stA, .int mo_isThere, .int mo_seed, .ref mo_textA, .int mo_typed, .int mo_faultAt, .int w3, .int w4, .int w5, .ref mo_readA, .ref mo_aheadA, .int mo_undoMany, .ref mo_asideA, .ref mo_weighingsA, .int mo_weighed, .ref mo_bookA, .int mo_entries, .ref mo_isKeptA, .ref mo_keptA, .ref mo_seedsA])), (mo_toldA, .inl (κ 0, 37, .inl mo_told)), (mo_stA, .inl (κ 0, 17, .inl mo_st)), (mo_textA, .inl (κ 0, 240, .inl mo_text)), (mo_readA, .inl (κ 0, 37, .inl w6)), (mo_aheadA, .inl (κ 0, 340, .inl mo_ahead)), (mo_asideA, .inl (κ 0, 17, .inl mo_aside)), (mo_weighingsA, .inl (κ 0, 12, .inl mo_weighings)), (mo_bookA, .inl (κ 0, 30, .inl mo_book)), (mo_isKeptA, .inl (κ 1, 2, .inl mo_isKept)), (mo_keptA, .inl (κ 0, 34, .inl mo_kept)), (mo_seedsA, .inl (κ 0, 2, .inl mo_seeds))]) H := hP
    have hD : va_D A ([(moo, .inr (9, [.ref mo_toldA, .ref mo_stA, .int mo_isThere, .int mo_seed, .ref mo_textA, .int mo_typed, .int mo_faultAt, .int w3, .int w4, .int w5, .ref mo_readA, .ref mo_aheadA, .int mo_undoMany, .ref mo_asideA, .ref mo_weighingsA, .int mo_weighed, .ref mo_bookA, .int mo_entries, .ref mo_isKeptA, .ref mo_keptA, .ref mo_seedsA])), (mo_toldA, .inl (κ 0, 37, .inl mo_told)), (mo_stA, .inl (κ 0, 17, .inl mo_st)), (mo_textA, .inl (κ 0, 240, .inl mo_text)), (mo_readA, .inl (κ 0, 37, .inl w6)), (mo_aheadA, .inl (κ 0, 340, .inl mo_ahead)), (mo_asideA, .inl (κ 0, 17, .inl mo_aside)), (mo_weighingsA, .inl (κ 0, 12, .inl mo_weighings)), (mo_bookA, .inl (κ 0, 30, .inl mo_book)), (mo_isKeptA, .inl (κ 1, 2, .inl mo_isKept)), (mo_keptA, .inl (κ 0, 34, .inl mo_kept)), (mo_seedsA, .inl (κ 0, 2, .inl mo_seeds))]) := hD
    refine lv_if_eq (tgt := 81) hx hb dX9_readPayer_51 (by decide) (fun c8 => ?_) (fun c8 => ?_)
    · replace hres := og_t c8 hres
      refine lv_iconst (v := 0) hx hb dX9_readPayer_81 (by decide) ?_
      have hres := Option.some.inj hres
      have h0 := (Prod.mk.inj hres).1
      replace hres := (Prod.mk.inj hres).2
      have h1 := (Prod.mk.inj hres).1
      replace hres := (Prod.mk.inj hres).2
      have h2 := (Prod.mk.inj hres).1
      replace hres := (Prod.mk.inj hres).2
      have h3 := (Prod.mk.inj hres).1
      replace hres := (Prod.mk.inj hres).2
      have h4 := hres
      subst h0
      subst h1
      subst h2
      subst h3
      subst h4
      exact hret _ _ _ _ (by decide) hP hD hS dX9_readPayer_82
    · replace hres := og_f c8 hres
      refine lv_aload_n hx hb dX9_readPayer_54 rfl (lv_at hl 1 rfl) ?_
      refine lv_iconst (v := 0) hx hb dX9_readPayer_55 (by decide) ?_
      refine lv_bipush (v := 9) hx hb dX9_readPayer_56 (by decide) ?_
      refine lv_bipush (v := 13) hx hb dX9_readPayer_58 (by decide) ?_
      refine lv_iload_n hx hb dX9_readPayer_60 rfl (lv_at hl 0 rfl) ?_
      refine lv_iadd hx hb dX9_readPayer_61 ?_
      obtain ⟨r9, w10, w11, w12, w13, hc14, hres⟩ := kb5_s hres
      refine krI_V (As := [.int 0, .int 9, .int (13 + (mo_read 2))]) (rest := []) (wr := []) ⟨hx, hb, hml, hown, hts⟩ hK (tX9_takesNumber l D κ moo mo_toldA mo_stA mo_textA mo_readA mo_aheadA mo_asideA mo_weighingsA mo_bookA mo_isKeptA mo_keptA mo_seedsA N mo_told mo_st mo_isThere mo_seed mo_text mo_typed mo_faultAt w3 w4 w5 w6 mo_ahead mo_undoMany mo_aside mo_weighings mo_weighed mo_book mo_entries mo_isKept mo_kept mo_seeds 0 9 (13 + (mo_read 2)) r9 w10 w11 w12 w13 hc14) (cwV 3 hts gX9_readPayer_X9_takesNumber rfl rfl rfl (by decide +kernel) ⟨(Nat.le_of_ble_eq_true rfl), (Nat.le_of_ble_eq_true rfl)⟩) rfl rfl rfl hP hD hS hA [0, 1, 2, 3, 4, 5, 6, 7, 8, 9, 10, 11] [] rfl rfl rfl rfl (by decide) rfl hl.1 rfl (Nat.le_of_ble_eq_true rfl) dX9_readPayer_62 ⟨Nat.zero_le _, Nat.zero_le _⟩ (fun H locs hP hD hS => ?_)
      have hP : va_P D vwCl ([(moo, .inr (9, [.ref mo_toldA, .ref mo_stA, .int mo_isThere, .int mo_seed, .ref mo_textA, .int mo_typed, .int mo_faultAt, .int w10, .int w11, .int w12, .ref mo_readA, .ref mo_aheadA, .int mo_undoMany, .ref mo_asideA, .ref mo_weighingsA, .int mo_weighed, .ref mo_bookA, .int mo_entries, .ref mo_isKeptA, .ref mo_keptA, .ref mo_seedsA])), (mo_toldA, .inl (κ 0, 37, .inl mo_told)), (mo_stA, .inl (κ 0, 17, .inl mo_st)), (mo_textA, .inl (κ 0, 240, .inl mo_text)), (mo_readA, .inl (κ 0, 37, .inl w13)), (mo_aheadA, .inl (κ 0, 340, .inl mo_ahead)), (mo_asideA, .inl (κ 0, 17, .inl mo_aside)), (mo_weighingsA, .inl (κ 0, 12, .inl mo_weighings)), (mo_bookA, .inl (κ 0, 30, .inl mo_book)), (mo_isKeptA, .inl (κ 1, 2, .inl mo_isKept)), (mo_keptA, .inl (κ 0, 34, .inl mo_kept)), (mo_seedsA, .inl (κ 0, 2, .inl mo_seeds))]) H := hP
      have hD : va_D A ([(moo, .inr (9, [.ref mo_toldA, .ref mo_stA, .int mo_isThere, .int mo_seed, .ref mo_textA, .int mo_typed, .int mo_faultAt, .int w10, .int w11, .int w12, .ref mo_readA, .ref mo_aheadA, .int mo_undoMany, .ref mo_asideA, .ref mo_weighingsA, .int mo_weighed, .ref mo_bookA, .int mo_entries, .ref mo_isKeptA, .ref mo_keptA, .ref mo_seedsA])), (mo_toldA, .inl (κ 0, 37, .inl mo_told)), (mo_stA, .inl (κ 0, 17, .inl mo_st)), (mo_textA, .inl (κ 0, 240, .inl mo_text)), (mo_readA, .inl (κ 0, 37, .inl w13)), (mo_aheadA, .inl (κ 0, 340, .inl mo_ahead)), (mo_asideA, .inl (κ 0, 17, .inl mo_aside)), (mo_weighingsA, .inl (κ 0, 12, .inl mo_weighings)), (mo_bookA, .inl (κ 0, 30, .inl mo_book)), (mo_isKeptA, .inl (κ 1, 2, .inl mo_isKept)), (mo_keptA, .inl (κ 0, 34, .inl mo_kept)), (mo_seedsA, .inl (κ 0, 2, .inl mo_seeds))]) := hD
      refine lv_if_eq (tgt := 81) hx hb dX9_readPayer_65 (by decide) (fun c15 => ?_) (fun c15 => ?_)
      · replace hres := og_t c15 hres
        refine lv_iconst (v := 0) hx hb dX9_readPayer_81 (by decide) ?_
        have hres := Option.some.inj hres
        have h0 := (Prod.mk.inj hres).1
        replace hres := (Prod.mk.inj hres).2
        have h1 := (Prod.mk.inj hres).1
        replace hres := (Prod.mk.inj hres).2
        have h2 := (Prod.mk.inj hres).1
        replace hres := (Prod.mk.inj hres).2
        have h3 := (Prod.mk.inj hres).1
        replace hres := (Prod.mk.inj hres).2
        have h4 := hres
        subst h0
        subst h1
        subst h2
        subst h3
        subst h4
        exact hret _ _ _ _ (by decide) hP hD hS dX9_readPayer_82
      · replace hres := og_f c15 hres
        refine lv_aload_n hx hb dX9_readPayer_68 rfl (lv_at hl 1 rfl) ?_
        refine lv_bipush (v := 59) hx hb dX9_readPayer_69 (by decide) ?_
        obtain ⟨r16, w17, w18, hc19, hres⟩ := kb3_s hres
        refine krI_V (As := [.int 59]) (rest := []) (wr := []) ⟨hx, hb, hml, hown, hts⟩ hK (tX9_takes l D κ moo mo_toldA mo_stA mo_textA mo_readA mo_aheadA mo_asideA mo_weighingsA mo_bookA mo_isKeptA mo_keptA mo_seedsA N mo_told mo_st mo_isThere mo_seed mo_text mo_typed mo_faultAt w10 w11 w12 w13 mo_ahead mo_undoMany mo_aside mo_weighings mo_weighed mo_book mo_entries mo_isKept mo_kept mo_seeds 59 r16 w17 w18 hc19) (cwV 1 hts gX9_readPayer_X9_takes rfl rfl rfl (by decide +kernel) ⟨(Nat.le_of_ble_eq_true rfl), (Nat.le_of_ble_eq_true rfl)⟩) rfl rfl rfl hP hD hS hA [0, 1, 2, 3, 4, 5, 6, 7, 8, 9, 10, 11] [] rfl rfl rfl rfl (by decide) rfl hl.1 rfl (Nat.le_of_ble_eq_true rfl) dX9_readPayer_71 ⟨Nat.zero_le _, Nat.zero_le _⟩ (fun H locs hP hD hS => ?_)
        have hP : va_P D vwCl ([(moo, .inr (9, [.ref mo_toldA, .ref mo_stA, .int mo_isThere, .int mo_seed, .ref mo_textA, .int mo_typed, .int mo_faultAt, .int w17, .int w18, .int w12, .ref mo_readA, .ref mo_aheadA, .int mo_undoMany, .ref mo_asideA, .ref mo_weighingsA, .int mo_weighed, .ref mo_bookA, .int mo_entries, .ref mo_isKeptA, .ref mo_keptA, .ref mo_seedsA])), (mo_toldA, .inl (κ 0, 37, .inl mo_told)), (mo_stA, .inl (κ 0, 17, .inl mo_st)), (mo_textA, .inl (κ 0, 240, .inl mo_text)), (mo_readA, .inl (κ 0, 37, .inl w13)), (mo_aheadA, .inl (κ 0, 340, .inl mo_ahead)), (mo_asideA, .inl (κ 0, 17, .inl mo_aside)), (mo_weighingsA, .inl (κ 0, 12, .inl mo_weighings)), (mo_bookA, .inl (κ 0, 30, .inl mo_book)), (mo_isKeptA, .inl (κ 1, 2, .inl mo_isKept)), (mo_keptA, .inl (κ 0, 34, .inl mo_kept)), (mo_seedsA, .inl (κ 0, 2, .inl mo_seeds))]) H := hP
        have hD : va_D A ([(moo, .inr (9, [.ref mo_toldA, .ref mo_stA, .int mo_isThere, .int mo_seed, .ref mo_textA, .int mo_typed, .int mo_faultAt, .int w17, .int w18, .int w12, .ref mo_readA, .ref mo_aheadA, .int mo_undoMany, .ref mo_asideA, .ref mo_weighingsA, .int mo_weighed, .ref mo_bookA, .int mo_entries, .ref mo_isKeptA, .ref mo_keptA, .ref mo_seedsA])), (mo_toldA, .inl (κ 0, 37, .inl mo_told)), (mo_stA, .inl (κ 0, 17, .inl mo_st)), (mo_textA, .inl (κ 0, 240, .inl mo_text)), (mo_readA, .inl (κ 0, 37, .inl w13)), (mo_aheadA, .inl (κ 0, 340, .inl mo_ahead)), (mo_asideA, .inl (κ 0, 17, .inl mo_aside)), (mo_weighingsA, .inl (κ 0, 12, .inl mo_weighings)), (mo_bookA, .inl (κ 0, 30, .inl mo_book)), (mo_isKeptA, .inl (κ 1, 2, .inl mo_isKept)), (mo_keptA, .inl (κ 0, 34, .inl mo_kept)), (mo_seedsA, .inl (κ 0, 2, .inl mo_seeds))]) := hD
        refine lv_if_eq (tgt := 81) hx hb dX9_readPayer_74 (by decide) (fun c20 => ?_) (fun c20 => ?_)
        · replace hres := og_t c20 hres
          refine lv_iconst (v := 0) hx hb dX9_readPayer_81 (by decide) ?_
          have hres := Option.some.inj hres
          have h0 := (Prod.mk.inj hres).1
          replace hres := (Prod.mk.inj hres).2
          have h1 := (Prod.mk.inj hres).1
          replace hres := (Prod.mk.inj hres).2
          have h2 := (Prod.mk.inj hres).1
          replace hres := (Prod.mk.inj hres).2
          have h3 := (Prod.mk.inj hres).1
          replace hres := (Prod.mk.inj hres).2
          have h4 := hres
          subst h0
          subst h1
          subst h2
          subst h3
          subst h4
          exact hret _ _ _ _ (by decide) hP hD hS dX9_readPayer_82
        · replace hres := og_f c20 hres
          refine lv_iconst (v := 1) hx hb dX9_readPayer_77 (by decide) ?_
          refine lv_goto (tgt := 82) hx hb dX9_readPayer_78 (by decide) ?_
          have hres := Option.some.inj hres
          have h0 := (Prod.mk.inj hres).1
          replace hres := (Prod.mk.inj hres).2
          have h1 := (Prod.mk.inj hres).1
          replace hres := (Prod.mk.inj hres).2
          have h2 := (Prod.mk.inj hres).1
          replace hres := (Prod.mk.inj hres).2
          have h3 := (Prod.mk.inj hres).1
          replace hres := (Prod.mk.inj hres).2
          have h4 := hres
          subst h0
          subst h1
          subst h2
          subst h3
          subst h4
          exact hret _ _ _ _ (by decide) hP hD hS dX9_readPayer_82
  · replace hres := og_t c1 hres
    refine lv_aload_n hx hb dX9_readPayer_13 rfl (lv_at hl 1 rfl) ?_
    refine lv_iconst (v := 3) hx hb dX9_readPayer_14 (by decide) ?_
    obtain ⟨r21, w22, hc23, hres⟩ := kb2_s hres
    refine krI_V (As := [.int 3]) (rest := []) (wr := []) ⟨hx, hb, hml, hown, hts⟩ hK (tX9_faults l D κ moo mo_toldA mo_stA mo_textA mo_readA mo_aheadA mo_asideA mo_weighingsA mo_bookA mo_isKeptA mo_keptA mo_seedsA mo_told mo_st mo_isThere mo_seed mo_text mo_typed mo_faultAt mo_place mo_wrong mo_value mo_read mo_ahead mo_undoMany mo_aside mo_weighings mo_weighed mo_book mo_entries mo_isKept mo_kept mo_seeds 3 r21 w22 hc23) (cwV 1 hts gX9_readPayer_X9_faults rfl rfl rfl (by decide +kernel) ⟨(Nat.le_of_ble_eq_true rfl), (Nat.le_of_ble_eq_true rfl)⟩) rfl rfl rfl hP hD hS hA [0, 1, 2, 3, 4, 5, 6, 7, 8, 9, 10, 11] [] rfl rfl rfl rfl (by decide) rfl hl.1 rfl (Nat.le_of_ble_eq_true rfl) dX9_readPayer_15 ⟨Nat.zero_le _, Nat.zero_le _⟩ (fun H locs hP hD hS => ?_)
    have hP : va_P D vwCl ([(moo, .inr (9, [.ref mo_toldA, .ref mo_stA, .int mo_isThere, .int mo_seed, .ref mo_textA, .int mo_typed, .int mo_faultAt, .int mo_place, .int w22, .int mo_value, .ref mo_readA, .ref mo_aheadA, .int mo_undoMany, .ref mo_asideA, .ref mo_weighingsA, .int mo_weighed, .ref mo_bookA, .int mo_entries, .ref mo_isKeptA, .ref mo_keptA, .ref mo_seedsA])), (mo_toldA, .inl (κ 0, 37, .inl mo_told)), (mo_stA, .inl (κ 0, 17, .inl mo_st)), (mo_textA, .inl (κ 0, 240, .inl mo_text)), (mo_readA, .inl (κ 0, 37, .inl mo_read)), (mo_aheadA, .inl (κ 0, 340, .inl mo_ahead)), (mo_asideA, .inl (κ 0, 17, .inl mo_aside)), (mo_weighingsA, .inl (κ 0, 12, .inl mo_weighings)), (mo_bookA, .inl (κ 0, 30, .inl mo_book)), (mo_isKeptA, .inl (κ 1, 2, .inl mo_isKept)), (mo_keptA, .inl (κ 0, 34, .inl mo_kept)), (mo_seedsA, .inl (κ 0, 2, .inl mo_seeds))]) H := hP
    have hD : va_D A ([(moo, .inr (9, [.ref mo_toldA, .ref mo_stA, .int mo_isThere, .int mo_seed, .ref mo_textA, .int mo_typed, .int mo_faultAt, .int mo_place, .int w22, .int mo_value, .ref mo_readA, .ref mo_aheadA, .int mo_undoMany, .ref mo_asideA, .ref mo_weighingsA, .int mo_weighed, .ref mo_bookA, .int mo_entries, .ref mo_isKeptA, .ref mo_keptA, .ref mo_seedsA])), (mo_toldA, .inl (κ 0, 37, .inl mo_told)), (mo_stA, .inl (κ 0, 17, .inl mo_st)), (mo_textA, .inl (κ 0, 240, .inl mo_text)), (mo_readA, .inl (κ 0, 37, .inl mo_read)), (mo_aheadA, .inl (κ 0, 340, .inl mo_ahead)), (mo_asideA, .inl (κ 0, 17, .inl mo_aside)), (mo_weighingsA, .inl (κ 0, 12, .inl mo_weighings)), (mo_bookA, .inl (κ 0, 30, .inl mo_book)), (mo_isKeptA, .inl (κ 1, 2, .inl mo_isKept)), (mo_keptA, .inl (κ 0, 34, .inl mo_kept)), (mo_seedsA, .inl (κ 0, 2, .inl mo_seeds))]) := hD
    obtain ⟨g24, hres⟩ := og_no hres
    have hres := Option.some.inj hres
    have h0 := (Prod.mk.inj hres).1
    replace hres := (Prod.mk.inj hres).2
    have h1 := (Prod.mk.inj hres).1
    replace hres := (Prod.mk.inj hres).2
    have h2 := (Prod.mk.inj hres).1
    replace hres := (Prod.mk.inj hres).2
    have h3 := (Prod.mk.inj hres).1
    replace hres := (Prod.mk.inj hres).2
    have h4 := hres
    subst h0
    subst h1
    subst h2
    subst h3
    subst h4
    exact hret _ _ _ _ (kr_nz g24) hP hD hS dX9_readPayer_18

def pX9_readBids_L108 (N : Nat) (mo_text : Nat → Int32) (mo_typed : Int32) (v1 : Int32) (w_mo_place : Int32) (w_mo_wrong : Int32) (w_mo_value : Int32) (w_mo_read : Nat → Int32) : Option (Int32 × Int32 × Int32 × Int32 × (Nat → Int32)) :=
    (if v1 = 0 then
    some (0, w_mo_place, w_mo_wrong, w_mo_value, w_mo_read)
    else
    kb3 (pX9_takes N 59 mo_text mo_typed w_mo_place w_mo_wrong) fun r13 w14 w15 =>
    (if r13 = 0 then
    some (0, w14, w15, w_mo_value, w_mo_read)
    else
    some (1, w14, w15, w_mo_value, w_mo_read)))
def pX9_readBids_L43 (N : Nat) (mo_text : Nat → Int32) (mo_typed : Int32) : Nat → Int32 → Int32 → Int32 → Int32 → (Nat → Int32) → Option (Int32 × Int32 × Int32 × Int32 × (Nat → Int32))
  | 0, _, _, _, _, _ => none
  | n43 + 1, v1, w_mo_place, w_mo_wrong, w_mo_value, w_mo_read =>
    (if v1 = 0 then
    pX9_readBids_L108 N mo_text mo_typed v1 w_mo_place w_mo_wrong w_mo_value w_mo_read
    else
    kb2 (pX9_next N mo_text mo_typed w_mo_place) fun r19 w20 =>
    (if r19 = 44 then
    (if 9 ≤ (w_mo_read 3) then
    pX9_readBids_L108 N mo_text mo_typed v1 w20 w_mo_wrong w_mo_value w_mo_read
    else
    kb5 (pX9_takesNumber N 0 999 (19 + (w_mo_read 3)) mo_text mo_typed (w20 + 1) w_mo_wrong w_mo_value w_mo_read) fun r24 w25 w26 w27 w28 =>
    pX9_readBids_L43 N mo_text mo_typed n43 r24 w25 w26 w27 (upd w28 3 ((w28 3) + 1)))
    else
    pX9_readBids_L108 N mo_text mo_typed v1 w20 w_mo_wrong w_mo_value w_mo_read))
def pX9_readBids (N : Nat) (mo_text : Nat → Int32) (mo_typed : Int32) (mo_place : Int32) (mo_wrong : Int32) (mo_value : Int32) (mo_read : Nat → Int32) : Option (Int32 × Int32 × Int32 × Int32 × (Nat → Int32)) :=
    (if (mo_read 3) ≤ 0 then
    kb5 (pX9_takesNumber N 0 999 19 mo_text mo_typed (mo_place + 1) mo_wrong mo_value mo_read) fun r2 w3 w4 w5 w6 =>
    pX9_readBids_L43 N mo_text mo_typed N r2 w3 w4 w5 (upd w6 3 1)
    else
    kb2 (pX9_faults 3) fun r8 w9 =>
    if ¬ (r8 = 0 ∨ r8 = 1) then none else
    some (r8, mo_place, w9, mo_value, mo_read))
set_option maxHeartbeats 8000000 in
set_option maxRecDepth 100000 in
theorem tX9_readBids (l : Launch) (D : va_G) (κ : Nat → ClassId) (moo : Nat) (mo_toldA : Nat) (mo_stA : Nat) (mo_textA : Nat) (mo_readA : Nat) (mo_aheadA : Nat) (mo_asideA : Nat) (mo_weighingsA : Nat) (mo_bookA : Nat) (mo_isKeptA : Nat) (mo_keptA : Nat) (mo_seedsA : Nat) (N : Nat) (mo_told : Nat → Int32) (mo_st : Nat → Int32) (mo_isThere : Int32) (mo_seed : Int32) (mo_text : Nat → Int32) (mo_typed : Int32) (mo_faultAt : Int32) (mo_place : Int32) (mo_wrong : Int32) (mo_value : Int32) (mo_read : Nat → Int32) (mo_ahead : Nat → Int32) (mo_undoMany : Int32) (mo_aside : Nat → Int32) (mo_weighings : Nat → Int32) (mo_weighed : Int32) (mo_book : Nat → Int32) (mo_entries : Int32) (mo_isKept : Nat → Int32) (mo_kept : Nat → Int32) (mo_seeds : Nat → Int32) (r0 : Int32) (z_mo_place : Int32) (z_mo_wrong : Int32) (z_mo_value : Int32) (z_mo_read : Nat → Int32) (hres : pX9_readBids N mo_text mo_typed mo_place mo_wrong mo_value mo_read = some (r0, z_mo_place, z_mo_wrong, z_mo_value, z_mo_read)) : krI l yX9_readBids wsX9_readBids { frames := 2, cells := 0, slots := 0, locals := 200 } D κ [.ref moo] ([(moo, .inr (9, [.ref mo_toldA, .ref mo_stA, .int mo_isThere, .int mo_seed, .ref mo_textA, .int mo_typed, .int mo_faultAt, .int mo_place, .int mo_wrong, .int mo_value, .ref mo_readA, .ref mo_aheadA, .int mo_undoMany, .ref mo_asideA, .ref mo_weighingsA, .int mo_weighed, .ref mo_bookA, .int mo_entries, .ref mo_isKeptA, .ref mo_keptA, .ref mo_seedsA])), (mo_toldA, .inl (κ 0, 37, .inl mo_told)), (mo_stA, .inl (κ 0, 17, .inl mo_st)), (mo_textA, .inl (κ 0, 240, .inl mo_text)), (mo_readA, .inl (κ 0, 37, .inl mo_read)), (mo_aheadA, .inl (κ 0, 340, .inl mo_ahead)), (mo_asideA, .inl (κ 0, 17, .inl mo_aside)), (mo_weighingsA, .inl (κ 0, 12, .inl mo_weighings)), (mo_bookA, .inl (κ 0, 30, .inl mo_book)), (mo_isKeptA, .inl (κ 1, 2, .inl mo_isKept)), (mo_keptA, .inl (κ 0, 34, .inl mo_kept)), (mo_seedsA, .inl (κ 0, 2, .inl mo_seeds))]) ([(moo, .inr (9, [.ref mo_toldA, .ref mo_stA, .int mo_isThere, .int mo_seed, .ref mo_textA, .int mo_typed, .int mo_faultAt, .int z_mo_place, .int z_mo_wrong, .int z_mo_value, .ref mo_readA, .ref mo_aheadA, .int mo_undoMany, .ref mo_asideA, .ref mo_weighingsA, .int mo_weighed, .ref mo_bookA, .int mo_entries, .ref mo_isKeptA, .ref mo_keptA, .ref mo_seedsA])), (mo_toldA, .inl (κ 0, 37, .inl mo_told)), (mo_stA, .inl (κ 0, 17, .inl mo_st)), (mo_textA, .inl (κ 0, 240, .inl mo_text)), (mo_readA, .inl (κ 0, 37, .inl z_mo_read)), (mo_aheadA, .inl (κ 0, 340, .inl mo_ahead)), (mo_asideA, .inl (κ 0, 17, .inl mo_aside)), (mo_weighingsA, .inl (κ 0, 12, .inl mo_weighings)), (mo_bookA, .inl (κ 0, 30, .inl mo_book)), (mo_isKeptA, .inl (κ 1, 2, .inl mo_isKept)), (mo_keptA, .inl (κ 0, 34, .inl mo_kept)), (mo_seedsA, .inl (κ 0, 2, .inl mo_seeds))]) r0 := by
  refine krI_of (cc := cX9_readBids) (maxL := 2) (rt := .boolean) (by decide) rfl (Nat.le_of_ble_eq_true rfl) ?_
  intro p e s m args below meth c A Q ls hx hb hml hown hts hK hA hret hP hD hS hl
  have hown : s.vm.findClass RX9 = some m.cls := hown
  have hl : lv_has ls 2 [(0, .ref moo)] := hl
  have iw9 : ∀ w ∈ u_ws RX9 TX9 21, w ∈ wsX9_readBids := (fun _ h => List.mem_cons_of_mem _ (List.mem_append_right _ h))
  have k0 : (Cond.fieldLink RX9 23 "KingRansomModel" "read" "[I").before args s = true := hts _ (List.mem_of_getElem? (i := 1) rfl)
  have k1 : (Cond.fieldLink RX9 59 "KingRansomModel" "place" "I").before args s = true := hts _ (List.mem_of_getElem? (i := 2) rfl)
  have L108 : ∀ (v1 : Int32) (w_mo_place : Int32) (w_mo_wrong : Int32) (w_mo_value : Int32) (w_mo_read : Nat → Int32) (H : Heap) (locs : List Loc) (ls : Array Slot), va_P D vwCl ([(moo, .inr (9, [.ref mo_toldA, .ref mo_stA, .int mo_isThere, .int mo_seed, .ref mo_textA, .int mo_typed, .int mo_faultAt, .int w_mo_place, .int w_mo_wrong, .int w_mo_value, .ref mo_readA, .ref mo_aheadA, .int mo_undoMany, .ref mo_asideA, .ref mo_weighingsA, .int mo_weighed, .ref mo_bookA, .int mo_entries, .ref mo_isKeptA, .ref mo_keptA, .ref mo_seedsA])), (mo_toldA, .inl (κ 0, 37, .inl mo_told)), (mo_stA, .inl (κ 0, 17, .inl mo_st)), (mo_textA, .inl (κ 0, 240, .inl mo_text)), (mo_readA, .inl (κ 0, 37, .inl w_mo_read)), (mo_aheadA, .inl (κ 0, 340, .inl mo_ahead)), (mo_asideA, .inl (κ 0, 17, .inl mo_aside)), (mo_weighingsA, .inl (κ 0, 12, .inl mo_weighings)), (mo_bookA, .inl (κ 0, 30, .inl mo_book)), (mo_isKeptA, .inl (κ 1, 2, .inl mo_isKept)), (mo_keptA, .inl (κ 0, 34, .inl mo_kept)), (mo_seedsA, .inl (κ 0, 2, .inl mo_seeds))]) H → va_D A ([(moo, .inr (9, [.ref mo_toldA, .ref mo_stA, .int mo_isThere, .int mo_seed, .ref mo_textA, .int mo_typed, .int mo_faultAt, .int w_mo_place, .int w_mo_wrong, .int w_mo_value, .ref mo_readA, .ref mo_aheadA, .int mo_undoMany, .ref mo_asideA, .ref mo_weighingsA, .int mo_weighed, .ref mo_bookA, .int mo_entries, .ref mo_isKeptA, .ref mo_keptA, .ref mo_seedsA])), (mo_toldA, .inl (κ 0, 37, .inl mo_told)), (mo_stA, .inl (κ 0, 17, .inl mo_st)), (mo_textA, .inl (κ 0, 240, .inl mo_text)), (mo_readA, .inl (κ 0, 37, .inl w_mo_read)), (mo_aheadA, .inl (κ 0, 340, .inl mo_ahead)), (mo_asideA, .inl (κ 0, 17, .inl mo_aside)), (mo_weighingsA, .inl (κ 0, 12, .inl mo_weighings)), (mo_bookA, .inl (κ 0, 30, .inl mo_book)), (mo_isKeptA, .inl (κ 1, 2, .inl mo_isKept)), (mo_keptA, .inl (κ 0, 34, .inl mo_kept)), (mo_seedsA, .inl (κ 0, 2, .inl mo_seeds))]) → va_S A s.heap H locs → lv_has ls 2 [(0, .ref moo), (1, .int v1)] → pX9_readBids_L108 N mo_text mo_typed v1 w_mo_place w_mo_wrong w_mo_value w_mo_read = some (r0, z_mo_place, z_mo_wrong, z_mo_value, z_mo_read) → W p l e { frames := 2, cells := 0, slots := 0, locals := 200 } s m args below meth c H locs 0 0 Q (F0 m 108 ls []) := by
    intro v1 w_mo_place w_mo_wrong w_mo_value w_mo_read H locs ls hP hD hS hl hres
    unfold pX9_readBids_L108 at hres
    refine lv_iload_n hx hb dX9_readBids_108 rfl (lv_at hl 1 rfl) ?_
    refine lv_if_eq (tgt := 125) hx hb dX9_readBids_109 (by decide) (fun c12 => ?_) (fun c12 => ?_)
    · replace hres := og_t c12 hres
      refine lv_iconst (v := 0) hx hb dX9_readBids_125 (by decide) ?_
      have hres := Option.some.inj hres
      have h0 := (Prod.mk.inj hres).1
      replace hres := (Prod.mk.inj hres).2
      have h1 := (Prod.mk.inj hres).1
      replace hres := (Prod.mk.inj hres).2
      have h2 := (Prod.mk.inj hres).1
      replace hres := (Prod.mk.inj hres).2
      have h3 := (Prod.mk.inj hres).1
      replace hres := (Prod.mk.inj hres).2
      have h4 := hres
      subst h0
      subst h1
      subst h2
      subst h3
      subst h4
      exact hret _ _ _ _ (by decide) hP hD hS dX9_readBids_126
    · replace hres := og_f c12 hres
      refine lv_aload_n hx hb dX9_readBids_112 rfl (lv_at hl 0 rfl) ?_
      refine lv_bipush (v := 59) hx hb dX9_readBids_113 (by decide) ?_
      obtain ⟨r13, w14, w15, hc16, hres⟩ := kb3_s hres
      refine krI_V (As := [.int 59]) (rest := []) (wr := []) ⟨hx, hb, hml, hown, hts⟩ hK (tX9_takes l D κ moo mo_toldA mo_stA mo_textA mo_readA mo_aheadA mo_asideA mo_weighingsA mo_bookA mo_isKeptA mo_keptA mo_seedsA N mo_told mo_st mo_isThere mo_seed mo_text mo_typed mo_faultAt w_mo_place w_mo_wrong w_mo_value w_mo_read mo_ahead mo_undoMany mo_aside mo_weighings mo_weighed mo_book mo_entries mo_isKept mo_kept mo_seeds 59 r13 w14 w15 hc16) (cwV 1 hts gX9_readBids_X9_takes rfl rfl rfl (by decide +kernel) ⟨(Nat.le_of_ble_eq_true rfl), (Nat.le_of_ble_eq_true rfl)⟩) rfl rfl rfl hP hD hS hA [0, 1, 2, 3, 4, 5, 6, 7, 8, 9, 10, 11] [] rfl rfl rfl rfl (by decide) rfl hl.1 rfl (Nat.le_of_ble_eq_true rfl) dX9_readBids_115 ⟨Nat.zero_le _, Nat.zero_le _⟩ (fun H locs hP hD hS => ?_)
      have hP : va_P D vwCl ([(moo, .inr (9, [.ref mo_toldA, .ref mo_stA, .int mo_isThere, .int mo_seed, .ref mo_textA, .int mo_typed, .int mo_faultAt, .int w14, .int w15, .int w_mo_value, .ref mo_readA, .ref mo_aheadA, .int mo_undoMany, .ref mo_asideA, .ref mo_weighingsA, .int mo_weighed, .ref mo_bookA, .int mo_entries, .ref mo_isKeptA, .ref mo_keptA, .ref mo_seedsA])), (mo_toldA, .inl (κ 0, 37, .inl mo_told)), (mo_stA, .inl (κ 0, 17, .inl mo_st)), (mo_textA, .inl (κ 0, 240, .inl mo_text)), (mo_readA, .inl (κ 0, 37, .inl w_mo_read)), (mo_aheadA, .inl (κ 0, 340, .inl mo_ahead)), (mo_asideA, .inl (κ 0, 17, .inl mo_aside)), (mo_weighingsA, .inl (κ 0, 12, .inl mo_weighings)), (mo_bookA, .inl (κ 0, 30, .inl mo_book)), (mo_isKeptA, .inl (κ 1, 2, .inl mo_isKept)), (mo_keptA, .inl (κ 0, 34, .inl mo_kept)), (mo_seedsA, .inl (κ 0, 2, .inl mo_seeds))]) H := hP
      have hD : va_D A ([(moo, .inr (9, [.ref mo_toldA, .ref mo_stA, .int mo_isThere, .int mo_seed, .ref mo_textA, .int mo_typed, .int mo_faultAt, .int w14, .int w15, .int w_mo_value, .ref mo_readA, .ref mo_aheadA, .int mo_undoMany, .ref mo_asideA, .ref mo_weighingsA, .int mo_weighed, .ref mo_bookA, .int mo_entries, .ref mo_isKeptA, .ref mo_keptA, .ref mo_seedsA])), (mo_toldA, .inl (κ 0, 37, .inl mo_told)), (mo_stA, .inl (κ 0, 17, .inl mo_st)), (mo_textA, .inl (κ 0, 240, .inl mo_text)), (mo_readA, .inl (κ 0, 37, .inl w_mo_read)), (mo_aheadA, .inl (κ 0, 340, .inl mo_ahead)), (mo_asideA, .inl (κ 0, 17, .inl mo_aside)), (mo_weighingsA, .inl (κ 0, 12, .inl mo_weighings)), (mo_bookA, .inl (κ 0, 30, .inl mo_book)), (mo_isKeptA, .inl (κ 1, 2, .inl mo_isKept)), (mo_keptA, .inl (κ 0, 34, .inl mo_kept)), (mo_seedsA, .inl (κ 0, 2, .inl mo_seeds))]) := hD
      refine lv_if_eq (tgt := 125) hx hb dX9_readBids_118 (by decide) (fun c17 => ?_) (fun c17 => ?_)
      · replace hres := og_t c17 hres
        refine lv_iconst (v := 0) hx hb dX9_readBids_125 (by decide) ?_
        have hres := Option.some.inj hres
        have h0 := (Prod.mk.inj hres).1
        replace hres := (Prod.mk.inj hres).2
        have h1 := (Prod.mk.inj hres).1
        replace hres := (Prod.mk.inj hres).2
        have h2 := (Prod.mk.inj hres).1
        replace hres := (Prod.mk.inj hres).2
        have h3 := (Prod.mk.inj hres).1
        replace hres := (Prod.mk.inj hres).2
        have h4 := hres
        subst h0
        subst h1
        subst h2
        subst h3
        subst h4
        exact hret _ _ _ _ (by decide) hP hD hS dX9_readBids_126
      · replace hres := og_f c17 hres
        refine lv_iconst (v := 1) hx hb dX9_readBids_121 (by decide) ?_
        refine lv_goto (tgt := 126) hx hb dX9_readBids_122 (by decide) ?_
        have hres := Option.some.inj hres
        have h0 := (Prod.mk.inj hres).1
        replace hres := (Prod.mk.inj hres).2
        have h1 := (Prod.mk.inj hres).1
        replace hres := (Prod.mk.inj hres).2
        have h2 := (Prod.mk.inj hres).1
        replace hres := (Prod.mk.inj hres).2
        have h3 := (Prod.mk.inj hres).1
        replace hres := (Prod.mk.inj hres).2
        have h4 := hres
        subst h0
        subst h1
        subst h2
        subst h3
        subst h4
        exact hret _ _ _ _ (by decide) hP hD hS dX9_readBids_126
  have L43 : ∀ (n43 : Nat) (v1 : Int32) (w_mo_place : Int32) (w_mo_wrong : Int32) (w_mo_value : Int32) (w_mo_read : Nat → Int32) (H : Heap) (locs : List Loc) (ls : Array Slot), va_P D vwCl ([(moo, .inr (9, [.ref mo_toldA, .ref mo_stA, .int mo_isThere, .int mo_seed, .ref mo_textA, .int mo_typed, .int mo_faultAt, .int w_mo_place, .int w_mo_wrong, .int w_mo_value, .ref mo_readA, .ref mo_aheadA, .int mo_undoMany, .ref mo_asideA, .ref mo_weighingsA, .int mo_weighed, .ref mo_bookA, .int mo_entries, .ref mo_isKeptA, .ref mo_keptA, .ref mo_seedsA])), (mo_toldA, .inl (κ 0, 37, .inl mo_told)), (mo_stA, .inl (κ 0, 17, .inl mo_st)), (mo_textA, .inl (κ 0, 240, .inl mo_text)), (mo_readA, .inl (κ 0, 37, .inl w_mo_read)), (mo_aheadA, .inl (κ 0, 340, .inl mo_ahead)), (mo_asideA, .inl (κ 0, 17, .inl mo_aside)), (mo_weighingsA, .inl (κ 0, 12, .inl mo_weighings)), (mo_bookA, .inl (κ 0, 30, .inl mo_book)), (mo_isKeptA, .inl (κ 1, 2, .inl mo_isKept)), (mo_keptA, .inl (κ 0, 34, .inl mo_kept)), (mo_seedsA, .inl (κ 0, 2, .inl mo_seeds))]) H → va_D A ([(moo, .inr (9, [.ref mo_toldA, .ref mo_stA, .int mo_isThere, .int mo_seed, .ref mo_textA, .int mo_typed, .int mo_faultAt, .int w_mo_place, .int w_mo_wrong, .int w_mo_value, .ref mo_readA, .ref mo_aheadA, .int mo_undoMany, .ref mo_asideA, .ref mo_weighingsA, .int mo_weighed, .ref mo_bookA, .int mo_entries, .ref mo_isKeptA, .ref mo_keptA, .ref mo_seedsA])), (mo_toldA, .inl (κ 0, 37, .inl mo_told)), (mo_stA, .inl (κ 0, 17, .inl mo_st)), (mo_textA, .inl (κ 0, 240, .inl mo_text)), (mo_readA, .inl (κ 0, 37, .inl w_mo_read)), (mo_aheadA, .inl (κ 0, 340, .inl mo_ahead)), (mo_asideA, .inl (κ 0, 17, .inl mo_aside)), (mo_weighingsA, .inl (κ 0, 12, .inl mo_weighings)), (mo_bookA, .inl (κ 0, 30, .inl mo_book)), (mo_isKeptA, .inl (κ 1, 2, .inl mo_isKept)), (mo_keptA, .inl (κ 0, 34, .inl mo_kept)), (mo_seedsA, .inl (κ 0, 2, .inl mo_seeds))]) → va_S A s.heap H locs → lv_has ls 2 [(0, .ref moo), (1, .int v1)] → pX9_readBids_L43 N mo_text mo_typed n43 v1 w_mo_place w_mo_wrong w_mo_value w_mo_read = some (r0, z_mo_place, z_mo_wrong, z_mo_value, z_mo_read) → W p l e { frames := 2, cells := 0, slots := 0, locals := 200 } s m args below meth c H locs 0 0 Q (F0 m 43 ls []) := by
    intro n43
    induction n43 with
    | zero =>
      intro v1 w_mo_place w_mo_wrong w_mo_value w_mo_read H locs ls hP hD hS hl hres
      exact absurd (show none = some _ from hres) (by simp)
    | succ n43 ih43 =>
      intro v1 w_mo_place w_mo_wrong w_mo_value w_mo_read H locs ls hP hD hS hl hres
      rw [pX9_readBids_L43] at hres
      refine lv_iload_n hx hb dX9_readBids_43 rfl (lv_at hl 1 rfl) ?_
      refine lv_if_eq (tgt := 108) hx hb dX9_readBids_44 (by decide) (fun c18 => ?_) (fun c18 => ?_)
      · replace hres := og_t c18 hres
        exact L108 v1 w_mo_place w_mo_wrong w_mo_value w_mo_read _ _ _ hP hD hS (lv_sub hl [0, 1] rfl) hres
      · replace hres := og_f c18 hres
        refine lv_aload_n hx hb dX9_readBids_47 rfl (lv_at hl 0 rfl) ?_
        obtain ⟨r19, w20, hc21, hres⟩ := kb2_s hres
        refine krI_V (As := []) (rest := []) (wr := []) ⟨hx, hb, hml, hown, hts⟩ hK (tX9_next l D κ moo mo_toldA mo_stA mo_textA mo_readA mo_aheadA mo_asideA mo_weighingsA mo_bookA mo_isKeptA mo_keptA mo_seedsA N mo_told mo_st mo_isThere mo_seed mo_text mo_typed mo_faultAt w_mo_place w_mo_wrong w_mo_value w_mo_read mo_ahead mo_undoMany mo_aside mo_weighings mo_weighed mo_book mo_entries mo_isKept mo_kept mo_seeds r19 w20 hc21) (cwV 0 hts gX9_readBids_X9_next rfl rfl rfl (by decide +kernel) ⟨(Nat.le_of_ble_eq_true rfl), (Nat.le_of_ble_eq_true rfl)⟩) rfl rfl rfl hP hD hS hA [0, 1, 2, 3, 4, 5, 6, 7, 8, 9, 10, 11] [] rfl rfl rfl rfl (by decide) rfl hl.1 rfl (Nat.le_of_ble_eq_true rfl) dX9_readBids_48 ⟨Nat.zero_le _, Nat.zero_le _⟩ (fun H locs hP hD hS => ?_)
        have hP : va_P D vwCl ([(moo, .inr (9, [.ref mo_toldA, .ref mo_stA, .int mo_isThere, .int mo_seed, .ref mo_textA, .int mo_typed, .int mo_faultAt, .int w20, .int w_mo_wrong, .int w_mo_value, .ref mo_readA, .ref mo_aheadA, .int mo_undoMany, .ref mo_asideA, .ref mo_weighingsA, .int mo_weighed, .ref mo_bookA, .int mo_entries, .ref mo_isKeptA, .ref mo_keptA, .ref mo_seedsA])), (mo_toldA, .inl (κ 0, 37, .inl mo_told)), (mo_stA, .inl (κ 0, 17, .inl mo_st)), (mo_textA, .inl (κ 0, 240, .inl mo_text)), (mo_readA, .inl (κ 0, 37, .inl w_mo_read)), (mo_aheadA, .inl (κ 0, 340, .inl mo_ahead)), (mo_asideA, .inl (κ 0, 17, .inl mo_aside)), (mo_weighingsA, .inl (κ 0, 12, .inl mo_weighings)), (mo_bookA, .inl (κ 0, 30, .inl mo_book)), (mo_isKeptA, .inl (κ 1, 2, .inl mo_isKept)), (mo_keptA, .inl (κ 0, 34, .inl mo_kept)), (mo_seedsA, .inl (κ 0, 2, .inl mo_seeds))]) H := hP
        have hD : va_D A ([(moo, .inr (9, [.ref mo_toldA, .ref mo_stA, .int mo_isThere, .int mo_seed, .ref mo_textA, .int mo_typed, .int mo_faultAt, .int w20, .int w_mo_wrong, .int w_mo_value, .ref mo_readA, .ref mo_aheadA, .int mo_undoMany, .ref mo_asideA, .ref mo_weighingsA, .int mo_weighed, .ref mo_bookA, .int mo_entries, .ref mo_isKeptA, .ref mo_keptA, .ref mo_seedsA])), (mo_toldA, .inl (κ 0, 37, .inl mo_told)), (mo_stA, .inl (κ 0, 17, .inl mo_st)), (mo_textA, .inl (κ 0, 240, .inl mo_text)), (mo_readA, .inl (κ 0, 37, .inl w_mo_read)), (mo_aheadA, .inl (κ 0, 340, .inl mo_ahead)), (mo_asideA, .inl (κ 0, 17, .inl mo_aside)), (mo_weighingsA, .inl (κ 0, 12, .inl mo_weighings)), (mo_bookA, .inl (κ 0, 30, .inl mo_book)), (mo_isKeptA, .inl (κ 1, 2, .inl mo_isKept)), (mo_keptA, .inl (κ 0, 34, .inl mo_kept)), (mo_seedsA, .inl (κ 0, 2, .inl mo_seeds))]) := hD
        refine lv_bipush (v := 44) hx hb dX9_readBids_51 (by decide) ?_
        refine lv_icmp_ne (tgt := 108) hx hb dX9_readBids_53 (by decide) (fun c22 => ?_) (fun c22 => ?_)
        · replace hres := og_f c22 hres
          exact L108 v1 w20 w_mo_wrong w_mo_value w_mo_read _ _ _ hP hD hS (lv_sub hl [0, 1] rfl) hres
        · replace hres := og_t c22 hres
          refine lv_aload_n hx hb dX9_readBids_56 rfl (lv_at hl 0 rfl) ?_
          refine va_get (D := D) (ci := 9) (v := .ref mo_readA) (C := RX9) (T := TX9) (N := 21) hx hb hts iw9 hown hK.1 hP 0 rfl rfl 10 (by decide) k0 (fun _ h9 => h9) rfl dX9_readBids_57 ?_
          refine lv_iconst (v := 3) hx hb dX9_readBids_60 (by decide) ?_
          refine kr_iald (f := w_mo_read) (j := 3) hx hb hK hP 4 rfl (by decide) (by decide) dX9_readBids_61 ?_
          refine lv_bipush (v := 9) hx hb dX9_readBids_62 (by decide) ?_
          refine lv_icmp_ge (tgt := 108) hx hb dX9_readBids_64 (by decide) (fun c23 => ?_) (fun c23 => ?_)
          · replace hres := og_t c23 hres
            exact L108 v1 w20 w_mo_wrong w_mo_value w_mo_read _ _ _ hP hD hS (lv_sub hl [0, 1] rfl) hres
          · replace hres := og_f c23 hres
            refine lv_aload_n hx hb dX9_readBids_67 rfl (lv_at hl 0 rfl) ?_
            refine lv_dup hx hb dX9_readBids_68 rfl ?_
            refine va_get (D := D) (ci := 9) (v := .int w20) (C := RX9) (T := TX9) (N := 21) hx hb hts iw9 hown hK.1 hP 0 rfl rfl 7 (by decide) k1 (fun _ h9 => h9) rfl dX9_readBids_69 ?_
            refine lv_iconst (v := 1) hx hb dX9_readBids_72 (by decide) ?_
            refine lv_iadd hx hb dX9_readBids_73 ?_
            refine va_put (D := D) (ci := 9) (v := .int (w20 + 1)) (ty := .int) (C := RX9) (T := TX9) (N := 21) hx hb hts iw9 tyX9 tyX9_ok nmX9 hown hK.1 hP hD hS 0 rfl rfl 7 (by decide) k1 (fun _ h9 => h9) rfl (tyX9_ok 7 (by decide)) rfl rfl (Nat.le_of_ble_eq_true rfl) dX9_readBids_74 (fun H locs hP hD hS => ?_)
            have hP : va_P D vwCl ([(moo, .inr (9, [.ref mo_toldA, .ref mo_stA, .int mo_isThere, .int mo_seed, .ref mo_textA, .int mo_typed, .int mo_faultAt, .int (w20 + 1), .int w_mo_wrong, .int w_mo_value, .ref mo_readA, .ref mo_aheadA, .int mo_undoMany, .ref mo_asideA, .ref mo_weighingsA, .int mo_weighed, .ref mo_bookA, .int mo_entries, .ref mo_isKeptA, .ref mo_keptA, .ref mo_seedsA])), (mo_toldA, .inl (κ 0, 37, .inl mo_told)), (mo_stA, .inl (κ 0, 17, .inl mo_st)), (mo_textA, .inl (κ 0, 240, .inl mo_text)), (mo_readA, .inl (κ 0, 37, .inl w_mo_read)), (mo_aheadA, .inl (κ 0, 340, .inl mo_ahead)), (mo_asideA, .inl (κ 0, 17, .inl mo_aside)), (mo_weighingsA, .inl (κ 0, 12, .inl mo_weighings)), (mo_bookA, .inl (κ 0, 30, .inl mo_book)), (mo_isKeptA, .inl (κ 1, 2, .inl mo_isKept)), (mo_keptA, .inl (κ 0, 34, .inl mo_kept)), (mo_seedsA, .inl (κ 0, 2, .inl mo_seeds))]) H := hP
            have hD : va_D A ([(moo, .inr (9, [.ref mo_toldA, .ref mo_stA, .int mo_isThere, .int mo_seed, .ref mo_textA, .int mo_typed, .int mo_faultAt, .int (w20 + 1), .int w_mo_wrong, .int w_mo_value, .ref mo_readA, .ref mo_aheadA, .int mo_undoMany, .ref mo_asideA, .ref mo_weighingsA, .int mo_weighed, .ref mo_bookA, .int mo_entries, .ref mo_isKeptA, .ref mo_keptA, .ref mo_seedsA])), (mo_toldA, .inl (κ 0, 37, .inl mo_told)), (mo_stA, .inl (κ 0, 17, .inl mo_st)), (mo_textA, .inl (κ 0, 240, .inl mo_text)), (mo_readA, .inl (κ 0, 37, .inl w_mo_read)), (mo_aheadA, .inl (κ 0, 340, .inl mo_ahead)), (mo_asideA, .inl (κ 0, 17, .inl mo_aside)), (mo_weighingsA, .inl (κ 0, 12, .inl mo_weighings)), (mo_bookA, .inl (κ 0, 30, .inl mo_book)), (mo_isKeptA, .inl (κ 1, 2, .inl mo_isKept)), (mo_keptA, .inl (κ 0, 34, .inl mo_kept)), (mo_seedsA, .inl (κ 0, 2, .inl mo_seeds))]) := hD
            refine lv_aload_n hx hb dX9_readBids_77 rfl (lv_at hl 0 rfl) ?_
            refine lv_iconst (v := 0) hx hb dX9_readBids_78 (by decide) ?_
            refine lv_sipush (v := 999) hx hb dX9_readBids_79 (by decide) ?_
            refine lv_bipush (v := 19) hx hb dX9_readBids_82 (by decide) ?_
            refine lv_aload_n hx hb dX9_readBids_84 rfl (lv_at hl 0 rfl) ?_
            refine va_get (D := D) (ci := 9) (v := .ref mo_readA) (C := RX9) (T := TX9) (N := 21) hx hb hts iw9 hown hK.1 hP 0 rfl rfl 10 (by decide) k0 (fun _ h9 => h9) rfl dX9_readBids_85 ?_
            refine lv_iconst (v := 3) hx hb dX9_readBids_88 (by decide) ?_
            refine kr_iald (f := w_mo_read) (j := 3) hx hb hK hP 4 rfl (by decide) (by decide) dX9_readBids_89 ?_
            refine lv_iadd hx hb dX9_readBids_90 ?_
            obtain ⟨r24, w25, w26, w27, w28, hc29, hres⟩ := kb5_s hres
            refine krI_V (As := [.int 0, .int 999, .int (19 + (w_mo_read 3))]) (rest := []) (wr := []) ⟨hx, hb, hml, hown, hts⟩ hK (tX9_takesNumber l D κ moo mo_toldA mo_stA mo_textA mo_readA mo_aheadA mo_asideA mo_weighingsA mo_bookA mo_isKeptA mo_keptA mo_seedsA N mo_told mo_st mo_isThere mo_seed mo_text mo_typed mo_faultAt (w20 + 1) w_mo_wrong w_mo_value w_mo_read mo_ahead mo_undoMany mo_aside mo_weighings mo_weighed mo_book mo_entries mo_isKept mo_kept mo_seeds 0 999 (19 + (w_mo_read 3)) r24 w25 w26 w27 w28 hc29) (cwV 3 hts gX9_readBids_X9_takesNumber rfl rfl rfl (by decide +kernel) ⟨(Nat.le_of_ble_eq_true rfl), (Nat.le_of_ble_eq_true rfl)⟩) rfl rfl rfl hP hD hS hA [0, 1, 2, 3, 4, 5, 6, 7, 8, 9, 10, 11] [] rfl rfl rfl rfl (by decide) rfl hl.1 rfl (Nat.le_of_ble_eq_true rfl) dX9_readBids_91 ⟨Nat.zero_le _, Nat.zero_le _⟩ (fun H locs hP hD hS => ?_)
            have hP : va_P D vwCl ([(moo, .inr (9, [.ref mo_toldA, .ref mo_stA, .int mo_isThere, .int mo_seed, .ref mo_textA, .int mo_typed, .int mo_faultAt, .int w25, .int w26, .int w27, .ref mo_readA, .ref mo_aheadA, .int mo_undoMany, .ref mo_asideA, .ref mo_weighingsA, .int mo_weighed, .ref mo_bookA, .int mo_entries, .ref mo_isKeptA, .ref mo_keptA, .ref mo_seedsA])), (mo_toldA, .inl (κ 0, 37, .inl mo_told)), (mo_stA, .inl (κ 0, 17, .inl mo_st)), (mo_textA, .inl (κ 0, 240, .inl mo_text)), (mo_readA, .inl (κ 0, 37, .inl w28)), (mo_aheadA, .inl (κ 0, 340, .inl mo_ahead)), (mo_asideA, .inl (κ 0, 17, .inl mo_aside)), (mo_weighingsA, .inl (κ 0, 12, .inl mo_weighings)), (mo_bookA, .inl (κ 0, 30, .inl mo_book)), (mo_isKeptA, .inl (κ 1, 2, .inl mo_isKept)), (mo_keptA, .inl (κ 0, 34, .inl mo_kept)), (mo_seedsA, .inl (κ 0, 2, .inl mo_seeds))]) H := hP
            have hD : va_D A ([(moo, .inr (9, [.ref mo_toldA, .ref mo_stA, .int mo_isThere, .int mo_seed, .ref mo_textA, .int mo_typed, .int mo_faultAt, .int w25, .int w26, .int w27, .ref mo_readA, .ref mo_aheadA, .int mo_undoMany, .ref mo_asideA, .ref mo_weighingsA, .int mo_weighed, .ref mo_bookA, .int mo_entries, .ref mo_isKeptA, .ref mo_keptA, .ref mo_seedsA])), (mo_toldA, .inl (κ 0, 37, .inl mo_told)), (mo_stA, .inl (κ 0, 17, .inl mo_st)), (mo_textA, .inl (κ 0, 240, .inl mo_text)), (mo_readA, .inl (κ 0, 37, .inl w28)), (mo_aheadA, .inl (κ 0, 340, .inl mo_ahead)), (mo_asideA, .inl (κ 0, 17, .inl mo_aside)), (mo_weighingsA, .inl (κ 0, 12, .inl mo_weighings)), (mo_bookA, .inl (κ 0, 30, .inl mo_book)), (mo_isKeptA, .inl (κ 1, 2, .inl mo_isKept)), (mo_keptA, .inl (κ 0, 34, .inl mo_kept)), (mo_seedsA, .inl (κ 0, 2, .inl mo_seeds))]) := hD
            refine lv_istore_n (lv' := [(1, .int r24), (0, .ref moo)]) hx hb dX9_readBids_94 rfl hl (by decide) rfl (fun ls hl => ?_)
            refine lv_aload_n hx hb dX9_readBids_95 rfl (lv_at hl 1 rfl) ?_
            refine va_get (D := D) (ci := 9) (v := .ref mo_readA) (C := RX9) (T := TX9) (N := 21) hx hb hts iw9 hown hK.1 hP 0 rfl rfl 10 (by decide) k0 (fun _ h9 => h9) rfl dX9_readBids_96 ?_
            refine lv_iconst (v := 3) hx hb dX9_readBids_99 (by decide) ?_
            refine lv_dup2_11 hx hb dX9_readBids_100 rfl rfl ?_
            refine kr_iald (f := w28) (j := 3) hx hb hK hP 4 rfl (by decide) (by decide) dX9_readBids_101 ?_
            refine lv_iconst (v := 1) hx hb dX9_readBids_102 (by decide) ?_
            refine lv_iadd hx hb dX9_readBids_103 ?_
            refine kr_iast (f := w28) (j := 3) (x := ((w28 3) + 1)) hx hb hK hP hD hS 4 rfl (by decide) (by decide) dX9_readBids_104 (fun H locs hP hD hS => ?_)
            have hP : va_P D vwCl ([(moo, .inr (9, [.ref mo_toldA, .ref mo_stA, .int mo_isThere, .int mo_seed, .ref mo_textA, .int mo_typed, .int mo_faultAt, .int w25, .int w26, .int w27, .ref mo_readA, .ref mo_aheadA, .int mo_undoMany, .ref mo_asideA, .ref mo_weighingsA, .int mo_weighed, .ref mo_bookA, .int mo_entries, .ref mo_isKeptA, .ref mo_keptA, .ref mo_seedsA])), (mo_toldA, .inl (κ 0, 37, .inl mo_told)), (mo_stA, .inl (κ 0, 17, .inl mo_st)), (mo_textA, .inl (κ 0, 240, .inl mo_text)), (mo_readA, .inl (κ 0, 37, .inl (upd w28 3 ((w28 3) + 1)))), (mo_aheadA, .inl (κ 0, 340, .inl mo_ahead)), (mo_asideA, .inl (κ 0, 17, .inl mo_aside)), (mo_weighingsA, .inl (κ 0, 12, .inl mo_weighings)), (mo_bookA, .inl (κ 0, 30, .inl mo_book)), (mo_isKeptA, .inl (κ 1, 2, .inl mo_isKept)), (mo_keptA, .inl (κ 0, 34, .inl mo_kept)), (mo_seedsA, .inl (κ 0, 2, .inl mo_seeds))]) H := hP
            have hD : va_D A ([(moo, .inr (9, [.ref mo_toldA, .ref mo_stA, .int mo_isThere, .int mo_seed, .ref mo_textA, .int mo_typed, .int mo_faultAt, .int w25, .int w26, .int w27, .ref mo_readA, .ref mo_aheadA, .int mo_undoMany, .ref mo_asideA, .ref mo_weighingsA, .int mo_weighed, .ref mo_bookA, .int mo_entries, .ref mo_isKeptA, .ref mo_keptA, .ref mo_seedsA])), (mo_toldA, .inl (κ 0, 37, .inl mo_told)), (mo_stA, .inl (κ 0, 17, .inl mo_st)), (mo_textA, .inl (κ 0, 240, .inl mo_text)), (mo_readA, .inl (κ 0, 37, .inl (upd w28 3 ((w28 3) + 1)))), (mo_aheadA, .inl (κ 0, 340, .inl mo_ahead)), (mo_asideA, .inl (κ 0, 17, .inl mo_aside)), (mo_weighingsA, .inl (κ 0, 12, .inl mo_weighings)), (mo_bookA, .inl (κ 0, 30, .inl mo_book)), (mo_isKeptA, .inl (κ 1, 2, .inl mo_isKept)), (mo_keptA, .inl (κ 0, 34, .inl mo_kept)), (mo_seedsA, .inl (κ 0, 2, .inl mo_seeds))]) := hD
            refine lv_goto (tgt := 43) hx hb dX9_readBids_105 (by decide) ?_
            exact ih43 r24 w25 w26 w27 (upd w28 3 ((w28 3) + 1)) _ _ _ hP hD hS (lv_sub hl [1, 0] rfl) hres
  unfold pX9_readBids at hres
  refine lv_aload_n hx hb dX9_readBids_0 rfl (lv_at hl 0 rfl) ?_
  refine va_get (D := D) (ci := 9) (v := .ref mo_readA) (C := RX9) (T := TX9) (N := 21) hx hb hts iw9 hown hK.1 hP 0 rfl rfl 10 (by decide) k0 (fun _ h9 => h9) rfl dX9_readBids_1 ?_
  refine lv_iconst (v := 3) hx hb dX9_readBids_4 (by decide) ?_
  refine kr_iald (f := mo_read) (j := 3) hx hb hK hP 4 rfl (by decide) (by decide) dX9_readBids_5 ?_
  refine lv_if_le (tgt := 15) hx hb dX9_readBids_6 (by decide) (fun c1 => ?_) (fun c1 => ?_)
  · replace hres := og_t c1 hres
    refine lv_aload_n hx hb dX9_readBids_15 rfl (lv_at hl 0 rfl) ?_
    refine lv_dup hx hb dX9_readBids_16 rfl ?_
    refine va_get (D := D) (ci := 9) (v := .int mo_place) (C := RX9) (T := TX9) (N := 21) hx hb hts iw9 hown hK.1 hP 0 rfl rfl 7 (by decide) k1 (fun _ h9 => h9) rfl dX9_readBids_17 ?_
    refine lv_iconst (v := 1) hx hb dX9_readBids_20 (by decide) ?_
    refine lv_iadd hx hb dX9_readBids_21 ?_
    refine va_put (D := D) (ci := 9) (v := .int (mo_place + 1)) (ty := .int) (C := RX9) (T := TX9) (N := 21) hx hb hts iw9 tyX9 tyX9_ok nmX9 hown hK.1 hP hD hS 0 rfl rfl 7 (by decide) k1 (fun _ h9 => h9) rfl (tyX9_ok 7 (by decide)) rfl rfl (Nat.le_of_ble_eq_true rfl) dX9_readBids_22 (fun H locs hP hD hS => ?_)
    have hP : va_P D vwCl ([(moo, .inr (9, [.ref mo_toldA, .ref mo_stA, .int mo_isThere, .int mo_seed, .ref mo_textA, .int mo_typed, .int mo_faultAt, .int (mo_place + 1), .int mo_wrong, .int mo_value, .ref mo_readA, .ref mo_aheadA, .int mo_undoMany, .ref mo_asideA, .ref mo_weighingsA, .int mo_weighed, .ref mo_bookA, .int mo_entries, .ref mo_isKeptA, .ref mo_keptA, .ref mo_seedsA])), (mo_toldA, .inl (κ 0, 37, .inl mo_told)), (mo_stA, .inl (κ 0, 17, .inl mo_st)), (mo_textA, .inl (κ 0, 240, .inl mo_text)), (mo_readA, .inl (κ 0, 37, .inl mo_read)), (mo_aheadA, .inl (κ 0, 340, .inl mo_ahead)), (mo_asideA, .inl (κ 0, 17, .inl mo_aside)), (mo_weighingsA, .inl (κ 0, 12, .inl mo_weighings)), (mo_bookA, .inl (κ 0, 30, .inl mo_book)), (mo_isKeptA, .inl (κ 1, 2, .inl mo_isKept)), (mo_keptA, .inl (κ 0, 34, .inl mo_kept)), (mo_seedsA, .inl (κ 0, 2, .inl mo_seeds))]) H := hP
    have hD : va_D A ([(moo, .inr (9, [.ref mo_toldA, .ref mo_stA, .int mo_isThere, .int mo_seed, .ref mo_textA, .int mo_typed, .int mo_faultAt, .int (mo_place + 1), .int mo_wrong, .int mo_value, .ref mo_readA, .ref mo_aheadA, .int mo_undoMany, .ref mo_asideA, .ref mo_weighingsA, .int mo_weighed, .ref mo_bookA, .int mo_entries, .ref mo_isKeptA, .ref mo_keptA, .ref mo_seedsA])), (mo_toldA, .inl (κ 0, 37, .inl mo_told)), (mo_stA, .inl (κ 0, 17, .inl mo_st)), (mo_textA, .inl (κ 0, 240, .inl mo_text)), (mo_readA, .inl (κ 0, 37, .inl mo_read)), (mo_aheadA, .inl (κ 0, 340, .inl mo_ahead)), (mo_asideA, .inl (κ 0, 17, .inl mo_aside)), (mo_weighingsA, .inl (κ 0, 12, .inl mo_weighings)), (mo_bookA, .inl (κ 0, 30, .inl mo_book)), (mo_isKeptA, .inl (κ 1, 2, .inl mo_isKept)), (mo_keptA, .inl (κ 0, 34, .inl mo_kept)), (mo_seedsA, .inl (κ 0, 2, .inl mo_seeds))]) := hD
    refine lv_aload_n hx hb dX9_readBids_25 rfl (lv_at hl 0 rfl) ?_
    refine lv_iconst (v := 0) hx hb dX9_readBids_26 (by decide) ?_
    refine lv_sipush (v := 999) hx hb dX9_readBids_27 (by decide) ?_
    refine lv_bipush (v := 19) hx hb dX9_readBids_30 (by decide) ?_
    obtain ⟨r2, w3, w4, w5, w6, hc7, hres⟩ := kb5_s hres
    refine krI_V (As := [.int 0, .int 999, .int 19]) (rest := []) (wr := []) ⟨hx, hb, hml, hown, hts⟩ hK (tX9_takesNumber l D κ moo mo_toldA mo_stA mo_textA mo_readA mo_aheadA mo_asideA mo_weighingsA mo_bookA mo_isKeptA mo_keptA mo_seedsA N mo_told mo_st mo_isThere mo_seed mo_text mo_typed mo_faultAt (mo_place + 1) mo_wrong mo_value mo_read mo_ahead mo_undoMany mo_aside mo_weighings mo_weighed mo_book mo_entries mo_isKept mo_kept mo_seeds 0 999 19 r2 w3 w4 w5 w6 hc7) (cwV 3 hts gX9_readBids_X9_takesNumber rfl rfl rfl (by decide +kernel) ⟨(Nat.le_of_ble_eq_true rfl), (Nat.le_of_ble_eq_true rfl)⟩) rfl rfl rfl hP hD hS hA [0, 1, 2, 3, 4, 5, 6, 7, 8, 9, 10, 11] [] rfl rfl rfl rfl (by decide) rfl hl.1 rfl (Nat.le_of_ble_eq_true rfl) dX9_readBids_32 ⟨Nat.zero_le _, Nat.zero_le _⟩ (fun H locs hP hD hS => ?_)
    have hP : va_P D vwCl ([(moo, .inr (9, [.ref mo_toldA, .ref mo_stA, .int mo_isThere, .int mo_seed, .ref mo_textA, .int mo_typed, .int mo_faultAt, .int w3, .int w4, .int w5, .ref mo_readA, .ref mo_aheadA, .int mo_undoMany, .ref mo_asideA, .ref mo_weighingsA, .int mo_weighed, .ref mo_bookA, .int mo_entries, .ref mo_isKeptA, .ref mo_keptA, .ref mo_seedsA])), (mo_toldA, .inl (κ 0, 37, .inl mo_told)), (mo_stA, .inl (κ 0, 17, .inl mo_st)), (mo_textA, .inl (κ 0, 240, .inl mo_text)), (mo_readA, .inl (κ 0, 37, .inl w6)), (mo_aheadA, .inl (κ 0, 340, .inl mo_ahead)), (mo_asideA, .inl (κ 0, 17, .inl mo_aside)), (mo_weighingsA, .inl (κ 0, 12, .inl mo_weighings)), (mo_bookA, .inl (κ 0, 30, .inl mo_book)), (mo_isKeptA, .inl (κ 1, 2, .inl mo_isKept)), (mo_keptA, .inl (κ 0, 34, .inl mo_kept)), (mo_seedsA, .inl (κ 0, 2, .inl mo_seeds))]) H := hP
    have hD : va_D A ([(moo, .inr (9, [.ref mo_toldA, .ref mo_stA, .int mo_isThere, .int mo_seed, .ref mo_textA, .int mo_typed, .int mo_faultAt, .int w3, .int w4, .int w5, .ref mo_readA, .ref mo_aheadA, .int mo_undoMany, .ref mo_asideA, .ref mo_weighingsA, .int mo_weighed, .ref mo_bookA, .int mo_entries, .ref mo_isKeptA, .ref mo_keptA, .ref mo_seedsA])), (mo_toldA, .inl (κ 0, 37, .inl mo_told)), (mo_stA, .inl (κ 0, 17, .inl mo_st)), (mo_textA, .inl (κ 0, 240, .inl mo_text)), (mo_readA, .inl (κ 0, 37, .inl w6)), (mo_aheadA, .inl (κ 0, 340, .inl mo_ahead)), (mo_asideA, .inl (κ 0, 17, .inl mo_aside)), (mo_weighingsA, .inl (κ 0, 12, .inl mo_weighings)), (mo_bookA, .inl (κ 0, 30, .inl mo_book)), (mo_isKeptA, .inl (κ 1, 2, .inl mo_isKept)), (mo_keptA, .inl (κ 0, 34, .inl mo_kept)), (mo_seedsA, .inl (κ 0, 2, .inl mo_seeds))]) := hD
    refine lv_istore_n (lv' := [(1, .int r2), (0, .ref moo)]) hx hb dX9_readBids_35 rfl hl (by decide) rfl (fun ls hl => ?_)
    refine lv_aload_n hx hb dX9_readBids_36 rfl (lv_at hl 1 rfl) ?_
    refine va_get (D := D) (ci := 9) (v := .ref mo_readA) (C := RX9) (T := TX9) (N := 21) hx hb hts iw9 hown hK.1 hP 0 rfl rfl 10 (by decide) k0 (fun _ h9 => h9) rfl dX9_readBids_37 ?_
    refine lv_iconst (v := 3) hx hb dX9_readBids_40 (by decide) ?_
    refine lv_iconst (v := 1) hx hb dX9_readBids_41 (by decide) ?_
    refine kr_iast (f := w6) (j := 3) (x := 1) hx hb hK hP hD hS 4 rfl (by decide) (by decide) dX9_readBids_42 (fun H locs hP hD hS => ?_)
    have hP : va_P D vwCl ([(moo, .inr (9, [.ref mo_toldA, .ref mo_stA, .int mo_isThere, .int mo_seed, .ref mo_textA, .int mo_typed, .int mo_faultAt, .int w3, .int w4, .int w5, .ref mo_readA, .ref mo_aheadA, .int mo_undoMany, .ref mo_asideA, .ref mo_weighingsA, .int mo_weighed, .ref mo_bookA, .int mo_entries, .ref mo_isKeptA, .ref mo_keptA, .ref mo_seedsA])), (mo_toldA, .inl (κ 0, 37, .inl mo_told)), (mo_stA, .inl (κ 0, 17, .inl mo_st)), (mo_textA, .inl (κ 0, 240, .inl mo_text)), (mo_readA, .inl (κ 0, 37, .inl (upd w6 3 1))), (mo_aheadA, .inl (κ 0, 340, .inl mo_ahead)), (mo_asideA, .inl (κ 0, 17, .inl mo_aside)), (mo_weighingsA, .inl (κ 0, 12, .inl mo_weighings)), (mo_bookA, .inl (κ 0, 30, .inl mo_book)), (mo_isKeptA, .inl (κ 1, 2, .inl mo_isKept)), (mo_keptA, .inl (κ 0, 34, .inl mo_kept)), (mo_seedsA, .inl (κ 0, 2, .inl mo_seeds))]) H := hP
    have hD : va_D A ([(moo, .inr (9, [.ref mo_toldA, .ref mo_stA, .int mo_isThere, .int mo_seed, .ref mo_textA, .int mo_typed, .int mo_faultAt, .int w3, .int w4, .int w5, .ref mo_readA, .ref mo_aheadA, .int mo_undoMany, .ref mo_asideA, .ref mo_weighingsA, .int mo_weighed, .ref mo_bookA, .int mo_entries, .ref mo_isKeptA, .ref mo_keptA, .ref mo_seedsA])), (mo_toldA, .inl (κ 0, 37, .inl mo_told)), (mo_stA, .inl (κ 0, 17, .inl mo_st)), (mo_textA, .inl (κ 0, 240, .inl mo_text)), (mo_readA, .inl (κ 0, 37, .inl (upd w6 3 1))), (mo_aheadA, .inl (κ 0, 340, .inl mo_ahead)), (mo_asideA, .inl (κ 0, 17, .inl mo_aside)), (mo_weighingsA, .inl (κ 0, 12, .inl mo_weighings)), (mo_bookA, .inl (κ 0, 30, .inl mo_book)), (mo_isKeptA, .inl (κ 1, 2, .inl mo_isKept)), (mo_keptA, .inl (κ 0, 34, .inl mo_kept)), (mo_seedsA, .inl (κ 0, 2, .inl mo_seeds))]) := hD
    exact L43 N r2 w3 w4 w5 (upd w6 3 1) _ _ _ hP hD hS (lv_sub hl [1, 0] rfl) hres
  · replace hres := og_f c1 hres
    refine lv_aload_n hx hb dX9_readBids_9 rfl (lv_at hl 0 rfl) ?_
    refine lv_iconst (v := 3) hx hb dX9_readBids_10 (by decide) ?_
    obtain ⟨r8, w9, hc10, hres⟩ := kb2_s hres
    refine krI_V (As := [.int 3]) (rest := []) (wr := []) ⟨hx, hb, hml, hown, hts⟩ hK (tX9_faults l D κ moo mo_toldA mo_stA mo_textA mo_readA mo_aheadA mo_asideA mo_weighingsA mo_bookA mo_isKeptA mo_keptA mo_seedsA mo_told mo_st mo_isThere mo_seed mo_text mo_typed mo_faultAt mo_place mo_wrong mo_value mo_read mo_ahead mo_undoMany mo_aside mo_weighings mo_weighed mo_book mo_entries mo_isKept mo_kept mo_seeds 3 r8 w9 hc10) (cwV 1 hts gX9_readBids_X9_faults rfl rfl rfl (by decide +kernel) ⟨(Nat.le_of_ble_eq_true rfl), (Nat.le_of_ble_eq_true rfl)⟩) rfl rfl rfl hP hD hS hA [0, 1, 2, 3, 4, 5, 6, 7, 8, 9, 10, 11] [] rfl rfl rfl rfl (by decide) rfl hl.1 rfl (Nat.le_of_ble_eq_true rfl) dX9_readBids_11 ⟨Nat.zero_le _, Nat.zero_le _⟩ (fun H locs hP hD hS => ?_)
    have hP : va_P D vwCl ([(moo, .inr (9, [.ref mo_toldA, .ref mo_stA, .int mo_isThere, .int mo_seed, .ref mo_textA, .int mo_typed, .int mo_faultAt, .int mo_place, .int w9, .int mo_value, .ref mo_readA, .ref mo_aheadA, .int mo_undoMany, .ref mo_asideA, .ref mo_weighingsA, .int mo_weighed, .ref mo_bookA, .int mo_entries, .ref mo_isKeptA, .ref mo_keptA, .ref mo_seedsA])), (mo_toldA, .inl (κ 0, 37, .inl mo_told)), (mo_stA, .inl (κ 0, 17, .inl mo_st)), (mo_textA, .inl (κ 0, 240, .inl mo_text)), (mo_readA, .inl (κ 0, 37, .inl mo_read)), (mo_aheadA, .inl (κ 0, 340, .inl mo_ahead)), (mo_asideA, .inl (κ 0, 17, .inl mo_aside)), (mo_weighingsA, .inl (κ 0, 12, .inl mo_weighings)), (mo_bookA, .inl (κ 0, 30, .inl mo_book)), (mo_isKeptA, .inl (κ 1, 2, .inl mo_isKept)), (mo_keptA, .inl (κ 0, 34, .inl mo_kept)), (mo_seedsA, .inl (κ 0, 2, .inl mo_seeds))]) H := hP
    have hD : va_D A ([(moo, .inr (9, [.ref mo_toldA, .ref mo_stA, .int mo_isThere, .int mo_seed, .ref mo_textA, .int mo_typed, .int mo_faultAt, .int mo_place, .int w9, .int mo_value, .ref mo_readA, .ref mo_aheadA, .int mo_undoMany, .ref mo_asideA, .ref mo_weighingsA, .int mo_weighed, .ref mo_bookA, .int mo_entries, .ref mo_isKeptA, .ref mo_keptA, .ref mo_seedsA])), (mo_toldA, .inl (κ 0, 37, .inl mo_told)), (mo_stA, .inl (κ 0, 17, .inl mo_st)), (mo_textA, .inl (κ 0, 240, .inl mo_text)), (mo_readA, .inl (κ 0, 37, .inl mo_read)), (mo_aheadA, .inl (κ 0, 340, .inl mo_ahead)), (mo_asideA, .inl (κ 0, 17, .inl mo_aside)), (mo_weighingsA, .inl (κ 0, 12, .inl mo_weighings)), (mo_bookA, .inl (κ 0, 30, .inl mo_book)), (mo_isKeptA, .inl (κ 1, 2, .inl mo_isKept)), (mo_keptA, .inl (κ 0, 34, .inl mo_kept)), (mo_seedsA, .inl (κ 0, 2, .inl mo_seeds))]) := hD
    obtain ⟨g11, hres⟩ := og_no hres
    have hres := Option.some.inj hres
    have h0 := (Prod.mk.inj hres).1
    replace hres := (Prod.mk.inj hres).2
    have h1 := (Prod.mk.inj hres).1
    replace hres := (Prod.mk.inj hres).2
    have h2 := (Prod.mk.inj hres).1
    replace hres := (Prod.mk.inj hres).2
    have h3 := (Prod.mk.inj hres).1
    replace hres := (Prod.mk.inj hres).2
    have h4 := hres
    subst h0
    subst h1
    subst h2
    subst h3
    subst h4
    exact hret _ _ _ _ (kr_nz g11) hP hD hS dX9_readBids_14

def pX9_readHostage (N : Nat) (mo_text : Nat → Int32) (mo_typed : Int32) (mo_place : Int32) (mo_wrong : Int32) (mo_value : Int32) (mo_read : Nat → Int32) : Option (Int32 × Int32 × Int32 × Int32 × (Nat → Int32)) :=
    (if (mo_read 4) = 6 then
    kb2 (pX9_faults 3) fun r14 w15 =>
    if ¬ (r14 = 0 ∨ r14 = 1) then none else
    some (r14, mo_place, w15, mo_value, mo_read)
    else
    kb5 (pX9_takesNumber N 1 99 (28 + (mo_read 4)) mo_text mo_typed (mo_place + 1) mo_wrong mo_value (upd mo_read 4 ((mo_read 4) + 1))) fun r2 w3 w4 w5 w6 =>
    (if r2 = 0 then
    some (0, w3, w4, w5, w6)
    else
    kb3 (pX9_takes N 59 mo_text mo_typed w3 w4) fun r9 w10 w11 =>
    (if r9 = 0 then
    some (0, w10, w11, w5, w6)
    else
    some (1, w10, w11, w5, w6))))
set_option maxHeartbeats 8000000 in
set_option maxRecDepth 100000 in
theorem tX9_readHostage (l : Launch) (D : va_G) (κ : Nat → ClassId) (moo : Nat) (mo_toldA : Nat) (mo_stA : Nat) (mo_textA : Nat) (mo_readA : Nat) (mo_aheadA : Nat) (mo_asideA : Nat) (mo_weighingsA : Nat) (mo_bookA : Nat) (mo_isKeptA : Nat) (mo_keptA : Nat) (mo_seedsA : Nat) (N : Nat) (mo_told : Nat → Int32) (mo_st : Nat → Int32) (mo_isThere : Int32) (mo_seed : Int32) (mo_text : Nat → Int32) (mo_typed : Int32) (mo_faultAt : Int32) (mo_place : Int32) (mo_wrong : Int32) (mo_value : Int32) (mo_read : Nat → Int32) (mo_ahead : Nat → Int32) (mo_undoMany : Int32) (mo_aside : Nat → Int32) (mo_weighings : Nat → Int32) (mo_weighed : Int32) (mo_book : Nat → Int32) (mo_entries : Int32) (mo_isKept : Nat → Int32) (mo_kept : Nat → Int32) (mo_seeds : Nat → Int32) (r0 : Int32) (z_mo_place : Int32) (z_mo_wrong : Int32) (z_mo_value : Int32) (z_mo_read : Nat → Int32) (hres : pX9_readHostage N mo_text mo_typed mo_place mo_wrong mo_value mo_read = some (r0, z_mo_place, z_mo_wrong, z_mo_value, z_mo_read)) : krI l yX9_readHostage wsX9_readHostage { frames := 2, cells := 0, slots := 0, locals := 200 } D κ [.ref moo] ([(moo, .inr (9, [.ref mo_toldA, .ref mo_stA, .int mo_isThere, .int mo_seed, .ref mo_textA, .int mo_typed, .int mo_faultAt, .int mo_place, .int mo_wrong, .int mo_value, .ref mo_readA, .ref mo_aheadA, .int mo_undoMany, .ref mo_asideA, .ref mo_weighingsA, .int mo_weighed, .ref mo_bookA, .int mo_entries, .ref mo_isKeptA, .ref mo_keptA, .ref mo_seedsA])), (mo_toldA, .inl (κ 0, 37, .inl mo_told)), (mo_stA, .inl (κ 0, 17, .inl mo_st)), (mo_textA, .inl (κ 0, 240, .inl mo_text)), (mo_readA, .inl (κ 0, 37, .inl mo_read)), (mo_aheadA, .inl (κ 0, 340, .inl mo_ahead)), (mo_asideA, .inl (κ 0, 17, .inl mo_aside)), (mo_weighingsA, .inl (κ 0, 12, .inl mo_weighings)), (mo_bookA, .inl (κ 0, 30, .inl mo_book)), (mo_isKeptA, .inl (κ 1, 2, .inl mo_isKept)), (mo_keptA, .inl (κ 0, 34, .inl mo_kept)), (mo_seedsA, .inl (κ 0, 2, .inl mo_seeds))]) ([(moo, .inr (9, [.ref mo_toldA, .ref mo_stA, .int mo_isThere, .int mo_seed, .ref mo_textA, .int mo_typed, .int mo_faultAt, .int z_mo_place, .int z_mo_wrong, .int z_mo_value, .ref mo_readA, .ref mo_aheadA, .int mo_undoMany, .ref mo_asideA, .ref mo_weighingsA, .int mo_weighed, .ref mo_bookA, .int mo_entries, .ref mo_isKeptA, .ref mo_keptA, .ref mo_seedsA])), (mo_toldA, .inl (κ 0, 37, .inl mo_told)), (mo_stA, .inl (κ 0, 17, .inl mo_st)), (mo_textA, .inl (κ 0, 240, .inl mo_text)), (mo_readA, .inl (κ 0, 37, .inl z_mo_read)), (mo_aheadA, .inl (κ 0, 340, .inl mo_ahead)), (mo_asideA, .inl (κ 0, 17, .inl mo_aside)), (mo_weighingsA, .inl (κ 0, 12, .inl mo_weighings)), (mo_bookA, .inl (κ 0, 30, .inl mo_book)), (mo_isKeptA, .inl (κ 1, 2, .inl mo_isKept)), (mo_keptA, .inl (κ 0, 34, .inl mo_kept)), (mo_seedsA, .inl (κ 0, 2, .inl mo_seeds))]) r0 := by
  refine krI_of (cc := cX9_readHostage) (maxL := 2) (rt := .boolean) (by decide) rfl (Nat.le_of_ble_eq_true rfl) ?_
  intro p e s m args below meth c A Q ls hx hb hml hown hts hK hA hret hP hD hS hl
  have hown : s.vm.findClass RX9 = some m.cls := hown
  have hl : lv_has ls 2 [(0, .ref moo)] := hl
  have iw9 : ∀ w ∈ u_ws RX9 TX9 21, w ∈ wsX9_readHostage := (fun _ h => List.mem_cons_of_mem _ (List.mem_append_right _ h))
  have k0 : (Cond.fieldLink RX9 23 "KingRansomModel" "read" "[I").before args s = true := hts _ (List.mem_of_getElem? (i := 1) rfl)
  have k1 : (Cond.fieldLink RX9 59 "KingRansomModel" "place" "I").before args s = true := hts _ (List.mem_of_getElem? (i := 2) rfl)
  unfold pX9_readHostage at hres
  refine lv_aload_n hx hb dX9_readHostage_0 rfl (lv_at hl 0 rfl) ?_
  refine va_get (D := D) (ci := 9) (v := .ref mo_readA) (C := RX9) (T := TX9) (N := 21) hx hb hts iw9 hown hK.1 hP 0 rfl rfl 10 (by decide) k0 (fun _ h9 => h9) rfl dX9_readHostage_1 ?_
  refine lv_iconst (v := 4) hx hb dX9_readHostage_4 (by decide) ?_
  refine kr_iald (f := mo_read) (j := 4) hx hb hK hP 4 rfl (by decide) (by decide) dX9_readHostage_5 ?_
  refine lv_istore_n (lv' := [(1, .int (mo_read 4)), (0, .ref moo)]) hx hb dX9_readHostage_6 rfl hl (by decide) rfl (fun ls hl => ?_)
  refine lv_iload_n hx hb dX9_readHostage_7 rfl (lv_at hl 0 rfl) ?_
  refine lv_bipush (v := 6) hx hb dX9_readHostage_8 (by decide) ?_
  refine lv_icmp_ne (tgt := 19) hx hb dX9_readHostage_10 (by decide) (fun c1 => ?_) (fun c1 => ?_)
  · replace hres := og_f c1 hres
    refine lv_aload_n hx hb dX9_readHostage_19 rfl (lv_at hl 1 rfl) ?_
    refine lv_dup hx hb dX9_readHostage_20 rfl ?_
    refine va_get (D := D) (ci := 9) (v := .int mo_place) (C := RX9) (T := TX9) (N := 21) hx hb hts iw9 hown hK.1 hP 0 rfl rfl 7 (by decide) k1 (fun _ h9 => h9) rfl dX9_readHostage_21 ?_
    refine lv_iconst (v := 1) hx hb dX9_readHostage_24 (by decide) ?_
    refine lv_iadd hx hb dX9_readHostage_25 ?_
    refine va_put (D := D) (ci := 9) (v := .int (mo_place + 1)) (ty := .int) (C := RX9) (T := TX9) (N := 21) hx hb hts iw9 tyX9 tyX9_ok nmX9 hown hK.1 hP hD hS 0 rfl rfl 7 (by decide) k1 (fun _ h9 => h9) rfl (tyX9_ok 7 (by decide)) rfl rfl (Nat.le_of_ble_eq_true rfl) dX9_readHostage_26 (fun H locs hP hD hS => ?_)
    have hP : va_P D vwCl ([(moo, .inr (9, [.ref mo_toldA, .ref mo_stA, .int mo_isThere, .int mo_seed, .ref mo_textA, .int mo_typed, .int mo_faultAt, .int (mo_place + 1), .int mo_wrong, .int mo_value, .ref mo_readA, .ref mo_aheadA, .int mo_undoMany, .ref mo_asideA, .ref mo_weighingsA, .int mo_weighed, .ref mo_bookA, .int mo_entries, .ref mo_isKeptA, .ref mo_keptA, .ref mo_seedsA])), (mo_toldA, .inl (κ 0, 37, .inl mo_told)), (mo_stA, .inl (κ 0, 17, .inl mo_st)), (mo_textA, .inl (κ 0, 240, .inl mo_text)), (mo_readA, .inl (κ 0, 37, .inl mo_read)), (mo_aheadA, .inl (κ 0, 340, .inl mo_ahead)), (mo_asideA, .inl (κ 0, 17, .inl mo_aside)), (mo_weighingsA, .inl (κ 0, 12, .inl mo_weighings)), (mo_bookA, .inl (κ 0, 30, .inl mo_book)), (mo_isKeptA, .inl (κ 1, 2, .inl mo_isKept)), (mo_keptA, .inl (κ 0, 34, .inl mo_kept)), (mo_seedsA, .inl (κ 0, 2, .inl mo_seeds))]) H := hP
    have hD : va_D A ([(moo, .inr (9, [.ref mo_toldA, .ref mo_stA, .int mo_isThere, .int mo_seed, .ref mo_textA, .int mo_typed, .int mo_faultAt, .int (mo_place + 1), .int mo_wrong, .int mo_value, .ref mo_readA, .ref mo_aheadA, .int mo_undoMany, .ref mo_asideA, .ref mo_weighingsA, .int mo_weighed, .ref mo_bookA, .int mo_entries, .ref mo_isKeptA, .ref mo_keptA, .ref mo_seedsA])), (mo_toldA, .inl (κ 0, 37, .inl mo_told)), (mo_stA, .inl (κ 0, 17, .inl mo_st)), (mo_textA, .inl (κ 0, 240, .inl mo_text)), (mo_readA, .inl (κ 0, 37, .inl mo_read)), (mo_aheadA, .inl (κ 0, 340, .inl mo_ahead)), (mo_asideA, .inl (κ 0, 17, .inl mo_aside)), (mo_weighingsA, .inl (κ 0, 12, .inl mo_weighings)), (mo_bookA, .inl (κ 0, 30, .inl mo_book)), (mo_isKeptA, .inl (κ 1, 2, .inl mo_isKept)), (mo_keptA, .inl (κ 0, 34, .inl mo_kept)), (mo_seedsA, .inl (κ 0, 2, .inl mo_seeds))]) := hD
    refine lv_aload_n hx hb dX9_readHostage_29 rfl (lv_at hl 1 rfl) ?_
    refine va_get (D := D) (ci := 9) (v := .ref mo_readA) (C := RX9) (T := TX9) (N := 21) hx hb hts iw9 hown hK.1 hP 0 rfl rfl 10 (by decide) k0 (fun _ h9 => h9) rfl dX9_readHostage_30 ?_
    refine lv_iconst (v := 4) hx hb dX9_readHostage_33 (by decide) ?_
    refine lv_dup2_11 hx hb dX9_readHostage_34 rfl rfl ?_
    refine kr_iald (f := mo_read) (j := 4) hx hb hK hP 4 rfl (by decide) (by decide) dX9_readHostage_35 ?_
    refine lv_iconst (v := 1) hx hb dX9_readHostage_36 (by decide) ?_
    refine lv_iadd hx hb dX9_readHostage_37 ?_
    refine kr_iast (f := mo_read) (j := 4) (x := ((mo_read 4) + 1)) hx hb hK hP hD hS 4 rfl (by decide) (by decide) dX9_readHostage_38 (fun H locs hP hD hS => ?_)
    have hP : va_P D vwCl ([(moo, .inr (9, [.ref mo_toldA, .ref mo_stA, .int mo_isThere, .int mo_seed, .ref mo_textA, .int mo_typed, .int mo_faultAt, .int (mo_place + 1), .int mo_wrong, .int mo_value, .ref mo_readA, .ref mo_aheadA, .int mo_undoMany, .ref mo_asideA, .ref mo_weighingsA, .int mo_weighed, .ref mo_bookA, .int mo_entries, .ref mo_isKeptA, .ref mo_keptA, .ref mo_seedsA])), (mo_toldA, .inl (κ 0, 37, .inl mo_told)), (mo_stA, .inl (κ 0, 17, .inl mo_st)), (mo_textA, .inl (κ 0, 240, .inl mo_text)), (mo_readA, .inl (κ 0, 37, .inl (upd mo_read 4 ((mo_read 4) + 1)))), (mo_aheadA, .inl (κ 0, 340, .inl mo_ahead)), (mo_asideA, .inl (κ 0, 17, .inl mo_aside)), (mo_weighingsA, .inl (κ 0, 12, .inl mo_weighings)), (mo_bookA, .inl (κ 0, 30, .inl mo_book)), (mo_isKeptA, .inl (κ 1, 2, .inl mo_isKept)), (mo_keptA, .inl (κ 0, 34, .inl mo_kept)), (mo_seedsA, .inl (κ 0, 2, .inl mo_seeds))]) H := hP
    have hD : va_D A ([(moo, .inr (9, [.ref mo_toldA, .ref mo_stA, .int mo_isThere, .int mo_seed, .ref mo_textA, .int mo_typed, .int mo_faultAt, .int (mo_place + 1), .int mo_wrong, .int mo_value, .ref mo_readA, .ref mo_aheadA, .int mo_undoMany, .ref mo_asideA, .ref mo_weighingsA, .int mo_weighed, .ref mo_bookA, .int mo_entries, .ref mo_isKeptA, .ref mo_keptA, .ref mo_seedsA])), (mo_toldA, .inl (κ 0, 37, .inl mo_told)), (mo_stA, .inl (κ 0, 17, .inl mo_st)), (mo_textA, .inl (κ 0, 240, .inl mo_text)), (mo_readA, .inl (κ 0, 37, .inl (upd mo_read 4 ((mo_read 4) + 1)))), (mo_aheadA, .inl (κ 0, 340, .inl mo_ahead)), (mo_asideA, .inl (κ 0, 17, .inl mo_aside)), (mo_weighingsA, .inl (κ 0, 12, .inl mo_weighings)), (mo_bookA, .inl (κ 0, 30, .inl mo_book)), (mo_isKeptA, .inl (κ 1, 2, .inl mo_isKept)), (mo_keptA, .inl (κ 0, 34, .inl mo_kept)), (mo_seedsA, .inl (κ 0, 2, .inl mo_seeds))]) := hD
    refine lv_aload_n hx hb dX9_readHostage_39 rfl (lv_at hl 1 rfl) ?_
    refine lv_iconst (v := 1) hx hb dX9_readHostage_40 (by decide) ?_
    refine lv_bipush (v := 99) hx hb dX9_readHostage_41 (by decide) ?_
    refine lv_bipush (v := 28) hx hb dX9_readHostage_43 (by decide) ?_
    refine lv_iload_n hx hb dX9_readHostage_45 rfl (lv_at hl 0 rfl) ?_
    refine lv_iadd hx hb dX9_readHostage_46 ?_
    obtain ⟨r2, w3, w4, w5, w6, hc7, hres⟩ := kb5_s hres
    refine krI_V (As := [.int 1, .int 99, .int (28 + (mo_read 4))]) (rest := []) (wr := []) ⟨hx, hb, hml, hown, hts⟩ hK (tX9_takesNumber l D κ moo mo_toldA mo_stA mo_textA mo_readA mo_aheadA mo_asideA mo_weighingsA mo_bookA mo_isKeptA mo_keptA mo_seedsA N mo_told mo_st mo_isThere mo_seed mo_text mo_typed mo_faultAt (mo_place + 1) mo_wrong mo_value (upd mo_read 4 ((mo_read 4) + 1)) mo_ahead mo_undoMany mo_aside mo_weighings mo_weighed mo_book mo_entries mo_isKept mo_kept mo_seeds 1 99 (28 + (mo_read 4)) r2 w3 w4 w5 w6 hc7) (cwV 3 hts gX9_readHostage_X9_takesNumber rfl rfl rfl (by decide +kernel) ⟨(Nat.le_of_ble_eq_true rfl), (Nat.le_of_ble_eq_true rfl)⟩) rfl rfl rfl hP hD hS hA [0, 1, 2, 3, 4, 5, 6, 7, 8, 9, 10, 11] [] rfl rfl rfl rfl (by decide) rfl hl.1 rfl (Nat.le_of_ble_eq_true rfl) dX9_readHostage_47 ⟨Nat.zero_le _, Nat.zero_le _⟩ (fun H locs hP hD hS => ?_)
    have hP : va_P D vwCl ([(moo, .inr (9, [.ref mo_toldA, .ref mo_stA, .int mo_isThere, .int mo_seed, .ref mo_textA, .int mo_typed, .int mo_faultAt, .int w3, .int w4, .int w5, .ref mo_readA, .ref mo_aheadA, .int mo_undoMany, .ref mo_asideA, .ref mo_weighingsA, .int mo_weighed, .ref mo_bookA, .int mo_entries, .ref mo_isKeptA, .ref mo_keptA, .ref mo_seedsA])), (mo_toldA, .inl (κ 0, 37, .inl mo_told)), (mo_stA, .inl (κ 0, 17, .inl mo_st)), (mo_textA, .inl (κ 0, 240, .inl mo_text)), (mo_readA, .inl (κ 0, 37, .inl w6)), (mo_aheadA, .inl (κ 0, 340, .inl mo_ahead)), (mo_asideA, .inl (κ 0, 17, .inl mo_aside)), (mo_weighingsA, .inl (κ 0, 12, .inl mo_weighings)), (mo_bookA, .inl (κ 0, 30, .inl mo_book)), (mo_isKeptA, .inl (κ 1, 2, .inl mo_isKept)), (mo_keptA, .inl (κ 0, 34, .inl mo_kept)), (mo_seedsA, .inl (κ 0, 2, .inl mo_seeds))]) H := hP
    have hD : va_D A ([(moo, .inr (9, [.ref mo_toldA, .ref mo_stA, .int mo_isThere, .int mo_seed, .ref mo_textA, .int mo_typed, .int mo_faultAt, .int w3, .int w4, .int w5, .ref mo_readA, .ref mo_aheadA, .int mo_undoMany, .ref mo_asideA, .ref mo_weighingsA, .int mo_weighed, .ref mo_bookA, .int mo_entries, .ref mo_isKeptA, .ref mo_keptA, .ref mo_seedsA])), (mo_toldA, .inl (κ 0, 37, .inl mo_told)), (mo_stA, .inl (κ 0, 17, .inl mo_st)), (mo_textA, .inl (κ 0, 240, .inl mo_text)), (mo_readA, .inl (κ 0, 37, .inl w6)), (mo_aheadA, .inl (κ 0, 340, .inl mo_ahead)), (mo_asideA, .inl (κ 0, 17, .inl mo_aside)), (mo_weighingsA, .inl (κ 0, 12, .inl mo_weighings)), (mo_bookA, .inl (κ 0, 30, .inl mo_book)), (mo_isKeptA, .inl (κ 1, 2, .inl mo_isKept)), (mo_keptA, .inl (κ 0, 34, .inl mo_kept)), (mo_seedsA, .inl (κ 0, 2, .inl mo_seeds))]) := hD
    refine lv_if_eq (tgt := 66) hx hb dX9_readHostage_50 (by decide) (fun c8 => ?_) (fun c8 => ?_)
    · replace hres := og_t c8 hres
      refine lv_iconst (v := 0) hx hb dX9_readHostage_66 (by decide) ?_
      have hres := Option.some.inj hres
      have h0 := (Prod.mk.inj hres).1
      replace hres := (Prod.mk.inj hres).2
      have h1 := (Prod.mk.inj hres).1
      replace hres := (Prod.mk.inj hres).2
      have h2 := (Prod.mk.inj hres).1
      replace hres := (Prod.mk.inj hres).2
      have h3 := (Prod.mk.inj hres).1
      replace hres := (Prod.mk.inj hres).2
      have h4 := hres
      subst h0
      subst h1
      subst h2
      subst h3
      subst h4
      exact hret _ _ _ _ (by decide) hP hD hS dX9_readHostage_67
    · replace hres := og_f c8 hres
      refine lv_aload_n hx hb dX9_readHostage_53 rfl (lv_at hl 1 rfl) ?_
      refine lv_bipush (v := 59) hx hb dX9_readHostage_54 (by decide) ?_
      obtain ⟨r9, w10, w11, hc12, hres⟩ := kb3_s hres
      refine krI_V (As := [.int 59]) (rest := []) (wr := []) ⟨hx, hb, hml, hown, hts⟩ hK (tX9_takes l D κ moo mo_toldA mo_stA mo_textA mo_readA mo_aheadA mo_asideA mo_weighingsA mo_bookA mo_isKeptA mo_keptA mo_seedsA N mo_told mo_st mo_isThere mo_seed mo_text mo_typed mo_faultAt w3 w4 w5 w6 mo_ahead mo_undoMany mo_aside mo_weighings mo_weighed mo_book mo_entries mo_isKept mo_kept mo_seeds 59 r9 w10 w11 hc12) (cwV 1 hts gX9_readHostage_X9_takes rfl rfl rfl (by decide +kernel) ⟨(Nat.le_of_ble_eq_true rfl), (Nat.le_of_ble_eq_true rfl)⟩) rfl rfl rfl hP hD hS hA [0, 1, 2, 3, 4, 5, 6, 7, 8, 9, 10, 11] [] rfl rfl rfl rfl (by decide) rfl hl.1 rfl (Nat.le_of_ble_eq_true rfl) dX9_readHostage_56 ⟨Nat.zero_le _, Nat.zero_le _⟩ (fun H locs hP hD hS => ?_)
      have hP : va_P D vwCl ([(moo, .inr (9, [.ref mo_toldA, .ref mo_stA, .int mo_isThere, .int mo_seed, .ref mo_textA, .int mo_typed, .int mo_faultAt, .int w10, .int w11, .int w5, .ref mo_readA, .ref mo_aheadA, .int mo_undoMany, .ref mo_asideA, .ref mo_weighingsA, .int mo_weighed, .ref mo_bookA, .int mo_entries, .ref mo_isKeptA, .ref mo_keptA, .ref mo_seedsA])), (mo_toldA, .inl (κ 0, 37, .inl mo_told)), (mo_stA, .inl (κ 0, 17, .inl mo_st)), (mo_textA, .inl (κ 0, 240, .inl mo_text)), (mo_readA, .inl (κ 0, 37, .inl w6)), (mo_aheadA, .inl (κ 0, 340, .inl mo_ahead)), (mo_asideA, .inl (κ 0, 17, .inl mo_aside)), (mo_weighingsA, .inl (κ 0, 12, .inl mo_weighings)), (mo_bookA, .inl (κ 0, 30, .inl mo_book)), (mo_isKeptA, .inl (κ 1, 2, .inl mo_isKept)), (mo_keptA, .inl (κ 0, 34, .inl mo_kept)), (mo_seedsA, .inl (κ 0, 2, .inl mo_seeds))]) H := hP
      have hD : va_D A ([(moo, .inr (9, [.ref mo_toldA, .ref mo_stA, .int mo_isThere, .int mo_seed, .ref mo_textA, .int mo_typed, .int mo_faultAt, .int w10, .int w11, .int w5, .ref mo_readA, .ref mo_aheadA, .int mo_undoMany, .ref mo_asideA, .ref mo_weighingsA, .int mo_weighed, .ref mo_bookA, .int mo_entries, .ref mo_isKeptA, .ref mo_keptA, .ref mo_seedsA])), (mo_toldA, .inl (κ 0, 37, .inl mo_told)), (mo_stA, .inl (κ 0, 17, .inl mo_st)), (mo_textA, .inl (κ 0, 240, .inl mo_text)), (mo_readA, .inl (κ 0, 37, .inl w6)), (mo_aheadA, .inl (κ 0, 340, .inl mo_ahead)), (mo_asideA, .inl (κ 0, 17, .inl mo_aside)), (mo_weighingsA, .inl (κ 0, 12, .inl mo_weighings)), (mo_bookA, .inl (κ 0, 30, .inl mo_book)), (mo_isKeptA, .inl (κ 1, 2, .inl mo_isKept)), (mo_keptA, .inl (κ 0, 34, .inl mo_kept)), (mo_seedsA, .inl (κ 0, 2, .inl mo_seeds))]) := hD
      refine lv_if_eq (tgt := 66) hx hb dX9_readHostage_59 (by decide) (fun c13 => ?_) (fun c13 => ?_)
      · replace hres := og_t c13 hres
        refine lv_iconst (v := 0) hx hb dX9_readHostage_66 (by decide) ?_
        have hres := Option.some.inj hres
        have h0 := (Prod.mk.inj hres).1
        replace hres := (Prod.mk.inj hres).2
        have h1 := (Prod.mk.inj hres).1
        replace hres := (Prod.mk.inj hres).2
        have h2 := (Prod.mk.inj hres).1
        replace hres := (Prod.mk.inj hres).2
        have h3 := (Prod.mk.inj hres).1
        replace hres := (Prod.mk.inj hres).2
        have h4 := hres
        subst h0
        subst h1
        subst h2
        subst h3
        subst h4
        exact hret _ _ _ _ (by decide) hP hD hS dX9_readHostage_67
      · replace hres := og_f c13 hres
        refine lv_iconst (v := 1) hx hb dX9_readHostage_62 (by decide) ?_
        refine lv_goto (tgt := 67) hx hb dX9_readHostage_63 (by decide) ?_
        have hres := Option.some.inj hres
        have h0 := (Prod.mk.inj hres).1
        replace hres := (Prod.mk.inj hres).2
        have h1 := (Prod.mk.inj hres).1
        replace hres := (Prod.mk.inj hres).2
        have h2 := (Prod.mk.inj hres).1
        replace hres := (Prod.mk.inj hres).2
        have h3 := (Prod.mk.inj hres).1
        replace hres := (Prod.mk.inj hres).2
        have h4 := hres
        subst h0
        subst h1
        subst h2
        subst h3
        subst h4
        exact hret _ _ _ _ (by decide) hP hD hS dX9_readHostage_67
  · replace hres := og_t c1 hres
    refine lv_aload_n hx hb dX9_readHostage_13 rfl (lv_at hl 1 rfl) ?_
    refine lv_iconst (v := 3) hx hb dX9_readHostage_14 (by decide) ?_
    obtain ⟨r14, w15, hc16, hres⟩ := kb2_s hres
    refine krI_V (As := [.int 3]) (rest := []) (wr := []) ⟨hx, hb, hml, hown, hts⟩ hK (tX9_faults l D κ moo mo_toldA mo_stA mo_textA mo_readA mo_aheadA mo_asideA mo_weighingsA mo_bookA mo_isKeptA mo_keptA mo_seedsA mo_told mo_st mo_isThere mo_seed mo_text mo_typed mo_faultAt mo_place mo_wrong mo_value mo_read mo_ahead mo_undoMany mo_aside mo_weighings mo_weighed mo_book mo_entries mo_isKept mo_kept mo_seeds 3 r14 w15 hc16) (cwV 1 hts gX9_readHostage_X9_faults rfl rfl rfl (by decide +kernel) ⟨(Nat.le_of_ble_eq_true rfl), (Nat.le_of_ble_eq_true rfl)⟩) rfl rfl rfl hP hD hS hA [0, 1, 2, 3, 4, 5, 6, 7, 8, 9, 10, 11] [] rfl rfl rfl rfl (by decide) rfl hl.1 rfl (Nat.le_of_ble_eq_true rfl) dX9_readHostage_15 ⟨Nat.zero_le _, Nat.zero_le _⟩ (fun H locs hP hD hS => ?_)
    have hP : va_P D vwCl ([(moo, .inr (9, [.ref mo_toldA, .ref mo_stA, .int mo_isThere, .int mo_seed, .ref mo_textA, .int mo_typed, .int mo_faultAt, .int mo_place, .int w15, .int mo_value, .ref mo_readA, .ref mo_aheadA, .int mo_undoMany, .ref mo_asideA, .ref mo_weighingsA, .int mo_weighed, .ref mo_bookA, .int mo_entries, .ref mo_isKeptA, .ref mo_keptA, .ref mo_seedsA])), (mo_toldA, .inl (κ 0, 37, .inl mo_told)), (mo_stA, .inl (κ 0, 17, .inl mo_st)), (mo_textA, .inl (κ 0, 240, .inl mo_text)), (mo_readA, .inl (κ 0, 37, .inl mo_read)), (mo_aheadA, .inl (κ 0, 340, .inl mo_ahead)), (mo_asideA, .inl (κ 0, 17, .inl mo_aside)), (mo_weighingsA, .inl (κ 0, 12, .inl mo_weighings)), (mo_bookA, .inl (κ 0, 30, .inl mo_book)), (mo_isKeptA, .inl (κ 1, 2, .inl mo_isKept)), (mo_keptA, .inl (κ 0, 34, .inl mo_kept)), (mo_seedsA, .inl (κ 0, 2, .inl mo_seeds))]) H := hP
    have hD : va_D A ([(moo, .inr (9, [.ref mo_toldA, .ref mo_stA, .int mo_isThere, .int mo_seed, .ref mo_textA, .int mo_typed, .int mo_faultAt, .int mo_place, .int w15, .int mo_value, .ref mo_readA, .ref mo_aheadA, .int mo_undoMany, .ref mo_asideA, .ref mo_weighingsA, .int mo_weighed, .ref mo_bookA, .int mo_entries, .ref mo_isKeptA, .ref mo_keptA, .ref mo_seedsA])), (mo_toldA, .inl (κ 0, 37, .inl mo_told)), (mo_stA, .inl (κ 0, 17, .inl mo_st)), (mo_textA, .inl (κ 0, 240, .inl mo_text)), (mo_readA, .inl (κ 0, 37, .inl mo_read)), (mo_aheadA, .inl (κ 0, 340, .inl mo_ahead)), (mo_asideA, .inl (κ 0, 17, .inl mo_aside)), (mo_weighingsA, .inl (κ 0, 12, .inl mo_weighings)), (mo_bookA, .inl (κ 0, 30, .inl mo_book)), (mo_isKeptA, .inl (κ 1, 2, .inl mo_isKept)), (mo_keptA, .inl (κ 0, 34, .inl mo_kept)), (mo_seedsA, .inl (κ 0, 2, .inl mo_seeds))]) := hD
    obtain ⟨g17, hres⟩ := og_no hres
    have hres := Option.some.inj hres
    have h0 := (Prod.mk.inj hres).1
    replace hres := (Prod.mk.inj hres).2
    have h1 := (Prod.mk.inj hres).1
    replace hres := (Prod.mk.inj hres).2
    have h2 := (Prod.mk.inj hres).1
    replace hres := (Prod.mk.inj hres).2
    have h3 := (Prod.mk.inj hres).1
    replace hres := (Prod.mk.inj hres).2
    have h4 := hres
    subst h0
    subst h1
    subst h2
    subst h3
    subst h4
    exact hret _ _ _ _ (kr_nz g17) hP hD hS dX9_readHostage_18

def pX9_readBags (N : Nat) (mo_text : Nat → Int32) (mo_typed : Int32) (mo_place : Int32) (mo_wrong : Int32) (mo_value : Int32) (mo_read : Nat → Int32) : Option (Int32 × Int32 × Int32 × Int32 × (Nat → Int32)) :=
    (if (mo_read 5) ≤ 0 then
    kb5 (pX9_takesNumber N 1 99 6 mo_text mo_typed (mo_place + 1) mo_wrong mo_value mo_read) fun r2 w3 w4 w5 w6 =>
    (if r2 = 0 then
    some (0, w3, w4, w5, w6)
    else
    kb5 (pX9_takesNumber N 1 8 5 mo_text mo_typed w3 w4 w5 w6) fun r9 w10 w11 w12 w13 =>
    (if r9 = 0 then
    some (0, w10, w11, w12, w13)
    else
    kb3 (pX9_takes N 59 mo_text mo_typed w10 w11) fun r16 w17 w18 =>
    (if r16 = 0 then
    some (0, w17, w18, w12, w13)
    else
    some (1, w17, w18, w12, w13))))
    else
    kb2 (pX9_faults 3) fun r21 w22 =>
    if ¬ (r21 = 0 ∨ r21 = 1) then none else
    some (r21, mo_place, w22, mo_value, mo_read))
set_option maxHeartbeats 8000000 in
set_option maxRecDepth 100000 in
theorem tX9_readBags (l : Launch) (D : va_G) (κ : Nat → ClassId) (moo : Nat) (mo_toldA : Nat) (mo_stA : Nat) (mo_textA : Nat) (mo_readA : Nat) (mo_aheadA : Nat) (mo_asideA : Nat) (mo_weighingsA : Nat) (mo_bookA : Nat) (mo_isKeptA : Nat) (mo_keptA : Nat) (mo_seedsA : Nat) (N : Nat) (mo_told : Nat → Int32) (mo_st : Nat → Int32) (mo_isThere : Int32) (mo_seed : Int32) (mo_text : Nat → Int32) (mo_typed : Int32) (mo_faultAt : Int32) (mo_place : Int32) (mo_wrong : Int32) (mo_value : Int32) (mo_read : Nat → Int32) (mo_ahead : Nat → Int32) (mo_undoMany : Int32) (mo_aside : Nat → Int32) (mo_weighings : Nat → Int32) (mo_weighed : Int32) (mo_book : Nat → Int32) (mo_entries : Int32) (mo_isKept : Nat → Int32) (mo_kept : Nat → Int32) (mo_seeds : Nat → Int32) (r0 : Int32) (z_mo_place : Int32) (z_mo_wrong : Int32) (z_mo_value : Int32) (z_mo_read : Nat → Int32) (hres : pX9_readBags N mo_text mo_typed mo_place mo_wrong mo_value mo_read = some (r0, z_mo_place, z_mo_wrong, z_mo_value, z_mo_read)) : krI l yX9_readBags wsX9_readBags { frames := 2, cells := 0, slots := 0, locals := 200 } D κ [.ref moo] ([(moo, .inr (9, [.ref mo_toldA, .ref mo_stA, .int mo_isThere, .int mo_seed, .ref mo_textA, .int mo_typed, .int mo_faultAt, .int mo_place, .int mo_wrong, .int mo_value, .ref mo_readA, .ref mo_aheadA, .int mo_undoMany, .ref mo_asideA, .ref mo_weighingsA, .int mo_weighed, .ref mo_bookA, .int mo_entries, .ref mo_isKeptA, .ref mo_keptA, .ref mo_seedsA])), (mo_toldA, .inl (κ 0, 37, .inl mo_told)), (mo_stA, .inl (κ 0, 17, .inl mo_st)), (mo_textA, .inl (κ 0, 240, .inl mo_text)), (mo_readA, .inl (κ 0, 37, .inl mo_read)), (mo_aheadA, .inl (κ 0, 340, .inl mo_ahead)), (mo_asideA, .inl (κ 0, 17, .inl mo_aside)), (mo_weighingsA, .inl (κ 0, 12, .inl mo_weighings)), (mo_bookA, .inl (κ 0, 30, .inl mo_book)), (mo_isKeptA, .inl (κ 1, 2, .inl mo_isKept)), (mo_keptA, .inl (κ 0, 34, .inl mo_kept)), (mo_seedsA, .inl (κ 0, 2, .inl mo_seeds))]) ([(moo, .inr (9, [.ref mo_toldA, .ref mo_stA, .int mo_isThere, .int mo_seed, .ref mo_textA, .int mo_typed, .int mo_faultAt, .int z_mo_place, .int z_mo_wrong, .int z_mo_value, .ref mo_readA, .ref mo_aheadA, .int mo_undoMany, .ref mo_asideA, .ref mo_weighingsA, .int mo_weighed, .ref mo_bookA, .int mo_entries, .ref mo_isKeptA, .ref mo_keptA, .ref mo_seedsA])), (mo_toldA, .inl (κ 0, 37, .inl mo_told)), (mo_stA, .inl (κ 0, 17, .inl mo_st)), (mo_textA, .inl (κ 0, 240, .inl mo_text)), (mo_readA, .inl (κ 0, 37, .inl z_mo_read)), (mo_aheadA, .inl (κ 0, 340, .inl mo_ahead)), (mo_asideA, .inl (κ 0, 17, .inl mo_aside)), (mo_weighingsA, .inl (κ 0, 12, .inl mo_weighings)), (mo_bookA, .inl (κ 0, 30, .inl mo_book)), (mo_isKeptA, .inl (κ 1, 2, .inl mo_isKept)), (mo_keptA, .inl (κ 0, 34, .inl mo_kept)), (mo_seedsA, .inl (κ 0, 2, .inl mo_seeds))]) r0 := by
  refine krI_of (cc := cX9_readBags) (maxL := 1) (rt := .boolean) (by decide) rfl (Nat.le_of_ble_eq_true rfl) ?_
  intro p e s m args below meth c A Q ls hx hb hml hown hts hK hA hret hP hD hS hl
  have hown : s.vm.findClass RX9 = some m.cls := hown
  have hl : lv_has ls 1 [(0, .ref moo)] := hl
  have iw9 : ∀ w ∈ u_ws RX9 TX9 21, w ∈ wsX9_readBags := (fun _ h => List.mem_cons_of_mem _ (List.mem_append_right _ h))
  have k0 : (Cond.fieldLink RX9 23 "KingRansomModel" "read" "[I").before args s = true := hts _ (List.mem_of_getElem? (i := 1) rfl)
  have k1 : (Cond.fieldLink RX9 59 "KingRansomModel" "place" "I").before args s = true := hts _ (List.mem_of_getElem? (i := 2) rfl)
  unfold pX9_readBags at hres
  refine lv_aload_n hx hb dX9_readBags_0 rfl (lv_at hl 0 rfl) ?_
  refine va_get (D := D) (ci := 9) (v := .ref mo_readA) (C := RX9) (T := TX9) (N := 21) hx hb hts iw9 hown hK.1 hP 0 rfl rfl 10 (by decide) k0 (fun _ h9 => h9) rfl dX9_readBags_1 ?_
  refine lv_iconst (v := 5) hx hb dX9_readBags_4 (by decide) ?_
  refine kr_iald (f := mo_read) (j := 5) hx hb hK hP 4 rfl (by decide) (by decide) dX9_readBags_5 ?_
  refine lv_if_le (tgt := 15) hx hb dX9_readBags_6 (by decide) (fun c1 => ?_) (fun c1 => ?_)
  · replace hres := og_t c1 hres
    refine lv_aload_n hx hb dX9_readBags_15 rfl (lv_at hl 0 rfl) ?_
    refine lv_dup hx hb dX9_readBags_16 rfl ?_
    refine va_get (D := D) (ci := 9) (v := .int mo_place) (C := RX9) (T := TX9) (N := 21) hx hb hts iw9 hown hK.1 hP 0 rfl rfl 7 (by decide) k1 (fun _ h9 => h9) rfl dX9_readBags_17 ?_
    refine lv_iconst (v := 1) hx hb dX9_readBags_20 (by decide) ?_
    refine lv_iadd hx hb dX9_readBags_21 ?_
    refine va_put (D := D) (ci := 9) (v := .int (mo_place + 1)) (ty := .int) (C := RX9) (T := TX9) (N := 21) hx hb hts iw9 tyX9 tyX9_ok nmX9 hown hK.1 hP hD hS 0 rfl rfl 7 (by decide) k1 (fun _ h9 => h9) rfl (tyX9_ok 7 (by decide)) rfl rfl (Nat.le_of_ble_eq_true rfl) dX9_readBags_22 (fun H locs hP hD hS => ?_)
    have hP : va_P D vwCl ([(moo, .inr (9, [.ref mo_toldA, .ref mo_stA, .int mo_isThere, .int mo_seed, .ref mo_textA, .int mo_typed, .int mo_faultAt, .int (mo_place + 1), .int mo_wrong, .int mo_value, .ref mo_readA, .ref mo_aheadA, .int mo_undoMany, .ref mo_asideA, .ref mo_weighingsA, .int mo_weighed, .ref mo_bookA, .int mo_entries, .ref mo_isKeptA, .ref mo_keptA, .ref mo_seedsA])), (mo_toldA, .inl (κ 0, 37, .inl mo_told)), (mo_stA, .inl (κ 0, 17, .inl mo_st)), (mo_textA, .inl (κ 0, 240, .inl mo_text)), (mo_readA, .inl (κ 0, 37, .inl mo_read)), (mo_aheadA, .inl (κ 0, 340, .inl mo_ahead)), (mo_asideA, .inl (κ 0, 17, .inl mo_aside)), (mo_weighingsA, .inl (κ 0, 12, .inl mo_weighings)), (mo_bookA, .inl (κ 0, 30, .inl mo_book)), (mo_isKeptA, .inl (κ 1, 2, .inl mo_isKept)), (mo_keptA, .inl (κ 0, 34, .inl mo_kept)), (mo_seedsA, .inl (κ 0, 2, .inl mo_seeds))]) H := hP
    have hD : va_D A ([(moo, .inr (9, [.ref mo_toldA, .ref mo_stA, .int mo_isThere, .int mo_seed, .ref mo_textA, .int mo_typed, .int mo_faultAt, .int (mo_place + 1), .int mo_wrong, .int mo_value, .ref mo_readA, .ref mo_aheadA, .int mo_undoMany, .ref mo_asideA, .ref mo_weighingsA, .int mo_weighed, .ref mo_bookA, .int mo_entries, .ref mo_isKeptA, .ref mo_keptA, .ref mo_seedsA])), (mo_toldA, .inl (κ 0, 37, .inl mo_told)), (mo_stA, .inl (κ 0, 17, .inl mo_st)), (mo_textA, .inl (κ 0, 240, .inl mo_text)), (mo_readA, .inl (κ 0, 37, .inl mo_read)), (mo_aheadA, .inl (κ 0, 340, .inl mo_ahead)), (mo_asideA, .inl (κ 0, 17, .inl mo_aside)), (mo_weighingsA, .inl (κ 0, 12, .inl mo_weighings)), (mo_bookA, .inl (κ 0, 30, .inl mo_book)), (mo_isKeptA, .inl (κ 1, 2, .inl mo_isKept)), (mo_keptA, .inl (κ 0, 34, .inl mo_kept)), (mo_seedsA, .inl (κ 0, 2, .inl mo_seeds))]) := hD
    refine lv_aload_n hx hb dX9_readBags_25 rfl (lv_at hl 0 rfl) ?_
    refine lv_iconst (v := 1) hx hb dX9_readBags_26 (by decide) ?_
    refine lv_bipush (v := 99) hx hb dX9_readBags_27 (by decide) ?_
    refine lv_bipush (v := 6) hx hb dX9_readBags_29 (by decide) ?_
    obtain ⟨r2, w3, w4, w5, w6, hc7, hres⟩ := kb5_s hres
    refine krI_V (As := [.int 1, .int 99, .int 6]) (rest := []) (wr := []) ⟨hx, hb, hml, hown, hts⟩ hK (tX9_takesNumber l D κ moo mo_toldA mo_stA mo_textA mo_readA mo_aheadA mo_asideA mo_weighingsA mo_bookA mo_isKeptA mo_keptA mo_seedsA N mo_told mo_st mo_isThere mo_seed mo_text mo_typed mo_faultAt (mo_place + 1) mo_wrong mo_value mo_read mo_ahead mo_undoMany mo_aside mo_weighings mo_weighed mo_book mo_entries mo_isKept mo_kept mo_seeds 1 99 6 r2 w3 w4 w5 w6 hc7) (cwV 3 hts gX9_readBags_X9_takesNumber rfl rfl rfl (by decide +kernel) ⟨(Nat.le_of_ble_eq_true rfl), (Nat.le_of_ble_eq_true rfl)⟩) rfl rfl rfl hP hD hS hA [0, 1, 2, 3, 4, 5, 6, 7, 8, 9, 10, 11] [] rfl rfl rfl rfl (by decide) rfl hl.1 rfl (Nat.le_of_ble_eq_true rfl) dX9_readBags_31 ⟨Nat.zero_le _, Nat.zero_le _⟩ (fun H locs hP hD hS => ?_)
    have hP : va_P D vwCl ([(moo, .inr (9, [.ref mo_toldA, .ref mo_stA, .int mo_isThere, .int mo_seed, .ref mo_textA, .int mo_typed, .int mo_faultAt, .int w3, .int w4, .int w5, .ref mo_readA, .ref mo_aheadA, .int mo_undoMany, .ref mo_asideA, .ref mo_weighingsA, .int mo_weighed, .ref mo_bookA, .int mo_entries, .ref mo_isKeptA, .ref mo_keptA, .ref mo_seedsA])), (mo_toldA, .inl (κ 0, 37, .inl mo_told)), (mo_stA, .inl (κ 0, 17, .inl mo_st)), (mo_textA, .inl (κ 0, 240, .inl mo_text)), (mo_readA, .inl (κ 0, 37, .inl w6)), (mo_aheadA, .inl (κ 0, 340, .inl mo_ahead)), (mo_asideA, .inl (κ 0, 17, .inl mo_aside)), (mo_weighingsA, .inl (κ 0, 12, .inl mo_weighings)), (mo_bookA, .inl (κ 0, 30, .inl mo_book)), (mo_isKeptA, .inl (κ 1, 2, .inl mo_isKept)), (mo_keptA, .inl (κ 0, 34, .inl mo_kept)), (mo_seedsA, .inl (κ 0, 2, .inl mo_seeds))]) H := hP
    have hD : va_D A ([(moo, .inr (9, [.ref mo_toldA, .ref mo_stA, .int mo_isThere, .int mo_seed, .ref mo_textA, .int mo_typed, .int mo_faultAt, .int w3, .int w4, .int w5, .ref mo_readA, .ref mo_aheadA, .int mo_undoMany, .ref mo_asideA, .ref mo_weighingsA, .int mo_weighed, .ref mo_bookA, .int mo_entries, .ref mo_isKeptA, .ref mo_keptA, .ref mo_seedsA])), (mo_toldA, .inl (κ 0, 37, .inl mo_told)), (mo_stA, .inl (κ 0, 17, .inl mo_st)), (mo_textA, .inl (κ 0, 240, .inl mo_text)), (mo_readA, .inl (κ 0, 37, .inl w6)), (mo_aheadA, .inl (κ 0, 340, .inl mo_ahead)), (mo_asideA, .inl (κ 0, 17, .inl mo_aside)), (mo_weighingsA, .inl (κ 0, 12, .inl mo_weighings)), (mo_bookA, .inl (κ 0, 30, .inl mo_book)), (mo_isKeptA, .inl (κ 1, 2, .inl mo_isKept)), (mo_keptA, .inl (κ 0, 34, .inl mo_kept)), (mo_seedsA, .inl (κ 0, 2, .inl mo_seeds))]) := hD
    refine lv_if_eq (tgt := 61) hx hb dX9_readBags_34 (by decide) (fun c8 => ?_) (fun c8 => ?_)
    · replace hres := og_t c8 hres
      refine lv_iconst (v := 0) hx hb dX9_readBags_61 (by decide) ?_
      have hres := Option.some.inj hres
      have h0 := (Prod.mk.inj hres).1
      replace hres := (Prod.mk.inj hres).2
      have h1 := (Prod.mk.inj hres).1
      replace hres := (Prod.mk.inj hres).2
      have h2 := (Prod.mk.inj hres).1
      replace hres := (Prod.mk.inj hres).2
      have h3 := (Prod.mk.inj hres).1
      replace hres := (Prod.mk.inj hres).2
      have h4 := hres
      subst h0
      subst h1
      subst h2
      subst h3
      subst h4
      exact hret _ _ _ _ (by decide) hP hD hS dX9_readBags_62
    · replace hres := og_f c8 hres
      refine lv_aload_n hx hb dX9_readBags_37 rfl (lv_at hl 0 rfl) ?_
      refine lv_iconst (v := 1) hx hb dX9_readBags_38 (by decide) ?_
      refine lv_bipush (v := 8) hx hb dX9_readBags_39 (by decide) ?_
      refine lv_iconst (v := 5) hx hb dX9_readBags_41 (by decide) ?_
      obtain ⟨r9, w10, w11, w12, w13, hc14, hres⟩ := kb5_s hres
      refine krI_V (As := [.int 1, .int 8, .int 5]) (rest := []) (wr := []) ⟨hx, hb, hml, hown, hts⟩ hK (tX9_takesNumber l D κ moo mo_toldA mo_stA mo_textA mo_readA mo_aheadA mo_asideA mo_weighingsA mo_bookA mo_isKeptA mo_keptA mo_seedsA N mo_told mo_st mo_isThere mo_seed mo_text mo_typed mo_faultAt w3 w4 w5 w6 mo_ahead mo_undoMany mo_aside mo_weighings mo_weighed mo_book mo_entries mo_isKept mo_kept mo_seeds 1 8 5 r9 w10 w11 w12 w13 hc14) (cwV 3 hts gX9_readBags_X9_takesNumber rfl rfl rfl (by decide +kernel) ⟨(Nat.le_of_ble_eq_true rfl), (Nat.le_of_ble_eq_true rfl)⟩) rfl rfl rfl hP hD hS hA [0, 1, 2, 3, 4, 5, 6, 7, 8, 9, 10, 11] [] rfl rfl rfl rfl (by decide) rfl hl.1 rfl (Nat.le_of_ble_eq_true rfl) dX9_readBags_42 ⟨Nat.zero_le _, Nat.zero_le _⟩ (fun H locs hP hD hS => ?_)
      have hP : va_P D vwCl ([(moo, .inr (9, [.ref mo_toldA, .ref mo_stA, .int mo_isThere, .int mo_seed, .ref mo_textA, .int mo_typed, .int mo_faultAt, .int w10, .int w11, .int w12, .ref mo_readA, .ref mo_aheadA, .int mo_undoMany, .ref mo_asideA, .ref mo_weighingsA, .int mo_weighed, .ref mo_bookA, .int mo_entries, .ref mo_isKeptA, .ref mo_keptA, .ref mo_seedsA])), (mo_toldA, .inl (κ 0, 37, .inl mo_told)), (mo_stA, .inl (κ 0, 17, .inl mo_st)), (mo_textA, .inl (κ 0, 240, .inl mo_text)), (mo_readA, .inl (κ 0, 37, .inl w13)), (mo_aheadA, .inl (κ 0, 340, .inl mo_ahead)), (mo_asideA, .inl (κ 0, 17, .inl mo_aside)), (mo_weighingsA, .inl (κ 0, 12, .inl mo_weighings)), (mo_bookA, .inl (κ 0, 30, .inl mo_book)), (mo_isKeptA, .inl (κ 1, 2, .inl mo_isKept)), (mo_keptA, .inl (κ 0, 34, .inl mo_kept)), (mo_seedsA, .inl (κ 0, 2, .inl mo_seeds))]) H := hP
      have hD : va_D A ([(moo, .inr (9, [.ref mo_toldA, .ref mo_stA, .int mo_isThere, .int mo_seed, .ref mo_textA, .int mo_typed, .int mo_faultAt, .int w10, .int w11, .int w12, .ref mo_readA, .ref mo_aheadA, .int mo_undoMany, .ref mo_asideA, .ref mo_weighingsA, .int mo_weighed, .ref mo_bookA, .int mo_entries, .ref mo_isKeptA, .ref mo_keptA, .ref mo_seedsA])), (mo_toldA, .inl (κ 0, 37, .inl mo_told)), (mo_stA, .inl (κ 0, 17, .inl mo_st)), (mo_textA, .inl (κ 0, 240, .inl mo_text)), (mo_readA, .inl (κ 0, 37, .inl w13)), (mo_aheadA, .inl (κ 0, 340, .inl mo_ahead)), (mo_asideA, .inl (κ 0, 17, .inl mo_aside)), (mo_weighingsA, .inl (κ 0, 12, .inl mo_weighings)), (mo_bookA, .inl (κ 0, 30, .inl mo_book)), (mo_isKeptA, .inl (κ 1, 2, .inl mo_isKept)), (mo_keptA, .inl (κ 0, 34, .inl mo_kept)), (mo_seedsA, .inl (κ 0, 2, .inl mo_seeds))]) := hD
      refine lv_if_eq (tgt := 61) hx hb dX9_readBags_45 (by decide) (fun c15 => ?_) (fun c15 => ?_)
      · replace hres := og_t c15 hres
        refine lv_iconst (v := 0) hx hb dX9_readBags_61 (by decide) ?_
        have hres := Option.some.inj hres
        have h0 := (Prod.mk.inj hres).1
        replace hres := (Prod.mk.inj hres).2
        have h1 := (Prod.mk.inj hres).1
        replace hres := (Prod.mk.inj hres).2
        have h2 := (Prod.mk.inj hres).1
        replace hres := (Prod.mk.inj hres).2
        have h3 := (Prod.mk.inj hres).1
        replace hres := (Prod.mk.inj hres).2
        have h4 := hres
        subst h0
        subst h1
        subst h2
        subst h3
        subst h4
        exact hret _ _ _ _ (by decide) hP hD hS dX9_readBags_62
      · replace hres := og_f c15 hres
        refine lv_aload_n hx hb dX9_readBags_48 rfl (lv_at hl 0 rfl) ?_
        refine lv_bipush (v := 59) hx hb dX9_readBags_49 (by decide) ?_
        obtain ⟨r16, w17, w18, hc19, hres⟩ := kb3_s hres
        refine krI_V (As := [.int 59]) (rest := []) (wr := []) ⟨hx, hb, hml, hown, hts⟩ hK (tX9_takes l D κ moo mo_toldA mo_stA mo_textA mo_readA mo_aheadA mo_asideA mo_weighingsA mo_bookA mo_isKeptA mo_keptA mo_seedsA N mo_told mo_st mo_isThere mo_seed mo_text mo_typed mo_faultAt w10 w11 w12 w13 mo_ahead mo_undoMany mo_aside mo_weighings mo_weighed mo_book mo_entries mo_isKept mo_kept mo_seeds 59 r16 w17 w18 hc19) (cwV 1 hts gX9_readBags_X9_takes rfl rfl rfl (by decide +kernel) ⟨(Nat.le_of_ble_eq_true rfl), (Nat.le_of_ble_eq_true rfl)⟩) rfl rfl rfl hP hD hS hA [0, 1, 2, 3, 4, 5, 6, 7, 8, 9, 10, 11] [] rfl rfl rfl rfl (by decide) rfl hl.1 rfl (Nat.le_of_ble_eq_true rfl) dX9_readBags_51 ⟨Nat.zero_le _, Nat.zero_le _⟩ (fun H locs hP hD hS => ?_)
        have hP : va_P D vwCl ([(moo, .inr (9, [.ref mo_toldA, .ref mo_stA, .int mo_isThere, .int mo_seed, .ref mo_textA, .int mo_typed, .int mo_faultAt, .int w17, .int w18, .int w12, .ref mo_readA, .ref mo_aheadA, .int mo_undoMany, .ref mo_asideA, .ref mo_weighingsA, .int mo_weighed, .ref mo_bookA, .int mo_entries, .ref mo_isKeptA, .ref mo_keptA, .ref mo_seedsA])), (mo_toldA, .inl (κ 0, 37, .inl mo_told)), (mo_stA, .inl (κ 0, 17, .inl mo_st)), (mo_textA, .inl (κ 0, 240, .inl mo_text)), (mo_readA, .inl (κ 0, 37, .inl w13)), (mo_aheadA, .inl (κ 0, 340, .inl mo_ahead)), (mo_asideA, .inl (κ 0, 17, .inl mo_aside)), (mo_weighingsA, .inl (κ 0, 12, .inl mo_weighings)), (mo_bookA, .inl (κ 0, 30, .inl mo_book)), (mo_isKeptA, .inl (κ 1, 2, .inl mo_isKept)), (mo_keptA, .inl (κ 0, 34, .inl mo_kept)), (mo_seedsA, .inl (κ 0, 2, .inl mo_seeds))]) H := hP
        have hD : va_D A ([(moo, .inr (9, [.ref mo_toldA, .ref mo_stA, .int mo_isThere, .int mo_seed, .ref mo_textA, .int mo_typed, .int mo_faultAt, .int w17, .int w18, .int w12, .ref mo_readA, .ref mo_aheadA, .int mo_undoMany, .ref mo_asideA, .ref mo_weighingsA, .int mo_weighed, .ref mo_bookA, .int mo_entries, .ref mo_isKeptA, .ref mo_keptA, .ref mo_seedsA])), (mo_toldA, .inl (κ 0, 37, .inl mo_told)), (mo_stA, .inl (κ 0, 17, .inl mo_st)), (mo_textA, .inl (κ 0, 240, .inl mo_text)), (mo_readA, .inl (κ 0, 37, .inl w13)), (mo_aheadA, .inl (κ 0, 340, .inl mo_ahead)), (mo_asideA, .inl (κ 0, 17, .inl mo_aside)), (mo_weighingsA, .inl (κ 0, 12, .inl mo_weighings)), (mo_bookA, .inl (κ 0, 30, .inl mo_book)), (mo_isKeptA, .inl (κ 1, 2, .inl mo_isKept)), (mo_keptA, .inl (κ 0, 34, .inl mo_kept)), (mo_seedsA, .inl (κ 0, 2, .inl mo_seeds))]) := hD
        refine lv_if_eq (tgt := 61) hx hb dX9_readBags_54 (by decide) (fun c20 => ?_) (fun c20 => ?_)
        · replace hres := og_t c20 hres
          refine lv_iconst (v := 0) hx hb dX9_readBags_61 (by decide) ?_
          have hres := Option.some.inj hres
          have h0 := (Prod.mk.inj hres).1
          replace hres := (Prod.mk.inj hres).2
          have h1 := (Prod.mk.inj hres).1
          replace hres := (Prod.mk.inj hres).2
          have h2 := (Prod.mk.inj hres).1
          replace hres := (Prod.mk.inj hres).2
          have h3 := (Prod.mk.inj hres).1
          replace hres := (Prod.mk.inj hres).2
          have h4 := hres
          subst h0
          subst h1
          subst h2
          subst h3
          subst h4
          exact hret _ _ _ _ (by decide) hP hD hS dX9_readBags_62
        · replace hres := og_f c20 hres
          refine lv_iconst (v := 1) hx hb dX9_readBags_57 (by decide) ?_
          refine lv_goto (tgt := 62) hx hb dX9_readBags_58 (by decide) ?_
          have hres := Option.some.inj hres
          have h0 := (Prod.mk.inj hres).1
          replace hres := (Prod.mk.inj hres).2
          have h1 := (Prod.mk.inj hres).1
          replace hres := (Prod.mk.inj hres).2
          have h2 := (Prod.mk.inj hres).1
          replace hres := (Prod.mk.inj hres).2
          have h3 := (Prod.mk.inj hres).1
          replace hres := (Prod.mk.inj hres).2
          have h4 := hres
          subst h0
          subst h1
          subst h2
          subst h3
          subst h4
          exact hret _ _ _ _ (by decide) hP hD hS dX9_readBags_62
  · replace hres := og_f c1 hres
    refine lv_aload_n hx hb dX9_readBags_9 rfl (lv_at hl 0 rfl) ?_
    refine lv_iconst (v := 3) hx hb dX9_readBags_10 (by decide) ?_
    obtain ⟨r21, w22, hc23, hres⟩ := kb2_s hres
    refine krI_V (As := [.int 3]) (rest := []) (wr := []) ⟨hx, hb, hml, hown, hts⟩ hK (tX9_faults l D κ moo mo_toldA mo_stA mo_textA mo_readA mo_aheadA mo_asideA mo_weighingsA mo_bookA mo_isKeptA mo_keptA mo_seedsA mo_told mo_st mo_isThere mo_seed mo_text mo_typed mo_faultAt mo_place mo_wrong mo_value mo_read mo_ahead mo_undoMany mo_aside mo_weighings mo_weighed mo_book mo_entries mo_isKept mo_kept mo_seeds 3 r21 w22 hc23) (cwV 1 hts gX9_readBags_X9_faults rfl rfl rfl (by decide +kernel) ⟨(Nat.le_of_ble_eq_true rfl), (Nat.le_of_ble_eq_true rfl)⟩) rfl rfl rfl hP hD hS hA [0, 1, 2, 3, 4, 5, 6, 7, 8, 9, 10, 11] [] rfl rfl rfl rfl (by decide) rfl hl.1 rfl (Nat.le_of_ble_eq_true rfl) dX9_readBags_11 ⟨Nat.zero_le _, Nat.zero_le _⟩ (fun H locs hP hD hS => ?_)
    have hP : va_P D vwCl ([(moo, .inr (9, [.ref mo_toldA, .ref mo_stA, .int mo_isThere, .int mo_seed, .ref mo_textA, .int mo_typed, .int mo_faultAt, .int mo_place, .int w22, .int mo_value, .ref mo_readA, .ref mo_aheadA, .int mo_undoMany, .ref mo_asideA, .ref mo_weighingsA, .int mo_weighed, .ref mo_bookA, .int mo_entries, .ref mo_isKeptA, .ref mo_keptA, .ref mo_seedsA])), (mo_toldA, .inl (κ 0, 37, .inl mo_told)), (mo_stA, .inl (κ 0, 17, .inl mo_st)), (mo_textA, .inl (κ 0, 240, .inl mo_text)), (mo_readA, .inl (κ 0, 37, .inl mo_read)), (mo_aheadA, .inl (κ 0, 340, .inl mo_ahead)), (mo_asideA, .inl (κ 0, 17, .inl mo_aside)), (mo_weighingsA, .inl (κ 0, 12, .inl mo_weighings)), (mo_bookA, .inl (κ 0, 30, .inl mo_book)), (mo_isKeptA, .inl (κ 1, 2, .inl mo_isKept)), (mo_keptA, .inl (κ 0, 34, .inl mo_kept)), (mo_seedsA, .inl (κ 0, 2, .inl mo_seeds))]) H := hP
    have hD : va_D A ([(moo, .inr (9, [.ref mo_toldA, .ref mo_stA, .int mo_isThere, .int mo_seed, .ref mo_textA, .int mo_typed, .int mo_faultAt, .int mo_place, .int w22, .int mo_value, .ref mo_readA, .ref mo_aheadA, .int mo_undoMany, .ref mo_asideA, .ref mo_weighingsA, .int mo_weighed, .ref mo_bookA, .int mo_entries, .ref mo_isKeptA, .ref mo_keptA, .ref mo_seedsA])), (mo_toldA, .inl (κ 0, 37, .inl mo_told)), (mo_stA, .inl (κ 0, 17, .inl mo_st)), (mo_textA, .inl (κ 0, 240, .inl mo_text)), (mo_readA, .inl (κ 0, 37, .inl mo_read)), (mo_aheadA, .inl (κ 0, 340, .inl mo_ahead)), (mo_asideA, .inl (κ 0, 17, .inl mo_aside)), (mo_weighingsA, .inl (κ 0, 12, .inl mo_weighings)), (mo_bookA, .inl (κ 0, 30, .inl mo_book)), (mo_isKeptA, .inl (κ 1, 2, .inl mo_isKept)), (mo_keptA, .inl (κ 0, 34, .inl mo_kept)), (mo_seedsA, .inl (κ 0, 2, .inl mo_seeds))]) := hD
    obtain ⟨g24, hres⟩ := og_no hres
    have hres := Option.some.inj hres
    have h0 := (Prod.mk.inj hres).1
    replace hres := (Prod.mk.inj hres).2
    have h1 := (Prod.mk.inj hres).1
    replace hres := (Prod.mk.inj hres).2
    have h2 := (Prod.mk.inj hres).1
    replace hres := (Prod.mk.inj hres).2
    have h3 := (Prod.mk.inj hres).1
    replace hres := (Prod.mk.inj hres).2
    have h4 := hres
    subst h0
    subst h1
    subst h2
    subst h3
    subst h4
    exact hret _ _ _ _ (kr_nz g24) hP hD hS dX9_readBags_14

def pX9_readClause_L63 (mo_value : Int32) (mo_read : Nat → Int32) (s0 : Int32) (w_mo_place : Int32) : Option (Int32 × Int32 × Int32 × Int32 × (Nat → Int32)) :=
    kb2 (pX9_faults s0) fun r37 w38 =>
    if ¬ (r37 = 0 ∨ r37 = 1) then none else
    some (r37, w_mo_place, w38, mo_value, mo_read)
def pX9_readClause (N : Nat) (mo_text : Nat → Int32) (mo_typed : Int32) (mo_place : Int32) (mo_wrong : Int32) (mo_value : Int32) (mo_read : Nat → Int32) : Option (Int32 × Int32 × Int32 × Int32 × (Nat → Int32)) :=
    kb2 (pX9_next N mo_text mo_typed mo_place) fun r1 w2 =>
    (if r1 = 112 then
    kb5 (pX9_readPayer N mo_text mo_typed w2 mo_wrong mo_value mo_read) fun r30 w31 w32 w33 w34 =>
    if ¬ (r30 = 0 ∨ r30 = 1) then none else
    some (r30, w31, w32, w33, w34)
    else
    (if r1 = 98 then
    kb5 (pX9_readBids N mo_text mo_typed w2 mo_wrong mo_value mo_read) fun r23 w24 w25 w26 w27 =>
    if ¬ (r23 = 0 ∨ r23 = 1) then none else
    some (r23, w24, w25, w26, w27)
    else
    (if r1 = 104 then
    kb5 (pX9_readHostage N mo_text mo_typed w2 mo_wrong mo_value mo_read) fun r16 w17 w18 w19 w20 =>
    if ¬ (r16 = 0 ∨ r16 = 1) then none else
    some (r16, w17, w18, w19, w20)
    else
    (if r1 = 119 then
    kb5 (pX9_readBags N mo_text mo_typed w2 mo_wrong mo_value mo_read) fun r9 w10 w11 w12 w13 =>
    if ¬ (r9 = 0 ∨ r9 = 1) then none else
    some (r9, w10, w11, w12, w13)
    else
    (if r1 = 107 then
    pX9_readClause_L63 mo_value mo_read 3 w2
    else
    pX9_readClause_L63 mo_value mo_read 1 w2)))))
set_option maxHeartbeats 8000000 in
set_option maxRecDepth 100000 in
theorem tX9_readClause (l : Launch) (D : va_G) (κ : Nat → ClassId) (moo : Nat) (mo_toldA : Nat) (mo_stA : Nat) (mo_textA : Nat) (mo_readA : Nat) (mo_aheadA : Nat) (mo_asideA : Nat) (mo_weighingsA : Nat) (mo_bookA : Nat) (mo_isKeptA : Nat) (mo_keptA : Nat) (mo_seedsA : Nat) (N : Nat) (mo_told : Nat → Int32) (mo_st : Nat → Int32) (mo_isThere : Int32) (mo_seed : Int32) (mo_text : Nat → Int32) (mo_typed : Int32) (mo_faultAt : Int32) (mo_place : Int32) (mo_wrong : Int32) (mo_value : Int32) (mo_read : Nat → Int32) (mo_ahead : Nat → Int32) (mo_undoMany : Int32) (mo_aside : Nat → Int32) (mo_weighings : Nat → Int32) (mo_weighed : Int32) (mo_book : Nat → Int32) (mo_entries : Int32) (mo_isKept : Nat → Int32) (mo_kept : Nat → Int32) (mo_seeds : Nat → Int32) (r0 : Int32) (z_mo_place : Int32) (z_mo_wrong : Int32) (z_mo_value : Int32) (z_mo_read : Nat → Int32) (hres : pX9_readClause N mo_text mo_typed mo_place mo_wrong mo_value mo_read = some (r0, z_mo_place, z_mo_wrong, z_mo_value, z_mo_read)) : krI l yX9_readClause wsX9_readClause { frames := 3, cells := 0, slots := 0, locals := 300 } D κ [.ref moo] ([(moo, .inr (9, [.ref mo_toldA, .ref mo_stA, .int mo_isThere, .int mo_seed, .ref mo_textA, .int mo_typed, .int mo_faultAt, .int mo_place, .int mo_wrong, .int mo_value, .ref mo_readA, .ref mo_aheadA, .int mo_undoMany, .ref mo_asideA, .ref mo_weighingsA, .int mo_weighed, .ref mo_bookA, .int mo_entries, .ref mo_isKeptA, .ref mo_keptA, .ref mo_seedsA])), (mo_toldA, .inl (κ 0, 37, .inl mo_told)), (mo_stA, .inl (κ 0, 17, .inl mo_st)), (mo_textA, .inl (κ 0, 240, .inl mo_text)), (mo_readA, .inl (κ 0, 37, .inl mo_read)), (mo_aheadA, .inl (κ 0, 340, .inl mo_ahead)), (mo_asideA, .inl (κ 0, 17, .inl mo_aside)), (mo_weighingsA, .inl (κ 0, 12, .inl mo_weighings)), (mo_bookA, .inl (κ 0, 30, .inl mo_book)), (mo_isKeptA, .inl (κ 1, 2, .inl mo_isKept)), (mo_keptA, .inl (κ 0, 34, .inl mo_kept)), (mo_seedsA, .inl (κ 0, 2, .inl mo_seeds))]) ([(moo, .inr (9, [.ref mo_toldA, .ref mo_stA, .int mo_isThere, .int mo_seed, .ref mo_textA, .int mo_typed, .int mo_faultAt, .int z_mo_place, .int z_mo_wrong, .int z_mo_value, .ref mo_readA, .ref mo_aheadA, .int mo_undoMany, .ref mo_asideA, .ref mo_weighingsA, .int mo_weighed, .ref mo_bookA, .int mo_entries, .ref mo_isKeptA, .ref mo_keptA, .ref mo_seedsA])), (mo_toldA, .inl (κ 0, 37, .inl mo_told)), (mo_stA, .inl (κ 0, 17, .inl mo_st)), (mo_textA, .inl (κ 0, 240, .inl mo_text)), (mo_readA, .inl (κ 0, 37, .inl z_mo_read)), (mo_aheadA, .inl (κ 0, 340, .inl mo_ahead)), (mo_asideA, .inl (κ 0, 17, .inl mo_aside)), (mo_weighingsA, .inl (κ 0, 12, .inl mo_weighings)), (mo_bookA, .inl (κ 0, 30, .inl mo_book)), (mo_isKeptA, .inl (κ 1, 2, .inl mo_isKept)), (mo_keptA, .inl (κ 0, 34, .inl mo_kept)), (mo_seedsA, .inl (κ 0, 2, .inl mo_seeds))]) r0 := by
  refine krI_of (cc := cX9_readClause) (maxL := 2) (rt := .boolean) (by decide) rfl (Nat.le_of_ble_eq_true rfl) ?_
  intro p e s m args below meth c A Q ls hx hb hml hown hts hK hA hret hP hD hS hl
  have hown : s.vm.findClass RX9 = some m.cls := hown
  have hl : lv_has ls 2 [(0, .ref moo)] := hl
  have L63 : ∀ (s0 : Int32) (w_mo_place : Int32) (H : Heap) (locs : List Loc) (ls : Array Slot), va_P D vwCl ([(moo, .inr (9, [.ref mo_toldA, .ref mo_stA, .int mo_isThere, .int mo_seed, .ref mo_textA, .int mo_typed, .int mo_faultAt, .int w_mo_place, .int mo_wrong, .int mo_value, .ref mo_readA, .ref mo_aheadA, .int mo_undoMany, .ref mo_asideA, .ref mo_weighingsA, .int mo_weighed, .ref mo_bookA, .int mo_entries, .ref mo_isKeptA, .ref mo_keptA, .ref mo_seedsA])), (mo_toldA, .inl (κ 0, 37, .inl mo_told)), (mo_stA, .inl (κ 0, 17, .inl mo_st)), (mo_textA, .inl (κ 0, 240, .inl mo_text)), (mo_readA, .inl (κ 0, 37, .inl mo_read)), (mo_aheadA, .inl (κ 0, 340, .inl mo_ahead)), (mo_asideA, .inl (κ 0, 17, .inl mo_aside)), (mo_weighingsA, .inl (κ 0, 12, .inl mo_weighings)), (mo_bookA, .inl (κ 0, 30, .inl mo_book)), (mo_isKeptA, .inl (κ 1, 2, .inl mo_isKept)), (mo_keptA, .inl (κ 0, 34, .inl mo_kept)), (mo_seedsA, .inl (κ 0, 2, .inl mo_seeds))]) H → va_D A ([(moo, .inr (9, [.ref mo_toldA, .ref mo_stA, .int mo_isThere, .int mo_seed, .ref mo_textA, .int mo_typed, .int mo_faultAt, .int w_mo_place, .int mo_wrong, .int mo_value, .ref mo_readA, .ref mo_aheadA, .int mo_undoMany, .ref mo_asideA, .ref mo_weighingsA, .int mo_weighed, .ref mo_bookA, .int mo_entries, .ref mo_isKeptA, .ref mo_keptA, .ref mo_seedsA])), (mo_toldA, .inl (κ 0, 37, .inl mo_told)), (mo_stA, .inl (κ 0, 17, .inl mo_st)), (mo_textA, .inl (κ 0, 240, .inl mo_text)), (mo_readA, .inl (κ 0, 37, .inl mo_read)), (mo_aheadA, .inl (κ 0, 340, .inl mo_ahead)), (mo_asideA, .inl (κ 0, 17, .inl mo_aside)), (mo_weighingsA, .inl (κ 0, 12, .inl mo_weighings)), (mo_bookA, .inl (κ 0, 30, .inl mo_book)), (mo_isKeptA, .inl (κ 1, 2, .inl mo_isKept)), (mo_keptA, .inl (κ 0, 34, .inl mo_kept)), (mo_seedsA, .inl (κ 0, 2, .inl mo_seeds))]) → va_S A s.heap H locs → lv_has ls 2 [] → pX9_readClause_L63 mo_value mo_read s0 w_mo_place = some (r0, z_mo_place, z_mo_wrong, z_mo_value, z_mo_read) → W p l e { frames := 3, cells := 0, slots := 0, locals := 300 } s m args below meth c H locs 0 0 Q (F0 m 63 ls [.int s0, .ref moo]) := by
    intro s0 w_mo_place H locs ls hP hD hS hl hres
    unfold pX9_readClause_L63 at hres
    obtain ⟨r37, w38, hc39, hres⟩ := kb2_s hres
    refine krI_V (As := [.int s0]) (rest := []) (wr := []) ⟨hx, hb, hml, hown, hts⟩ hK (tX9_faults l D κ moo mo_toldA mo_stA mo_textA mo_readA mo_aheadA mo_asideA mo_weighingsA mo_bookA mo_isKeptA mo_keptA mo_seedsA mo_told mo_st mo_isThere mo_seed mo_text mo_typed mo_faultAt w_mo_place mo_wrong mo_value mo_read mo_ahead mo_undoMany mo_aside mo_weighings mo_weighed mo_book mo_entries mo_isKept mo_kept mo_seeds s0 r37 w38 hc39) (cwV 1 hts gX9_readClause_X9_faults rfl rfl rfl (by decide +kernel) ⟨(Nat.le_of_ble_eq_true rfl), (Nat.le_of_ble_eq_true rfl)⟩) rfl rfl rfl hP hD hS hA [0, 1, 2, 3, 4, 5, 6, 7, 8, 9, 10, 11] [] rfl rfl rfl rfl (by decide) rfl hl.1 rfl (Nat.le_of_ble_eq_true rfl) dX9_readClause_63 ⟨Nat.zero_le _, Nat.zero_le _⟩ (fun H locs hP hD hS => ?_)
    have hP : va_P D vwCl ([(moo, .inr (9, [.ref mo_toldA, .ref mo_stA, .int mo_isThere, .int mo_seed, .ref mo_textA, .int mo_typed, .int mo_faultAt, .int w_mo_place, .int w38, .int mo_value, .ref mo_readA, .ref mo_aheadA, .int mo_undoMany, .ref mo_asideA, .ref mo_weighingsA, .int mo_weighed, .ref mo_bookA, .int mo_entries, .ref mo_isKeptA, .ref mo_keptA, .ref mo_seedsA])), (mo_toldA, .inl (κ 0, 37, .inl mo_told)), (mo_stA, .inl (κ 0, 17, .inl mo_st)), (mo_textA, .inl (κ 0, 240, .inl mo_text)), (mo_readA, .inl (κ 0, 37, .inl mo_read)), (mo_aheadA, .inl (κ 0, 340, .inl mo_ahead)), (mo_asideA, .inl (κ 0, 17, .inl mo_aside)), (mo_weighingsA, .inl (κ 0, 12, .inl mo_weighings)), (mo_bookA, .inl (κ 0, 30, .inl mo_book)), (mo_isKeptA, .inl (κ 1, 2, .inl mo_isKept)), (mo_keptA, .inl (κ 0, 34, .inl mo_kept)), (mo_seedsA, .inl (κ 0, 2, .inl mo_seeds))]) H := hP
    have hD : va_D A ([(moo, .inr (9, [.ref mo_toldA, .ref mo_stA, .int mo_isThere, .int mo_seed, .ref mo_textA, .int mo_typed, .int mo_faultAt, .int w_mo_place, .int w38, .int mo_value, .ref mo_readA, .ref mo_aheadA, .int mo_undoMany, .ref mo_asideA, .ref mo_weighingsA, .int mo_weighed, .ref mo_bookA, .int mo_entries, .ref mo_isKeptA, .ref mo_keptA, .ref mo_seedsA])), (mo_toldA, .inl (κ 0, 37, .inl mo_told)), (mo_stA, .inl (κ 0, 17, .inl mo_st)), (mo_textA, .inl (κ 0, 240, .inl mo_text)), (mo_readA, .inl (κ 0, 37, .inl mo_read)), (mo_aheadA, .inl (κ 0, 340, .inl mo_ahead)), (mo_asideA, .inl (κ 0, 17, .inl mo_aside)), (mo_weighingsA, .inl (κ 0, 12, .inl mo_weighings)), (mo_bookA, .inl (κ 0, 30, .inl mo_book)), (mo_isKeptA, .inl (κ 1, 2, .inl mo_isKept)), (mo_keptA, .inl (κ 0, 34, .inl mo_kept)), (mo_seedsA, .inl (κ 0, 2, .inl mo_seeds))]) := hD
    obtain ⟨g40, hres⟩ := og_no hres
    have hres := Option.some.inj hres
    have h0 := (Prod.mk.inj hres).1
    replace hres := (Prod.mk.inj hres).2
    have h1 := (Prod.mk.inj hres).1
    replace hres := (Prod.mk.inj hres).2
    have h2 := (Prod.mk.inj hres).1
    replace hres := (Prod.mk.inj hres).2
    have h3 := (Prod.mk.inj hres).1
    replace hres := (Prod.mk.inj hres).2
    have h4 := hres
    subst h0
    subst h1
    subst h2
    subst h3
    subst h4
    exact hret _ _ _ _ (kr_nz g40) hP hD hS dX9_readClause_66
  unfold pX9_readClause at hres
  refine lv_aload_n hx hb dX9_readClause_0 rfl (lv_at hl 0 rfl) ?_
  obtain ⟨r1, w2, hc3, hres⟩ := kb2_s hres
  refine krI_V (As := []) (rest := []) (wr := []) ⟨hx, hb, hml, hown, hts⟩ hK (tX9_next l D κ moo mo_toldA mo_stA mo_textA mo_readA mo_aheadA mo_asideA mo_weighingsA mo_bookA mo_isKeptA mo_keptA mo_seedsA N mo_told mo_st mo_isThere mo_seed mo_text mo_typed mo_faultAt mo_place mo_wrong mo_value mo_read mo_ahead mo_undoMany mo_aside mo_weighings mo_weighed mo_book mo_entries mo_isKept mo_kept mo_seeds r1 w2 hc3) (cwV 0 hts gX9_readClause_X9_next rfl rfl rfl (by decide +kernel) ⟨(Nat.le_of_ble_eq_true rfl), (Nat.le_of_ble_eq_true rfl)⟩) rfl rfl rfl hP hD hS hA [0, 1, 2, 3, 4, 5, 6, 7, 8, 9, 10, 11] [] rfl rfl rfl rfl (by decide) rfl hl.1 rfl (Nat.le_of_ble_eq_true rfl) dX9_readClause_1 ⟨Nat.zero_le _, Nat.zero_le _⟩ (fun H locs hP hD hS => ?_)
  have hP : va_P D vwCl ([(moo, .inr (9, [.ref mo_toldA, .ref mo_stA, .int mo_isThere, .int mo_seed, .ref mo_textA, .int mo_typed, .int mo_faultAt, .int w2, .int mo_wrong, .int mo_value, .ref mo_readA, .ref mo_aheadA, .int mo_undoMany, .ref mo_asideA, .ref mo_weighingsA, .int mo_weighed, .ref mo_bookA, .int mo_entries, .ref mo_isKeptA, .ref mo_keptA, .ref mo_seedsA])), (mo_toldA, .inl (κ 0, 37, .inl mo_told)), (mo_stA, .inl (κ 0, 17, .inl mo_st)), (mo_textA, .inl (κ 0, 240, .inl mo_text)), (mo_readA, .inl (κ 0, 37, .inl mo_read)), (mo_aheadA, .inl (κ 0, 340, .inl mo_ahead)), (mo_asideA, .inl (κ 0, 17, .inl mo_aside)), (mo_weighingsA, .inl (κ 0, 12, .inl mo_weighings)), (mo_bookA, .inl (κ 0, 30, .inl mo_book)), (mo_isKeptA, .inl (κ 1, 2, .inl mo_isKept)), (mo_keptA, .inl (κ 0, 34, .inl mo_kept)), (mo_seedsA, .inl (κ 0, 2, .inl mo_seeds))]) H := hP
  have hD : va_D A ([(moo, .inr (9, [.ref mo_toldA, .ref mo_stA, .int mo_isThere, .int mo_seed, .ref mo_textA, .int mo_typed, .int mo_faultAt, .int w2, .int mo_wrong, .int mo_value, .ref mo_readA, .ref mo_aheadA, .int mo_undoMany, .ref mo_asideA, .ref mo_weighingsA, .int mo_weighed, .ref mo_bookA, .int mo_entries, .ref mo_isKeptA, .ref mo_keptA, .ref mo_seedsA])), (mo_toldA, .inl (κ 0, 37, .inl mo_told)), (mo_stA, .inl (κ 0, 17, .inl mo_st)), (mo_textA, .inl (κ 0, 240, .inl mo_text)), (mo_readA, .inl (κ 0, 37, .inl mo_read)), (mo_aheadA, .inl (κ 0, 340, .inl mo_ahead)), (mo_asideA, .inl (κ 0, 17, .inl mo_aside)), (mo_weighingsA, .inl (κ 0, 12, .inl mo_weighings)), (mo_bookA, .inl (κ 0, 30, .inl mo_book)), (mo_isKeptA, .inl (κ 1, 2, .inl mo_isKept)), (mo_keptA, .inl (κ 0, 34, .inl mo_kept)), (mo_seedsA, .inl (κ 0, 2, .inl mo_seeds))]) := hD
  refine lv_istore_n (lv' := [(1, .int r1), (0, .ref moo)]) hx hb dX9_readClause_4 rfl hl (by decide) rfl (fun ls hl => ?_)
  refine lv_iload_n hx hb dX9_readClause_5 rfl (lv_at hl 0 rfl) ?_
  refine lv_bipush (v := 112) hx hb dX9_readClause_6 (by decide) ?_
  refine lv_icmp_ne (tgt := 16) hx hb dX9_readClause_8 (by decide) (fun c4 => ?_) (fun c4 => ?_)
  · replace hres := og_f c4 hres
    refine lv_iload_n hx hb dX9_readClause_16 rfl (lv_at hl 0 rfl) ?_
    refine lv_bipush (v := 98) hx hb dX9_readClause_17 (by decide) ?_
    refine lv_icmp_ne (tgt := 27) hx hb dX9_readClause_19 (by decide) (fun c5 => ?_) (fun c5 => ?_)
    · replace hres := og_f c5 hres
      refine lv_iload_n hx hb dX9_readClause_27 rfl (lv_at hl 0 rfl) ?_
      refine lv_bipush (v := 104) hx hb dX9_readClause_28 (by decide) ?_
      refine lv_icmp_ne (tgt := 38) hx hb dX9_readClause_30 (by decide) (fun c6 => ?_) (fun c6 => ?_)
      · replace hres := og_f c6 hres
        refine lv_iload_n hx hb dX9_readClause_38 rfl (lv_at hl 0 rfl) ?_
        refine lv_bipush (v := 119) hx hb dX9_readClause_39 (by decide) ?_
        refine lv_icmp_ne (tgt := 51) hx hb dX9_readClause_41 (by decide) (fun c7 => ?_) (fun c7 => ?_)
        · replace hres := og_f c7 hres
          refine lv_aload_n hx hb dX9_readClause_51 rfl (lv_at hl 1 rfl) ?_
          refine lv_iload_n hx hb dX9_readClause_52 rfl (lv_at hl 0 rfl) ?_
          refine lv_bipush (v := 107) hx hb dX9_readClause_53 (by decide) ?_
          refine lv_icmp_ne (tgt := 62) hx hb dX9_readClause_55 (by decide) (fun c8 => ?_) (fun c8 => ?_)
          · replace hres := og_f c8 hres
            refine lv_iconst (v := 1) hx hb dX9_readClause_62 (by decide) ?_
            exact L63 1 w2 _ _ _ hP hD hS (lv_sub hl [] rfl) hres
          · replace hres := og_t c8 hres
            refine lv_iconst (v := 3) hx hb dX9_readClause_58 (by decide) ?_
            refine lv_goto (tgt := 63) hx hb dX9_readClause_59 (by decide) ?_
            exact L63 3 w2 _ _ _ hP hD hS (lv_sub hl [] rfl) hres
        · replace hres := og_t c7 hres
          refine lv_aload_n hx hb dX9_readClause_44 rfl (lv_at hl 1 rfl) ?_
          obtain ⟨r9, w10, w11, w12, w13, hc14, hres⟩ := kb5_s hres
          refine krI_V (As := []) (rest := []) (wr := []) ⟨hx, hb, hml, hown, hts⟩ hK (tX9_readBags l D κ moo mo_toldA mo_stA mo_textA mo_readA mo_aheadA mo_asideA mo_weighingsA mo_bookA mo_isKeptA mo_keptA mo_seedsA N mo_told mo_st mo_isThere mo_seed mo_text mo_typed mo_faultAt w2 mo_wrong mo_value mo_read mo_ahead mo_undoMany mo_aside mo_weighings mo_weighed mo_book mo_entries mo_isKept mo_kept mo_seeds r9 w10 w11 w12 w13 hc14) (cwV 0 hts gX9_readClause_X9_readBags rfl rfl rfl (by decide +kernel) ⟨(Nat.le_of_ble_eq_true rfl), (Nat.le_of_ble_eq_true rfl)⟩) rfl rfl rfl hP hD hS hA [0, 1, 2, 3, 4, 5, 6, 7, 8, 9, 10, 11] [] rfl rfl rfl rfl (by decide) rfl hl.1 rfl (Nat.le_of_ble_eq_true rfl) dX9_readClause_45 ⟨Nat.zero_le _, Nat.zero_le _⟩ (fun H locs hP hD hS => ?_)
          have hP : va_P D vwCl ([(moo, .inr (9, [.ref mo_toldA, .ref mo_stA, .int mo_isThere, .int mo_seed, .ref mo_textA, .int mo_typed, .int mo_faultAt, .int w10, .int w11, .int w12, .ref mo_readA, .ref mo_aheadA, .int mo_undoMany, .ref mo_asideA, .ref mo_weighingsA, .int mo_weighed, .ref mo_bookA, .int mo_entries, .ref mo_isKeptA, .ref mo_keptA, .ref mo_seedsA])), (mo_toldA, .inl (κ 0, 37, .inl mo_told)), (mo_stA, .inl (κ 0, 17, .inl mo_st)), (mo_textA, .inl (κ 0, 240, .inl mo_text)), (mo_readA, .inl (κ 0, 37, .inl w13)), (mo_aheadA, .inl (κ 0, 340, .inl mo_ahead)), (mo_asideA, .inl (κ 0, 17, .inl mo_aside)), (mo_weighingsA, .inl (κ 0, 12, .inl mo_weighings)), (mo_bookA, .inl (κ 0, 30, .inl mo_book)), (mo_isKeptA, .inl (κ 1, 2, .inl mo_isKept)), (mo_keptA, .inl (κ 0, 34, .inl mo_kept)), (mo_seedsA, .inl (κ 0, 2, .inl mo_seeds))]) H := hP
          have hD : va_D A ([(moo, .inr (9, [.ref mo_toldA, .ref mo_stA, .int mo_isThere, .int mo_seed, .ref mo_textA, .int mo_typed, .int mo_faultAt, .int w10, .int w11, .int w12, .ref mo_readA, .ref mo_aheadA, .int mo_undoMany, .ref mo_asideA, .ref mo_weighingsA, .int mo_weighed, .ref mo_bookA, .int mo_entries, .ref mo_isKeptA, .ref mo_keptA, .ref mo_seedsA])), (mo_toldA, .inl (κ 0, 37, .inl mo_told)), (mo_stA, .inl (κ 0, 17, .inl mo_st)), (mo_textA, .inl (κ 0, 240, .inl mo_text)), (mo_readA, .inl (κ 0, 37, .inl w13)), (mo_aheadA, .inl (κ 0, 340, .inl mo_ahead)), (mo_asideA, .inl (κ 0, 17, .inl mo_aside)), (mo_weighingsA, .inl (κ 0, 12, .inl mo_weighings)), (mo_bookA, .inl (κ 0, 30, .inl mo_book)), (mo_isKeptA, .inl (κ 1, 2, .inl mo_isKept)), (mo_keptA, .inl (κ 0, 34, .inl mo_kept)), (mo_seedsA, .inl (κ 0, 2, .inl mo_seeds))]) := hD
          refine lv_goto (tgt := 66) hx hb dX9_readClause_48 (by decide) ?_
          obtain ⟨g15, hres⟩ := og_no hres
          have hres := Option.some.inj hres
          have h0 := (Prod.mk.inj hres).1
          replace hres := (Prod.mk.inj hres).2
          have h1 := (Prod.mk.inj hres).1
          replace hres := (Prod.mk.inj hres).2
          have h2 := (Prod.mk.inj hres).1
          replace hres := (Prod.mk.inj hres).2
          have h3 := (Prod.mk.inj hres).1
          replace hres := (Prod.mk.inj hres).2
          have h4 := hres
          subst h0
          subst h1
          subst h2
          subst h3
          subst h4
          exact hret _ _ _ _ (kr_nz g15) hP hD hS dX9_readClause_66
      · replace hres := og_t c6 hres
        refine lv_aload_n hx hb dX9_readClause_33 rfl (lv_at hl 1 rfl) ?_
        obtain ⟨r16, w17, w18, w19, w20, hc21, hres⟩ := kb5_s hres
        refine krI_V (As := []) (rest := []) (wr := []) ⟨hx, hb, hml, hown, hts⟩ hK (tX9_readHostage l D κ moo mo_toldA mo_stA mo_textA mo_readA mo_aheadA mo_asideA mo_weighingsA mo_bookA mo_isKeptA mo_keptA mo_seedsA N mo_told mo_st mo_isThere mo_seed mo_text mo_typed mo_faultAt w2 mo_wrong mo_value mo_read mo_ahead mo_undoMany mo_aside mo_weighings mo_weighed mo_book mo_entries mo_isKept mo_kept mo_seeds r16 w17 w18 w19 w20 hc21) (cwV 0 hts gX9_readClause_X9_readHostage rfl rfl rfl (by decide +kernel) ⟨(Nat.le_of_ble_eq_true rfl), (Nat.le_of_ble_eq_true rfl)⟩) rfl rfl rfl hP hD hS hA [0, 1, 2, 3, 4, 5, 6, 7, 8, 9, 10, 11] [] rfl rfl rfl rfl (by decide) rfl hl.1 rfl (Nat.le_of_ble_eq_true rfl) dX9_readClause_34 ⟨Nat.zero_le _, Nat.zero_le _⟩ (fun H locs hP hD hS => ?_)
        have hP : va_P D vwCl ([(moo, .inr (9, [.ref mo_toldA, .ref mo_stA, .int mo_isThere, .int mo_seed, .ref mo_textA, .int mo_typed, .int mo_faultAt, .int w17, .int w18, .int w19, .ref mo_readA, .ref mo_aheadA, .int mo_undoMany, .ref mo_asideA, .ref mo_weighingsA, .int mo_weighed, .ref mo_bookA, .int mo_entries, .ref mo_isKeptA, .ref mo_keptA, .ref mo_seedsA])), (mo_toldA, .inl (κ 0, 37, .inl mo_told)), (mo_stA, .inl (κ 0, 17, .inl mo_st)), (mo_textA, .inl (κ 0, 240, .inl mo_text)), (mo_readA, .inl (κ 0, 37, .inl w20)), (mo_aheadA, .inl (κ 0, 340, .inl mo_ahead)), (mo_asideA, .inl (κ 0, 17, .inl mo_aside)), (mo_weighingsA, .inl (κ 0, 12, .inl mo_weighings)), (mo_bookA, .inl (κ 0, 30, .inl mo_book)), (mo_isKeptA, .inl (κ 1, 2, .inl mo_isKept)), (mo_keptA, .inl (κ 0, 34, .inl mo_kept)), (mo_seedsA, .inl (κ 0, 2, .inl mo_seeds))]) H := hP
        have hD : va_D A ([(moo, .inr (9, [.ref mo_toldA, .ref mo_stA, .int mo_isThere, .int mo_seed, .ref mo_textA, .int mo_typed, .int mo_faultAt, .int w17, .int w18, .int w19, .ref mo_readA, .ref mo_aheadA, .int mo_undoMany, .ref mo_asideA, .ref mo_weighingsA, .int mo_weighed, .ref mo_bookA, .int mo_entries, .ref mo_isKeptA, .ref mo_keptA, .ref mo_seedsA])), (mo_toldA, .inl (κ 0, 37, .inl mo_told)), (mo_stA, .inl (κ 0, 17, .inl mo_st)), (mo_textA, .inl (κ 0, 240, .inl mo_text)), (mo_readA, .inl (κ 0, 37, .inl w20)), (mo_aheadA, .inl (κ 0, 340, .inl mo_ahead)), (mo_asideA, .inl (κ 0, 17, .inl mo_aside)), (mo_weighingsA, .inl (κ 0, 12, .inl mo_weighings)), (mo_bookA, .inl (κ 0, 30, .inl mo_book)), (mo_isKeptA, .inl (κ 1, 2, .inl mo_isKept)), (mo_keptA, .inl (κ 0, 34, .inl mo_kept)), (mo_seedsA, .inl (κ 0, 2, .inl mo_seeds))]) := hD
        obtain ⟨g22, hres⟩ := og_no hres
        have hres := Option.some.inj hres
        have h0 := (Prod.mk.inj hres).1
        replace hres := (Prod.mk.inj hres).2
        have h1 := (Prod.mk.inj hres).1
        replace hres := (Prod.mk.inj hres).2
        have h2 := (Prod.mk.inj hres).1
        replace hres := (Prod.mk.inj hres).2
        have h3 := (Prod.mk.inj hres).1
        replace hres := (Prod.mk.inj hres).2
        have h4 := hres
        subst h0
        subst h1
        subst h2
        subst h3
        subst h4
        exact hret _ _ _ _ (kr_nz g22) hP hD hS dX9_readClause_37
    · replace hres := og_t c5 hres
      refine lv_aload_n hx hb dX9_readClause_22 rfl (lv_at hl 1 rfl) ?_
      obtain ⟨r23, w24, w25, w26, w27, hc28, hres⟩ := kb5_s hres
      refine krI_V (As := []) (rest := []) (wr := []) ⟨hx, hb, hml, hown, hts⟩ hK (tX9_readBids l D κ moo mo_toldA mo_stA mo_textA mo_readA mo_aheadA mo_asideA mo_weighingsA mo_bookA mo_isKeptA mo_keptA mo_seedsA N mo_told mo_st mo_isThere mo_seed mo_text mo_typed mo_faultAt w2 mo_wrong mo_value mo_read mo_ahead mo_undoMany mo_aside mo_weighings mo_weighed mo_book mo_entries mo_isKept mo_kept mo_seeds r23 w24 w25 w26 w27 hc28) (cwV 0 hts gX9_readClause_X9_readBids rfl rfl rfl (by decide +kernel) ⟨(Nat.le_of_ble_eq_true rfl), (Nat.le_of_ble_eq_true rfl)⟩) rfl rfl rfl hP hD hS hA [0, 1, 2, 3, 4, 5, 6, 7, 8, 9, 10, 11] [] rfl rfl rfl rfl (by decide) rfl hl.1 rfl (Nat.le_of_ble_eq_true rfl) dX9_readClause_23 ⟨Nat.zero_le _, Nat.zero_le _⟩ (fun H locs hP hD hS => ?_)
      have hP : va_P D vwCl ([(moo, .inr (9, [.ref mo_toldA, .ref mo_stA, .int mo_isThere, .int mo_seed, .ref mo_textA, .int mo_typed, .int mo_faultAt, .int w24, .int w25, .int w26, .ref mo_readA, .ref mo_aheadA, .int mo_undoMany, .ref mo_asideA, .ref mo_weighingsA, .int mo_weighed, .ref mo_bookA, .int mo_entries, .ref mo_isKeptA, .ref mo_keptA, .ref mo_seedsA])), (mo_toldA, .inl (κ 0, 37, .inl mo_told)), (mo_stA, .inl (κ 0, 17, .inl mo_st)), (mo_textA, .inl (κ 0, 240, .inl mo_text)), (mo_readA, .inl (κ 0, 37, .inl w27)), (mo_aheadA, .inl (κ 0, 340, .inl mo_ahead)), (mo_asideA, .inl (κ 0, 17, .inl mo_aside)), (mo_weighingsA, .inl (κ 0, 12, .inl mo_weighings)), (mo_bookA, .inl (κ 0, 30, .inl mo_book)), (mo_isKeptA, .inl (κ 1, 2, .inl mo_isKept)), (mo_keptA, .inl (κ 0, 34, .inl mo_kept)), (mo_seedsA, .inl (κ 0, 2, .inl mo_seeds))]) H := hP
      have hD : va_D A ([(moo, .inr (9, [.ref mo_toldA, .ref mo_stA, .int mo_isThere, .int mo_seed, .ref mo_textA, .int mo_typed, .int mo_faultAt, .int w24, .int w25, .int w26, .ref mo_readA, .ref mo_aheadA, .int mo_undoMany, .ref mo_asideA, .ref mo_weighingsA, .int mo_weighed, .ref mo_bookA, .int mo_entries, .ref mo_isKeptA, .ref mo_keptA, .ref mo_seedsA])), (mo_toldA, .inl (κ 0, 37, .inl mo_told)), (mo_stA, .inl (κ 0, 17, .inl mo_st)), (mo_textA, .inl (κ 0, 240, .inl mo_text)), (mo_readA, .inl (κ 0, 37, .inl w27)), (mo_aheadA, .inl (κ 0, 340, .inl mo_ahead)), (mo_asideA, .inl (κ 0, 17, .inl mo_aside)), (mo_weighingsA, .inl (κ 0, 12, .inl mo_weighings)), (mo_bookA, .inl (κ 0, 30, .inl mo_book)), (mo_isKeptA, .inl (κ 1, 2, .inl mo_isKept)), (mo_keptA, .inl (κ 0, 34, .inl mo_kept)), (mo_seedsA, .inl (κ 0, 2, .inl mo_seeds))]) := hD
      obtain ⟨g29, hres⟩ := og_no hres
      have hres := Option.some.inj hres
      have h0 := (Prod.mk.inj hres).1
      replace hres := (Prod.mk.inj hres).2
      have h1 := (Prod.mk.inj hres).1
      replace hres := (Prod.mk.inj hres).2
      have h2 := (Prod.mk.inj hres).1
      replace hres := (Prod.mk.inj hres).2
      have h3 := (Prod.mk.inj hres).1
      replace hres := (Prod.mk.inj hres).2
      have h4 := hres
      subst h0
      subst h1
      subst h2
      subst h3
      subst h4
      exact hret _ _ _ _ (kr_nz g29) hP hD hS dX9_readClause_26
  · replace hres := og_t c4 hres
    refine lv_aload_n hx hb dX9_readClause_11 rfl (lv_at hl 1 rfl) ?_
    obtain ⟨r30, w31, w32, w33, w34, hc35, hres⟩ := kb5_s hres
    refine krI_V (As := []) (rest := []) (wr := []) ⟨hx, hb, hml, hown, hts⟩ hK (tX9_readPayer l D κ moo mo_toldA mo_stA mo_textA mo_readA mo_aheadA mo_asideA mo_weighingsA mo_bookA mo_isKeptA mo_keptA mo_seedsA N mo_told mo_st mo_isThere mo_seed mo_text mo_typed mo_faultAt w2 mo_wrong mo_value mo_read mo_ahead mo_undoMany mo_aside mo_weighings mo_weighed mo_book mo_entries mo_isKept mo_kept mo_seeds r30 w31 w32 w33 w34 hc35) (cwV 0 hts gX9_readClause_X9_readPayer rfl rfl rfl (by decide +kernel) ⟨(Nat.le_of_ble_eq_true rfl), (Nat.le_of_ble_eq_true rfl)⟩) rfl rfl rfl hP hD hS hA [0, 1, 2, 3, 4, 5, 6, 7, 8, 9, 10, 11] [] rfl rfl rfl rfl (by decide) rfl hl.1 rfl (Nat.le_of_ble_eq_true rfl) dX9_readClause_12 ⟨Nat.zero_le _, Nat.zero_le _⟩ (fun H locs hP hD hS => ?_)
    have hP : va_P D vwCl ([(moo, .inr (9, [.ref mo_toldA, .ref mo_stA, .int mo_isThere, .int mo_seed, .ref mo_textA, .int mo_typed, .int mo_faultAt, .int w31, .int w32, .int w33, .ref mo_readA, .ref mo_aheadA, .int mo_undoMany, .ref mo_asideA, .ref mo_weighingsA, .int mo_weighed, .ref mo_bookA, .int mo_entries, .ref mo_isKeptA, .ref mo_keptA, .ref mo_seedsA])), (mo_toldA, .inl (κ 0, 37, .inl mo_told)), (mo_stA, .inl (κ 0, 17, .inl mo_st)), (mo_textA, .inl (κ 0, 240, .inl mo_text)), (mo_readA, .inl (κ 0, 37, .inl w34)), (mo_aheadA, .inl (κ 0, 340, .inl mo_ahead)), (mo_asideA, .inl (κ 0, 17, .inl mo_aside)), (mo_weighingsA, .inl (κ 0, 12, .inl mo_weighings)), (mo_bookA, .inl (κ 0, 30, .inl mo_book)), (mo_isKeptA, .inl (κ 1, 2, .inl mo_isKept)), (mo_keptA, .inl (κ 0, 34, .inl mo_kept)), (mo_seedsA, .inl (κ 0, 2, .inl mo_seeds))]) H := hP
    have hD : va_D A ([(moo, .inr (9, [.ref mo_toldA, .ref mo_stA, .int mo_isThere, .int mo_seed, .ref mo_textA, .int mo_typed, .int mo_faultAt, .int w31, .int w32, .int w33, .ref mo_readA, .ref mo_aheadA, .int mo_undoMany, .ref mo_asideA, .ref mo_weighingsA, .int mo_weighed, .ref mo_bookA, .int mo_entries, .ref mo_isKeptA, .ref mo_keptA, .ref mo_seedsA])), (mo_toldA, .inl (κ 0, 37, .inl mo_told)), (mo_stA, .inl (κ 0, 17, .inl mo_st)), (mo_textA, .inl (κ 0, 240, .inl mo_text)), (mo_readA, .inl (κ 0, 37, .inl w34)), (mo_aheadA, .inl (κ 0, 340, .inl mo_ahead)), (mo_asideA, .inl (κ 0, 17, .inl mo_aside)), (mo_weighingsA, .inl (κ 0, 12, .inl mo_weighings)), (mo_bookA, .inl (κ 0, 30, .inl mo_book)), (mo_isKeptA, .inl (κ 1, 2, .inl mo_isKept)), (mo_keptA, .inl (κ 0, 34, .inl mo_kept)), (mo_seedsA, .inl (κ 0, 2, .inl mo_seeds))]) := hD
    obtain ⟨g36, hres⟩ := og_no hres
    have hres := Option.some.inj hres
    have h0 := (Prod.mk.inj hres).1
    replace hres := (Prod.mk.inj hres).2
    have h1 := (Prod.mk.inj hres).1
    replace hres := (Prod.mk.inj hres).2
    have h2 := (Prod.mk.inj hres).1
    replace hres := (Prod.mk.inj hres).2
    have h3 := (Prod.mk.inj hres).1
    replace hres := (Prod.mk.inj hres).2
    have h4 := hres
    subst h0
    subst h1
    subst h2
    subst h3
    subst h4
    exact hret _ _ _ _ (kr_nz g36) hP hD hS dX9_readClause_15

def pX9_readText_L82 (N : Nat) (mo_text : Nat → Int32) (mo_typed : Int32) : Nat → Int32 → Int32 → Int32 → Int32 → (Nat → Int32) → Option (Int32 × Int32 × Int32 × Int32 × (Nat → Int32))
  | 0, _, _, _, _, _ => none
  | n82 + 1, v1, w_mo_place, w_mo_wrong, w_mo_value, w_mo_read =>
    (if v1 = 0 then
    if ¬ (v1 = 0 ∨ v1 = 1) then none else
    some (v1, w_mo_place, w_mo_wrong, w_mo_value, w_mo_read)
    else
    kb2 (pX9_next N mo_text mo_typed w_mo_place) fun r3 w4 =>
    (if r3 < 0 then
    if ¬ (v1 = 0 ∨ v1 = 1) then none else
    some (v1, w4, w_mo_wrong, w_mo_value, w_mo_read)
    else
    kb5 (pX9_readClause N mo_text mo_typed w4 w_mo_wrong w_mo_value w_mo_read) fun r8 w9 w10 w11 w12 =>
    pX9_readText_L82 N mo_text mo_typed n82 r8 w9 w10 w11 w12))
def pX9_readText_L81 (N : Nat) (mo_text : Nat → Int32) (mo_typed : Int32) (s0 : Int32) (w_mo_place : Int32) (w_mo_wrong : Int32) (w_mo_value : Int32) (w_mo_read : Nat → Int32) : Option (Int32 × Int32 × Int32 × Int32 × (Nat → Int32)) :=
    pX9_readText_L82 N mo_text mo_typed N s0 w_mo_place w_mo_wrong w_mo_value w_mo_read
def pX9_readText_L80 (N : Nat) (mo_text : Nat → Int32) (mo_typed : Int32) (w_mo_place : Int32) (w_mo_wrong : Int32) (w_mo_value : Int32) (w_mo_read : Nat → Int32) : Option (Int32 × Int32 × Int32 × Int32 × (Nat → Int32)) :=
    pX9_readText_L81 N mo_text mo_typed 0 w_mo_place w_mo_wrong w_mo_value w_mo_read
def pX9_readText_L7 (N : Nat) (mo_text : Nat → Int32) (mo_typed : Int32) (mo_wrong : Int32) (mo_value : Int32) : Nat → Int32 → Int32 → (Nat → Int32) → Option (Int32 × Int32 × Int32 × Int32 × (Nat → Int32))
  | 0, _, _, _ => none
  | n7 + 1, v1, w_mo_place, w_mo_read =>
    (if 37 ≤ v1 then
    kb2 (pX9_next N mo_text mo_typed w_mo_place) fun r15 w16 =>
    (if 0 ≤ r15 then
    kb3 (pX9_takes N 107 mo_text mo_typed w16 mo_wrong) fun r19 w20 w21 =>
    (if r19 = 0 then
    pX9_readText_L80 N mo_text mo_typed w20 w21 mo_value w_mo_read
    else
    kb5 (pX9_takesNumber N 1 999 0 mo_text mo_typed w20 w21 mo_value w_mo_read) fun r24 w25 w26 w27 w28 =>
    (if r24 = 0 then
    pX9_readText_L80 N mo_text mo_typed w25 w26 w27 w28
    else
    kb5 (pX9_takesNumber N 0 99 1 mo_text mo_typed w25 w26 w27 w28) fun r31 w32 w33 w34 w35 =>
    (if r31 = 0 then
    pX9_readText_L80 N mo_text mo_typed w32 w33 w34 w35
    else
    kb3 (pX9_takes N 59 mo_text mo_typed w32 w33) fun r38 w39 w40 =>
    (if r38 = 0 then
    pX9_readText_L80 N mo_text mo_typed w39 w40 w34 w35
    else
    pX9_readText_L81 N mo_text mo_typed 1 w39 w40 w34 w35))))
    else
    some (1, w16, mo_wrong, mo_value, w_mo_read))
    else
    if v1 < 0 ∨ 37 ≤ v1.toNatClampNeg then none else
    pX9_readText_L7 N mo_text mo_typed mo_wrong mo_value n7 (v1 + 1) w_mo_place (upd w_mo_read v1.toNatClampNeg 0))
def pX9_readText (N : Nat) (mo_text : Nat → Int32) (mo_typed : Int32) (mo_wrong : Int32) (mo_value : Int32) (mo_read : Nat → Int32) : Option (Int32 × Int32 × Int32 × Int32 × (Nat → Int32)) :=
    pX9_readText_L7 N mo_text mo_typed mo_wrong mo_value N 0 0 mo_read
set_option maxHeartbeats 8000000 in
set_option maxRecDepth 100000 in
theorem tX9_readText (l : Launch) (D : va_G) (κ : Nat → ClassId) (moo : Nat) (mo_toldA : Nat) (mo_stA : Nat) (mo_textA : Nat) (mo_readA : Nat) (mo_aheadA : Nat) (mo_asideA : Nat) (mo_weighingsA : Nat) (mo_bookA : Nat) (mo_isKeptA : Nat) (mo_keptA : Nat) (mo_seedsA : Nat) (N : Nat) (mo_told : Nat → Int32) (mo_st : Nat → Int32) (mo_isThere : Int32) (mo_seed : Int32) (mo_text : Nat → Int32) (mo_typed : Int32) (mo_faultAt : Int32) (mo_place : Int32) (mo_wrong : Int32) (mo_value : Int32) (mo_read : Nat → Int32) (mo_ahead : Nat → Int32) (mo_undoMany : Int32) (mo_aside : Nat → Int32) (mo_weighings : Nat → Int32) (mo_weighed : Int32) (mo_book : Nat → Int32) (mo_entries : Int32) (mo_isKept : Nat → Int32) (mo_kept : Nat → Int32) (mo_seeds : Nat → Int32) (r0 : Int32) (z_mo_place : Int32) (z_mo_wrong : Int32) (z_mo_value : Int32) (z_mo_read : Nat → Int32) (hres : pX9_readText N mo_text mo_typed mo_wrong mo_value mo_read = some (r0, z_mo_place, z_mo_wrong, z_mo_value, z_mo_read)) : krI l yX9_readText wsX9_readText { frames := 4, cells := 0, slots := 0, locals := 400 } D κ [.ref moo] ([(moo, .inr (9, [.ref mo_toldA, .ref mo_stA, .int mo_isThere, .int mo_seed, .ref mo_textA, .int mo_typed, .int mo_faultAt, .int mo_place, .int mo_wrong, .int mo_value, .ref mo_readA, .ref mo_aheadA, .int mo_undoMany, .ref mo_asideA, .ref mo_weighingsA, .int mo_weighed, .ref mo_bookA, .int mo_entries, .ref mo_isKeptA, .ref mo_keptA, .ref mo_seedsA])), (mo_toldA, .inl (κ 0, 37, .inl mo_told)), (mo_stA, .inl (κ 0, 17, .inl mo_st)), (mo_textA, .inl (κ 0, 240, .inl mo_text)), (mo_readA, .inl (κ 0, 37, .inl mo_read)), (mo_aheadA, .inl (κ 0, 340, .inl mo_ahead)), (mo_asideA, .inl (κ 0, 17, .inl mo_aside)), (mo_weighingsA, .inl (κ 0, 12, .inl mo_weighings)), (mo_bookA, .inl (κ 0, 30, .inl mo_book)), (mo_isKeptA, .inl (κ 1, 2, .inl mo_isKept)), (mo_keptA, .inl (κ 0, 34, .inl mo_kept)), (mo_seedsA, .inl (κ 0, 2, .inl mo_seeds))]) ([(moo, .inr (9, [.ref mo_toldA, .ref mo_stA, .int mo_isThere, .int mo_seed, .ref mo_textA, .int mo_typed, .int mo_faultAt, .int z_mo_place, .int z_mo_wrong, .int z_mo_value, .ref mo_readA, .ref mo_aheadA, .int mo_undoMany, .ref mo_asideA, .ref mo_weighingsA, .int mo_weighed, .ref mo_bookA, .int mo_entries, .ref mo_isKeptA, .ref mo_keptA, .ref mo_seedsA])), (mo_toldA, .inl (κ 0, 37, .inl mo_told)), (mo_stA, .inl (κ 0, 17, .inl mo_st)), (mo_textA, .inl (κ 0, 240, .inl mo_text)), (mo_readA, .inl (κ 0, 37, .inl z_mo_read)), (mo_aheadA, .inl (κ 0, 340, .inl mo_ahead)), (mo_asideA, .inl (κ 0, 17, .inl mo_aside)), (mo_weighingsA, .inl (κ 0, 12, .inl mo_weighings)), (mo_bookA, .inl (κ 0, 30, .inl mo_book)), (mo_isKeptA, .inl (κ 1, 2, .inl mo_isKept)), (mo_keptA, .inl (κ 0, 34, .inl mo_kept)), (mo_seedsA, .inl (κ 0, 2, .inl mo_seeds))]) r0 := by
  refine krI_of (cc := cX9_readText) (maxL := 2) (rt := .boolean) (by decide) rfl (Nat.le_of_ble_eq_true rfl) ?_
  intro p e s m args below meth c A Q ls hx hb hml hown hts hK hA hret hP hD hS hl
  have hown : s.vm.findClass RX9 = some m.cls := hown
  have hl : lv_has ls 2 [(0, .ref moo)] := hl
  have iw9 : ∀ w ∈ u_ws RX9 TX9 21, w ∈ wsX9_readText := (fun _ h => List.mem_cons_of_mem _ (List.mem_append_right _ h))
  have k0 : (Cond.fieldLink RX9 59 "KingRansomModel" "place" "I").before args s = true := hts _ (List.mem_of_getElem? (i := 1) rfl)
  have k1 : (Cond.fieldLink RX9 23 "KingRansomModel" "read" "[I").before args s = true := hts _ (List.mem_of_getElem? (i := 2) rfl)
  have L82 : ∀ (n82 : Nat) (v1 : Int32) (w_mo_place : Int32) (w_mo_wrong : Int32) (w_mo_value : Int32) (w_mo_read : Nat → Int32) (H : Heap) (locs : List Loc) (ls : Array Slot), va_P D vwCl ([(moo, .inr (9, [.ref mo_toldA, .ref mo_stA, .int mo_isThere, .int mo_seed, .ref mo_textA, .int mo_typed, .int mo_faultAt, .int w_mo_place, .int w_mo_wrong, .int w_mo_value, .ref mo_readA, .ref mo_aheadA, .int mo_undoMany, .ref mo_asideA, .ref mo_weighingsA, .int mo_weighed, .ref mo_bookA, .int mo_entries, .ref mo_isKeptA, .ref mo_keptA, .ref mo_seedsA])), (mo_toldA, .inl (κ 0, 37, .inl mo_told)), (mo_stA, .inl (κ 0, 17, .inl mo_st)), (mo_textA, .inl (κ 0, 240, .inl mo_text)), (mo_readA, .inl (κ 0, 37, .inl w_mo_read)), (mo_aheadA, .inl (κ 0, 340, .inl mo_ahead)), (mo_asideA, .inl (κ 0, 17, .inl mo_aside)), (mo_weighingsA, .inl (κ 0, 12, .inl mo_weighings)), (mo_bookA, .inl (κ 0, 30, .inl mo_book)), (mo_isKeptA, .inl (κ 1, 2, .inl mo_isKept)), (mo_keptA, .inl (κ 0, 34, .inl mo_kept)), (mo_seedsA, .inl (κ 0, 2, .inl mo_seeds))]) H → va_D A ([(moo, .inr (9, [.ref mo_toldA, .ref mo_stA, .int mo_isThere, .int mo_seed, .ref mo_textA, .int mo_typed, .int mo_faultAt, .int w_mo_place, .int w_mo_wrong, .int w_mo_value, .ref mo_readA, .ref mo_aheadA, .int mo_undoMany, .ref mo_asideA, .ref mo_weighingsA, .int mo_weighed, .ref mo_bookA, .int mo_entries, .ref mo_isKeptA, .ref mo_keptA, .ref mo_seedsA])), (mo_toldA, .inl (κ 0, 37, .inl mo_told)), (mo_stA, .inl (κ 0, 17, .inl mo_st)), (mo_textA, .inl (κ 0, 240, .inl mo_text)), (mo_readA, .inl (κ 0, 37, .inl w_mo_read)), (mo_aheadA, .inl (κ 0, 340, .inl mo_ahead)), (mo_asideA, .inl (κ 0, 17, .inl mo_aside)), (mo_weighingsA, .inl (κ 0, 12, .inl mo_weighings)), (mo_bookA, .inl (κ 0, 30, .inl mo_book)), (mo_isKeptA, .inl (κ 1, 2, .inl mo_isKept)), (mo_keptA, .inl (κ 0, 34, .inl mo_kept)), (mo_seedsA, .inl (κ 0, 2, .inl mo_seeds))]) → va_S A s.heap H locs → lv_has ls 2 [(0, .ref moo), (1, .int v1)] → pX9_readText_L82 N mo_text mo_typed n82 v1 w_mo_place w_mo_wrong w_mo_value w_mo_read = some (r0, z_mo_place, z_mo_wrong, z_mo_value, z_mo_read) → W p l e { frames := 4, cells := 0, slots := 0, locals := 400 } s m args below meth c H locs 0 0 Q (F0 m 82 ls []) := by
    intro n82
    induction n82 with
    | zero =>
      intro v1 w_mo_place w_mo_wrong w_mo_value w_mo_read H locs ls hP hD hS hl hres
      exact absurd (show none = some _ from hres) (by simp)
    | succ n82 ih82 =>
      intro v1 w_mo_place w_mo_wrong w_mo_value w_mo_read H locs ls hP hD hS hl hres
      rw [pX9_readText_L82] at hres
      refine lv_iload_n hx hb dX9_readText_82 rfl (lv_at hl 1 rfl) ?_
      refine lv_if_eq (tgt := 101) hx hb dX9_readText_83 (by decide) (fun c1 => ?_) (fun c1 => ?_)
      · replace hres := og_t c1 hres
        refine lv_iload_n hx hb dX9_readText_101 rfl (lv_at hl 1 rfl) ?_
        obtain ⟨g2, hres⟩ := og_no hres
        have hres := Option.some.inj hres
        have h0 := (Prod.mk.inj hres).1
        replace hres := (Prod.mk.inj hres).2
        have h1 := (Prod.mk.inj hres).1
        replace hres := (Prod.mk.inj hres).2
        have h2 := (Prod.mk.inj hres).1
        replace hres := (Prod.mk.inj hres).2
        have h3 := (Prod.mk.inj hres).1
        replace hres := (Prod.mk.inj hres).2
        have h4 := hres
        subst h0
        subst h1
        subst h2
        subst h3
        subst h4
        exact hret _ _ _ _ (kr_nz g2) hP hD hS dX9_readText_102
      · replace hres := og_f c1 hres
        refine lv_aload_n hx hb dX9_readText_86 rfl (lv_at hl 0 rfl) ?_
        obtain ⟨r3, w4, hc5, hres⟩ := kb2_s hres
        refine krI_V (As := []) (rest := []) (wr := []) ⟨hx, hb, hml, hown, hts⟩ hK (tX9_next l D κ moo mo_toldA mo_stA mo_textA mo_readA mo_aheadA mo_asideA mo_weighingsA mo_bookA mo_isKeptA mo_keptA mo_seedsA N mo_told mo_st mo_isThere mo_seed mo_text mo_typed mo_faultAt w_mo_place w_mo_wrong w_mo_value w_mo_read mo_ahead mo_undoMany mo_aside mo_weighings mo_weighed mo_book mo_entries mo_isKept mo_kept mo_seeds r3 w4 hc5) (cwV 0 hts gX9_readText_X9_next rfl rfl rfl (by decide +kernel) ⟨(Nat.le_of_ble_eq_true rfl), (Nat.le_of_ble_eq_true rfl)⟩) rfl rfl rfl hP hD hS hA [0, 1, 2, 3, 4, 5, 6, 7, 8, 9, 10, 11] [] rfl rfl rfl rfl (by decide) rfl hl.1 rfl (Nat.le_of_ble_eq_true rfl) dX9_readText_87 ⟨Nat.zero_le _, Nat.zero_le _⟩ (fun H locs hP hD hS => ?_)
        have hP : va_P D vwCl ([(moo, .inr (9, [.ref mo_toldA, .ref mo_stA, .int mo_isThere, .int mo_seed, .ref mo_textA, .int mo_typed, .int mo_faultAt, .int w4, .int w_mo_wrong, .int w_mo_value, .ref mo_readA, .ref mo_aheadA, .int mo_undoMany, .ref mo_asideA, .ref mo_weighingsA, .int mo_weighed, .ref mo_bookA, .int mo_entries, .ref mo_isKeptA, .ref mo_keptA, .ref mo_seedsA])), (mo_toldA, .inl (κ 0, 37, .inl mo_told)), (mo_stA, .inl (κ 0, 17, .inl mo_st)), (mo_textA, .inl (κ 0, 240, .inl mo_text)), (mo_readA, .inl (κ 0, 37, .inl w_mo_read)), (mo_aheadA, .inl (κ 0, 340, .inl mo_ahead)), (mo_asideA, .inl (κ 0, 17, .inl mo_aside)), (mo_weighingsA, .inl (κ 0, 12, .inl mo_weighings)), (mo_bookA, .inl (κ 0, 30, .inl mo_book)), (mo_isKeptA, .inl (κ 1, 2, .inl mo_isKept)), (mo_keptA, .inl (κ 0, 34, .inl mo_kept)), (mo_seedsA, .inl (κ 0, 2, .inl mo_seeds))]) H := hP
        have hD : va_D A ([(moo, .inr (9, [.ref mo_toldA, .ref mo_stA, .int mo_isThere, .int mo_seed, .ref mo_textA, .int mo_typed, .int mo_faultAt, .int w4, .int w_mo_wrong, .int w_mo_value, .ref mo_readA, .ref mo_aheadA, .int mo_undoMany, .ref mo_asideA, .ref mo_weighingsA, .int mo_weighed, .ref mo_bookA, .int mo_entries, .ref mo_isKeptA, .ref mo_keptA, .ref mo_seedsA])), (mo_toldA, .inl (κ 0, 37, .inl mo_told)), (mo_stA, .inl (κ 0, 17, .inl mo_st)), (mo_textA, .inl (κ 0, 240, .inl mo_text)), (mo_readA, .inl (κ 0, 37, .inl w_mo_read)), (mo_aheadA, .inl (κ 0, 340, .inl mo_ahead)), (mo_asideA, .inl (κ 0, 17, .inl mo_aside)), (mo_weighingsA, .inl (κ 0, 12, .inl mo_weighings)), (mo_bookA, .inl (κ 0, 30, .inl mo_book)), (mo_isKeptA, .inl (κ 1, 2, .inl mo_isKept)), (mo_keptA, .inl (κ 0, 34, .inl mo_kept)), (mo_seedsA, .inl (κ 0, 2, .inl mo_seeds))]) := hD
        refine lv_if_lt (tgt := 101) hx hb dX9_readText_90 (by decide) (fun c6 => ?_) (fun c6 => ?_)
        · replace hres := og_t c6 hres
          refine lv_iload_n hx hb dX9_readText_101 rfl (lv_at hl 1 rfl) ?_
          obtain ⟨g7, hres⟩ := og_no hres
          have hres := Option.some.inj hres
          have h0 := (Prod.mk.inj hres).1
          replace hres := (Prod.mk.inj hres).2
          have h1 := (Prod.mk.inj hres).1
          replace hres := (Prod.mk.inj hres).2
          have h2 := (Prod.mk.inj hres).1
          replace hres := (Prod.mk.inj hres).2
          have h3 := (Prod.mk.inj hres).1
          replace hres := (Prod.mk.inj hres).2
          have h4 := hres
          subst h0
          subst h1
          subst h2
          subst h3
          subst h4
          exact hret _ _ _ _ (kr_nz g7) hP hD hS dX9_readText_102
        · replace hres := og_f c6 hres
          refine lv_aload_n hx hb dX9_readText_93 rfl (lv_at hl 0 rfl) ?_
          obtain ⟨r8, w9, w10, w11, w12, hc13, hres⟩ := kb5_s hres
          refine krI_V (As := []) (rest := []) (wr := []) ⟨hx, hb, hml, hown, hts⟩ hK (tX9_readClause l D κ moo mo_toldA mo_stA mo_textA mo_readA mo_aheadA mo_asideA mo_weighingsA mo_bookA mo_isKeptA mo_keptA mo_seedsA N mo_told mo_st mo_isThere mo_seed mo_text mo_typed mo_faultAt w4 w_mo_wrong w_mo_value w_mo_read mo_ahead mo_undoMany mo_aside mo_weighings mo_weighed mo_book mo_entries mo_isKept mo_kept mo_seeds r8 w9 w10 w11 w12 hc13) (cwV 0 hts gX9_readText_X9_readClause rfl rfl rfl (by decide +kernel) ⟨(Nat.le_of_ble_eq_true rfl), (Nat.le_of_ble_eq_true rfl)⟩) rfl rfl rfl hP hD hS hA [0, 1, 2, 3, 4, 5, 6, 7, 8, 9, 10, 11] [] rfl rfl rfl rfl (by decide) rfl hl.1 rfl (Nat.le_of_ble_eq_true rfl) dX9_readText_94 ⟨Nat.zero_le _, Nat.zero_le _⟩ (fun H locs hP hD hS => ?_)
          have hP : va_P D vwCl ([(moo, .inr (9, [.ref mo_toldA, .ref mo_stA, .int mo_isThere, .int mo_seed, .ref mo_textA, .int mo_typed, .int mo_faultAt, .int w9, .int w10, .int w11, .ref mo_readA, .ref mo_aheadA, .int mo_undoMany, .ref mo_asideA, .ref mo_weighingsA, .int mo_weighed, .ref mo_bookA, .int mo_entries, .ref mo_isKeptA, .ref mo_keptA, .ref mo_seedsA])), (mo_toldA, .inl (κ 0, 37, .inl mo_told)), (mo_stA, .inl (κ 0, 17, .inl mo_st)), (mo_textA, .inl (κ 0, 240, .inl mo_text)), (mo_readA, .inl (κ 0, 37, .inl w12)), (mo_aheadA, .inl (κ 0, 340, .inl mo_ahead)), (mo_asideA, .inl (κ 0, 17, .inl mo_aside)), (mo_weighingsA, .inl (κ 0, 12, .inl mo_weighings)), (mo_bookA, .inl (κ 0, 30, .inl mo_book)), (mo_isKeptA, .inl (κ 1, 2, .inl mo_isKept)), (mo_keptA, .inl (κ 0, 34, .inl mo_kept)), (mo_seedsA, .inl (κ 0, 2, .inl mo_seeds))]) H := hP
          have hD : va_D A ([(moo, .inr (9, [.ref mo_toldA, .ref mo_stA, .int mo_isThere, .int mo_seed, .ref mo_textA, .int mo_typed, .int mo_faultAt, .int w9, .int w10, .int w11, .ref mo_readA, .ref mo_aheadA, .int mo_undoMany, .ref mo_asideA, .ref mo_weighingsA, .int mo_weighed, .ref mo_bookA, .int mo_entries, .ref mo_isKeptA, .ref mo_keptA, .ref mo_seedsA])), (mo_toldA, .inl (κ 0, 37, .inl mo_told)), (mo_stA, .inl (κ 0, 17, .inl mo_st)), (mo_textA, .inl (κ 0, 240, .inl mo_text)), (mo_readA, .inl (κ 0, 37, .inl w12)), (mo_aheadA, .inl (κ 0, 340, .inl mo_ahead)), (mo_asideA, .inl (κ 0, 17, .inl mo_aside)), (mo_weighingsA, .inl (κ 0, 12, .inl mo_weighings)), (mo_bookA, .inl (κ 0, 30, .inl mo_book)), (mo_isKeptA, .inl (κ 1, 2, .inl mo_isKept)), (mo_keptA, .inl (κ 0, 34, .inl mo_kept)), (mo_seedsA, .inl (κ 0, 2, .inl mo_seeds))]) := hD
          refine lv_istore_n (lv' := [(1, .int r8), (0, .ref moo)]) hx hb dX9_readText_97 rfl hl (by decide) rfl (fun ls hl => ?_)
          refine lv_goto (tgt := 82) hx hb dX9_readText_98 (by decide) ?_
          exact ih82 r8 w9 w10 w11 w12 _ _ _ hP hD hS (lv_sub hl [1, 0] rfl) hres
  have L81 : ∀ (s0 : Int32) (w_mo_place : Int32) (w_mo_wrong : Int32) (w_mo_value : Int32) (w_mo_read : Nat → Int32) (H : Heap) (locs : List Loc) (ls : Array Slot), va_P D vwCl ([(moo, .inr (9, [.ref mo_toldA, .ref mo_stA, .int mo_isThere, .int mo_seed, .ref mo_textA, .int mo_typed, .int mo_faultAt, .int w_mo_place, .int w_mo_wrong, .int w_mo_value, .ref mo_readA, .ref mo_aheadA, .int mo_undoMany, .ref mo_asideA, .ref mo_weighingsA, .int mo_weighed, .ref mo_bookA, .int mo_entries, .ref mo_isKeptA, .ref mo_keptA, .ref mo_seedsA])), (mo_toldA, .inl (κ 0, 37, .inl mo_told)), (mo_stA, .inl (κ 0, 17, .inl mo_st)), (mo_textA, .inl (κ 0, 240, .inl mo_text)), (mo_readA, .inl (κ 0, 37, .inl w_mo_read)), (mo_aheadA, .inl (κ 0, 340, .inl mo_ahead)), (mo_asideA, .inl (κ 0, 17, .inl mo_aside)), (mo_weighingsA, .inl (κ 0, 12, .inl mo_weighings)), (mo_bookA, .inl (κ 0, 30, .inl mo_book)), (mo_isKeptA, .inl (κ 1, 2, .inl mo_isKept)), (mo_keptA, .inl (κ 0, 34, .inl mo_kept)), (mo_seedsA, .inl (κ 0, 2, .inl mo_seeds))]) H → va_D A ([(moo, .inr (9, [.ref mo_toldA, .ref mo_stA, .int mo_isThere, .int mo_seed, .ref mo_textA, .int mo_typed, .int mo_faultAt, .int w_mo_place, .int w_mo_wrong, .int w_mo_value, .ref mo_readA, .ref mo_aheadA, .int mo_undoMany, .ref mo_asideA, .ref mo_weighingsA, .int mo_weighed, .ref mo_bookA, .int mo_entries, .ref mo_isKeptA, .ref mo_keptA, .ref mo_seedsA])), (mo_toldA, .inl (κ 0, 37, .inl mo_told)), (mo_stA, .inl (κ 0, 17, .inl mo_st)), (mo_textA, .inl (κ 0, 240, .inl mo_text)), (mo_readA, .inl (κ 0, 37, .inl w_mo_read)), (mo_aheadA, .inl (κ 0, 340, .inl mo_ahead)), (mo_asideA, .inl (κ 0, 17, .inl mo_aside)), (mo_weighingsA, .inl (κ 0, 12, .inl mo_weighings)), (mo_bookA, .inl (κ 0, 30, .inl mo_book)), (mo_isKeptA, .inl (κ 1, 2, .inl mo_isKept)), (mo_keptA, .inl (κ 0, 34, .inl mo_kept)), (mo_seedsA, .inl (κ 0, 2, .inl mo_seeds))]) → va_S A s.heap H locs → lv_has ls 2 [(0, .ref moo)] → pX9_readText_L81 N mo_text mo_typed s0 w_mo_place w_mo_wrong w_mo_value w_mo_read = some (r0, z_mo_place, z_mo_wrong, z_mo_value, z_mo_read) → W p l e { frames := 4, cells := 0, slots := 0, locals := 400 } s m args below meth c H locs 0 0 Q (F0 m 81 ls [.int s0]) := by
    intro s0 w_mo_place w_mo_wrong w_mo_value w_mo_read H locs ls hP hD hS hl hres
    unfold pX9_readText_L81 at hres
    refine lv_istore_n (lv' := [(1, .int s0), (0, .ref moo)]) hx hb dX9_readText_81 rfl hl (by decide) rfl (fun ls hl => ?_)
    exact L82 N s0 w_mo_place w_mo_wrong w_mo_value w_mo_read _ _ _ hP hD hS (lv_sub hl [1, 0] rfl) hres
  have L80 : ∀ (w_mo_place : Int32) (w_mo_wrong : Int32) (w_mo_value : Int32) (w_mo_read : Nat → Int32) (H : Heap) (locs : List Loc) (ls : Array Slot), va_P D vwCl ([(moo, .inr (9, [.ref mo_toldA, .ref mo_stA, .int mo_isThere, .int mo_seed, .ref mo_textA, .int mo_typed, .int mo_faultAt, .int w_mo_place, .int w_mo_wrong, .int w_mo_value, .ref mo_readA, .ref mo_aheadA, .int mo_undoMany, .ref mo_asideA, .ref mo_weighingsA, .int mo_weighed, .ref mo_bookA, .int mo_entries, .ref mo_isKeptA, .ref mo_keptA, .ref mo_seedsA])), (mo_toldA, .inl (κ 0, 37, .inl mo_told)), (mo_stA, .inl (κ 0, 17, .inl mo_st)), (mo_textA, .inl (κ 0, 240, .inl mo_text)), (mo_readA, .inl (κ 0, 37, .inl w_mo_read)), (mo_aheadA, .inl (κ 0, 340, .inl mo_ahead)), (mo_asideA, .inl (κ 0, 17, .inl mo_aside)), (mo_weighingsA, .inl (κ 0, 12, .inl mo_weighings)), (mo_bookA, .inl (κ 0, 30, .inl mo_book)), (mo_isKeptA, .inl (κ 1, 2, .inl mo_isKept)), (mo_keptA, .inl (κ 0, 34, .inl mo_kept)), (mo_seedsA, .inl (κ 0, 2, .inl mo_seeds))]) H → va_D A ([(moo, .inr (9, [.ref mo_toldA, .ref mo_stA, .int mo_isThere, .int mo_seed, .ref mo_textA, .int mo_typed, .int mo_faultAt, .int w_mo_place, .int w_mo_wrong, .int w_mo_value, .ref mo_readA, .ref mo_aheadA, .int mo_undoMany, .ref mo_asideA, .ref mo_weighingsA, .int mo_weighed, .ref mo_bookA, .int mo_entries, .ref mo_isKeptA, .ref mo_keptA, .ref mo_seedsA])), (mo_toldA, .inl (κ 0, 37, .inl mo_told)), (mo_stA, .inl (κ 0, 17, .inl mo_st)), (mo_textA, .inl (κ 0, 240, .inl mo_text)), (mo_readA, .inl (κ 0, 37, .inl w_mo_read)), (mo_aheadA, .inl (κ 0, 340, .inl mo_ahead)), (mo_asideA, .inl (κ 0, 17, .inl mo_aside)), (mo_weighingsA, .inl (κ 0, 12, .inl mo_weighings)), (mo_bookA, .inl (κ 0, 30, .inl mo_book)), (mo_isKeptA, .inl (κ 1, 2, .inl mo_isKept)), (mo_keptA, .inl (κ 0, 34, .inl mo_kept)), (mo_seedsA, .inl (κ 0, 2, .inl mo_seeds))]) → va_S A s.heap H locs → lv_has ls 2 [(0, .ref moo)] → pX9_readText_L80 N mo_text mo_typed w_mo_place w_mo_wrong w_mo_value w_mo_read = some (r0, z_mo_place, z_mo_wrong, z_mo_value, z_mo_read) → W p l e { frames := 4, cells := 0, slots := 0, locals := 400 } s m args below meth c H locs 0 0 Q (F0 m 80 ls []) := by
    intro w_mo_place w_mo_wrong w_mo_value w_mo_read H locs ls hP hD hS hl hres
    unfold pX9_readText_L80 at hres
    refine lv_iconst (v := 0) hx hb dX9_readText_80 (by decide) ?_
    exact L81 0 w_mo_place w_mo_wrong w_mo_value w_mo_read _ _ _ hP hD hS (lv_sub hl [0] rfl) hres
  have L7 : ∀ (n7 : Nat) (v1 : Int32) (w_mo_place : Int32) (w_mo_read : Nat → Int32) (H : Heap) (locs : List Loc) (ls : Array Slot), va_P D vwCl ([(moo, .inr (9, [.ref mo_toldA, .ref mo_stA, .int mo_isThere, .int mo_seed, .ref mo_textA, .int mo_typed, .int mo_faultAt, .int w_mo_place, .int mo_wrong, .int mo_value, .ref mo_readA, .ref mo_aheadA, .int mo_undoMany, .ref mo_asideA, .ref mo_weighingsA, .int mo_weighed, .ref mo_bookA, .int mo_entries, .ref mo_isKeptA, .ref mo_keptA, .ref mo_seedsA])), (mo_toldA, .inl (κ 0, 37, .inl mo_told)), (mo_stA, .inl (κ 0, 17, .inl mo_st)), (mo_textA, .inl (κ 0, 240, .inl mo_text)), (mo_readA, .inl (κ 0, 37, .inl w_mo_read)), (mo_aheadA, .inl (κ 0, 340, .inl mo_ahead)), (mo_asideA, .inl (κ 0, 17, .inl mo_aside)), (mo_weighingsA, .inl (κ 0, 12, .inl mo_weighings)), (mo_bookA, .inl (κ 0, 30, .inl mo_book)), (mo_isKeptA, .inl (κ 1, 2, .inl mo_isKept)), (mo_keptA, .inl (κ 0, 34, .inl mo_kept)), (mo_seedsA, .inl (κ 0, 2, .inl mo_seeds))]) H → va_D A ([(moo, .inr (9, [.ref mo_toldA, .ref mo_stA, .int mo_isThere, .int mo_seed, .ref mo_textA, .int mo_typed, .int mo_faultAt, .int w_mo_place, .int mo_wrong, .int mo_value, .ref mo_readA, .ref mo_aheadA, .int mo_undoMany, .ref mo_asideA, .ref mo_weighingsA, .int mo_weighed, .ref mo_bookA, .int mo_entries, .ref mo_isKeptA, .ref mo_keptA, .ref mo_seedsA])), (mo_toldA, .inl (κ 0, 37, .inl mo_told)), (mo_stA, .inl (κ 0, 17, .inl mo_st)), (mo_textA, .inl (κ 0, 240, .inl mo_text)), (mo_readA, .inl (κ 0, 37, .inl w_mo_read)), (mo_aheadA, .inl (κ 0, 340, .inl mo_ahead)), (mo_asideA, .inl (κ 0, 17, .inl mo_aside)), (mo_weighingsA, .inl (κ 0, 12, .inl mo_weighings)), (mo_bookA, .inl (κ 0, 30, .inl mo_book)), (mo_isKeptA, .inl (κ 1, 2, .inl mo_isKept)), (mo_keptA, .inl (κ 0, 34, .inl mo_kept)), (mo_seedsA, .inl (κ 0, 2, .inl mo_seeds))]) → va_S A s.heap H locs → lv_has ls 2 [(0, .ref moo), (1, .int v1)] → pX9_readText_L7 N mo_text mo_typed mo_wrong mo_value n7 v1 w_mo_place w_mo_read = some (r0, z_mo_place, z_mo_wrong, z_mo_value, z_mo_read) → W p l e { frames := 4, cells := 0, slots := 0, locals := 400 } s m args below meth c H locs 0 0 Q (F0 m 7 ls []) := by
    intro n7
    induction n7 with
    | zero =>
      intro v1 w_mo_place w_mo_read H locs ls hP hD hS hl hres
      exact absurd (show none = some _ from hres) (by simp)
    | succ n7 ih7 =>
      intro v1 w_mo_place w_mo_read H locs ls hP hD hS hl hres
      rw [pX9_readText_L7] at hres
      refine lv_iload_n hx hb dX9_readText_7 rfl (lv_at hl 1 rfl) ?_
      refine lv_bipush (v := 37) hx hb dX9_readText_8 (by decide) ?_
      refine lv_icmp_ge (tgt := 26) hx hb dX9_readText_10 (by decide) (fun c14 => ?_) (fun c14 => ?_)
      · replace hres := og_t c14 hres
        refine lv_aload_n hx hb dX9_readText_26 rfl (lv_at hl 0 rfl) ?_
        obtain ⟨r15, w16, hc17, hres⟩ := kb2_s hres
        refine krI_V (As := []) (rest := []) (wr := []) ⟨hx, hb, hml, hown, hts⟩ hK (tX9_next l D κ moo mo_toldA mo_stA mo_textA mo_readA mo_aheadA mo_asideA mo_weighingsA mo_bookA mo_isKeptA mo_keptA mo_seedsA N mo_told mo_st mo_isThere mo_seed mo_text mo_typed mo_faultAt w_mo_place mo_wrong mo_value w_mo_read mo_ahead mo_undoMany mo_aside mo_weighings mo_weighed mo_book mo_entries mo_isKept mo_kept mo_seeds r15 w16 hc17) (cwV 0 hts gX9_readText_X9_next rfl rfl rfl (by decide +kernel) ⟨(Nat.le_of_ble_eq_true rfl), (Nat.le_of_ble_eq_true rfl)⟩) rfl rfl rfl hP hD hS hA [0, 1, 2, 3, 4, 5, 6, 7, 8, 9, 10, 11] [] rfl rfl rfl rfl (by decide) rfl hl.1 rfl (Nat.le_of_ble_eq_true rfl) dX9_readText_27 ⟨Nat.zero_le _, Nat.zero_le _⟩ (fun H locs hP hD hS => ?_)
        have hP : va_P D vwCl ([(moo, .inr (9, [.ref mo_toldA, .ref mo_stA, .int mo_isThere, .int mo_seed, .ref mo_textA, .int mo_typed, .int mo_faultAt, .int w16, .int mo_wrong, .int mo_value, .ref mo_readA, .ref mo_aheadA, .int mo_undoMany, .ref mo_asideA, .ref mo_weighingsA, .int mo_weighed, .ref mo_bookA, .int mo_entries, .ref mo_isKeptA, .ref mo_keptA, .ref mo_seedsA])), (mo_toldA, .inl (κ 0, 37, .inl mo_told)), (mo_stA, .inl (κ 0, 17, .inl mo_st)), (mo_textA, .inl (κ 0, 240, .inl mo_text)), (mo_readA, .inl (κ 0, 37, .inl w_mo_read)), (mo_aheadA, .inl (κ 0, 340, .inl mo_ahead)), (mo_asideA, .inl (κ 0, 17, .inl mo_aside)), (mo_weighingsA, .inl (κ 0, 12, .inl mo_weighings)), (mo_bookA, .inl (κ 0, 30, .inl mo_book)), (mo_isKeptA, .inl (κ 1, 2, .inl mo_isKept)), (mo_keptA, .inl (κ 0, 34, .inl mo_kept)), (mo_seedsA, .inl (κ 0, 2, .inl mo_seeds))]) H := hP
        have hD : va_D A ([(moo, .inr (9, [.ref mo_toldA, .ref mo_stA, .int mo_isThere, .int mo_seed, .ref mo_textA, .int mo_typed, .int mo_faultAt, .int w16, .int mo_wrong, .int mo_value, .ref mo_readA, .ref mo_aheadA, .int mo_undoMany, .ref mo_asideA, .ref mo_weighingsA, .int mo_weighed, .ref mo_bookA, .int mo_entries, .ref mo_isKeptA, .ref mo_keptA, .ref mo_seedsA])), (mo_toldA, .inl (κ 0, 37, .inl mo_told)), (mo_stA, .inl (κ 0, 17, .inl mo_st)), (mo_textA, .inl (κ 0, 240, .inl mo_text)), (mo_readA, .inl (κ 0, 37, .inl w_mo_read)), (mo_aheadA, .inl (κ 0, 340, .inl mo_ahead)), (mo_asideA, .inl (κ 0, 17, .inl mo_aside)), (mo_weighingsA, .inl (κ 0, 12, .inl mo_weighings)), (mo_bookA, .inl (κ 0, 30, .inl mo_book)), (mo_isKeptA, .inl (κ 1, 2, .inl mo_isKept)), (mo_keptA, .inl (κ 0, 34, .inl mo_kept)), (mo_seedsA, .inl (κ 0, 2, .inl mo_seeds))]) := hD
        refine lv_if_ge (tgt := 35) hx hb dX9_readText_30 (by decide) (fun c18 => ?_) (fun c18 => ?_)
        · replace hres := og_t c18 hres
          refine lv_aload_n hx hb dX9_readText_35 rfl (lv_at hl 0 rfl) ?_
          refine lv_bipush (v := 107) hx hb dX9_readText_36 (by decide) ?_
          obtain ⟨r19, w20, w21, hc22, hres⟩ := kb3_s hres
          refine krI_V (As := [.int 107]) (rest := []) (wr := []) ⟨hx, hb, hml, hown, hts⟩ hK (tX9_takes l D κ moo mo_toldA mo_stA mo_textA mo_readA mo_aheadA mo_asideA mo_weighingsA mo_bookA mo_isKeptA mo_keptA mo_seedsA N mo_told mo_st mo_isThere mo_seed mo_text mo_typed mo_faultAt w16 mo_wrong mo_value w_mo_read mo_ahead mo_undoMany mo_aside mo_weighings mo_weighed mo_book mo_entries mo_isKept mo_kept mo_seeds 107 r19 w20 w21 hc22) (cwV 1 hts gX9_readText_X9_takes rfl rfl rfl (by decide +kernel) ⟨(Nat.le_of_ble_eq_true rfl), (Nat.le_of_ble_eq_true rfl)⟩) rfl rfl rfl hP hD hS hA [0, 1, 2, 3, 4, 5, 6, 7, 8, 9, 10, 11] [] rfl rfl rfl rfl (by decide) rfl hl.1 rfl (Nat.le_of_ble_eq_true rfl) dX9_readText_38 ⟨Nat.zero_le _, Nat.zero_le _⟩ (fun H locs hP hD hS => ?_)
          have hP : va_P D vwCl ([(moo, .inr (9, [.ref mo_toldA, .ref mo_stA, .int mo_isThere, .int mo_seed, .ref mo_textA, .int mo_typed, .int mo_faultAt, .int w20, .int w21, .int mo_value, .ref mo_readA, .ref mo_aheadA, .int mo_undoMany, .ref mo_asideA, .ref mo_weighingsA, .int mo_weighed, .ref mo_bookA, .int mo_entries, .ref mo_isKeptA, .ref mo_keptA, .ref mo_seedsA])), (mo_toldA, .inl (κ 0, 37, .inl mo_told)), (mo_stA, .inl (κ 0, 17, .inl mo_st)), (mo_textA, .inl (κ 0, 240, .inl mo_text)), (mo_readA, .inl (κ 0, 37, .inl w_mo_read)), (mo_aheadA, .inl (κ 0, 340, .inl mo_ahead)), (mo_asideA, .inl (κ 0, 17, .inl mo_aside)), (mo_weighingsA, .inl (κ 0, 12, .inl mo_weighings)), (mo_bookA, .inl (κ 0, 30, .inl mo_book)), (mo_isKeptA, .inl (κ 1, 2, .inl mo_isKept)), (mo_keptA, .inl (κ 0, 34, .inl mo_kept)), (mo_seedsA, .inl (κ 0, 2, .inl mo_seeds))]) H := hP
          have hD : va_D A ([(moo, .inr (9, [.ref mo_toldA, .ref mo_stA, .int mo_isThere, .int mo_seed, .ref mo_textA, .int mo_typed, .int mo_faultAt, .int w20, .int w21, .int mo_value, .ref mo_readA, .ref mo_aheadA, .int mo_undoMany, .ref mo_asideA, .ref mo_weighingsA, .int mo_weighed, .ref mo_bookA, .int mo_entries, .ref mo_isKeptA, .ref mo_keptA, .ref mo_seedsA])), (mo_toldA, .inl (κ 0, 37, .inl mo_told)), (mo_stA, .inl (κ 0, 17, .inl mo_st)), (mo_textA, .inl (κ 0, 240, .inl mo_text)), (mo_readA, .inl (κ 0, 37, .inl w_mo_read)), (mo_aheadA, .inl (κ 0, 340, .inl mo_ahead)), (mo_asideA, .inl (κ 0, 17, .inl mo_aside)), (mo_weighingsA, .inl (κ 0, 12, .inl mo_weighings)), (mo_bookA, .inl (κ 0, 30, .inl mo_book)), (mo_isKeptA, .inl (κ 1, 2, .inl mo_isKept)), (mo_keptA, .inl (κ 0, 34, .inl mo_kept)), (mo_seedsA, .inl (κ 0, 2, .inl mo_seeds))]) := hD
          refine lv_if_eq (tgt := 80) hx hb dX9_readText_41 (by decide) (fun c23 => ?_) (fun c23 => ?_)
          · replace hres := og_t c23 hres
            exact L80 w20 w21 mo_value w_mo_read _ _ _ hP hD hS (lv_sub hl [0] rfl) hres
          · replace hres := og_f c23 hres
            refine lv_aload_n hx hb dX9_readText_44 rfl (lv_at hl 0 rfl) ?_
            refine lv_iconst (v := 1) hx hb dX9_readText_45 (by decide) ?_
            refine lv_sipush (v := 999) hx hb dX9_readText_46 (by decide) ?_
            refine lv_iconst (v := 0) hx hb dX9_readText_49 (by decide) ?_
            obtain ⟨r24, w25, w26, w27, w28, hc29, hres⟩ := kb5_s hres
            refine krI_V (As := [.int 1, .int 999, .int 0]) (rest := []) (wr := []) ⟨hx, hb, hml, hown, hts⟩ hK (tX9_takesNumber l D κ moo mo_toldA mo_stA mo_textA mo_readA mo_aheadA mo_asideA mo_weighingsA mo_bookA mo_isKeptA mo_keptA mo_seedsA N mo_told mo_st mo_isThere mo_seed mo_text mo_typed mo_faultAt w20 w21 mo_value w_mo_read mo_ahead mo_undoMany mo_aside mo_weighings mo_weighed mo_book mo_entries mo_isKept mo_kept mo_seeds 1 999 0 r24 w25 w26 w27 w28 hc29) (cwV 3 hts gX9_readText_X9_takesNumber rfl rfl rfl (by decide +kernel) ⟨(Nat.le_of_ble_eq_true rfl), (Nat.le_of_ble_eq_true rfl)⟩) rfl rfl rfl hP hD hS hA [0, 1, 2, 3, 4, 5, 6, 7, 8, 9, 10, 11] [] rfl rfl rfl rfl (by decide) rfl hl.1 rfl (Nat.le_of_ble_eq_true rfl) dX9_readText_50 ⟨Nat.zero_le _, Nat.zero_le _⟩ (fun H locs hP hD hS => ?_)
            have hP : va_P D vwCl ([(moo, .inr (9, [.ref mo_toldA, .ref mo_stA, .int mo_isThere, .int mo_seed, .ref mo_textA, .int mo_typed, .int mo_faultAt, .int w25, .int w26, .int w27, .ref mo_readA, .ref mo_aheadA, .int mo_undoMany, .ref mo_asideA, .ref mo_weighingsA, .int mo_weighed, .ref mo_bookA, .int mo_entries, .ref mo_isKeptA, .ref mo_keptA, .ref mo_seedsA])), (mo_toldA, .inl (κ 0, 37, .inl mo_told)), (mo_stA, .inl (κ 0, 17, .inl mo_st)), (mo_textA, .inl (κ 0, 240, .inl mo_text)), (mo_readA, .inl (κ 0, 37, .inl w28)), (mo_aheadA, .inl (κ 0, 340, .inl mo_ahead)), (mo_asideA, .inl (κ 0, 17, .inl mo_aside)), (mo_weighingsA, .inl (κ 0, 12, .inl mo_weighings)), (mo_bookA, .inl (κ 0, 30, .inl mo_book)), (mo_isKeptA, .inl (κ 1, 2, .inl mo_isKept)), (mo_keptA, .inl (κ 0, 34, .inl mo_kept)), (mo_seedsA, .inl (κ 0, 2, .inl mo_seeds))]) H := hP
            have hD : va_D A ([(moo, .inr (9, [.ref mo_toldA, .ref mo_stA, .int mo_isThere, .int mo_seed, .ref mo_textA, .int mo_typed, .int mo_faultAt, .int w25, .int w26, .int w27, .ref mo_readA, .ref mo_aheadA, .int mo_undoMany, .ref mo_asideA, .ref mo_weighingsA, .int mo_weighed, .ref mo_bookA, .int mo_entries, .ref mo_isKeptA, .ref mo_keptA, .ref mo_seedsA])), (mo_toldA, .inl (κ 0, 37, .inl mo_told)), (mo_stA, .inl (κ 0, 17, .inl mo_st)), (mo_textA, .inl (κ 0, 240, .inl mo_text)), (mo_readA, .inl (κ 0, 37, .inl w28)), (mo_aheadA, .inl (κ 0, 340, .inl mo_ahead)), (mo_asideA, .inl (κ 0, 17, .inl mo_aside)), (mo_weighingsA, .inl (κ 0, 12, .inl mo_weighings)), (mo_bookA, .inl (κ 0, 30, .inl mo_book)), (mo_isKeptA, .inl (κ 1, 2, .inl mo_isKept)), (mo_keptA, .inl (κ 0, 34, .inl mo_kept)), (mo_seedsA, .inl (κ 0, 2, .inl mo_seeds))]) := hD
            refine lv_if_eq (tgt := 80) hx hb dX9_readText_53 (by decide) (fun c30 => ?_) (fun c30 => ?_)
            · replace hres := og_t c30 hres
              exact L80 w25 w26 w27 w28 _ _ _ hP hD hS (lv_sub hl [0] rfl) hres
            · replace hres := og_f c30 hres
              refine lv_aload_n hx hb dX9_readText_56 rfl (lv_at hl 0 rfl) ?_
              refine lv_iconst (v := 0) hx hb dX9_readText_57 (by decide) ?_
              refine lv_bipush (v := 99) hx hb dX9_readText_58 (by decide) ?_
              refine lv_iconst (v := 1) hx hb dX9_readText_60 (by decide) ?_
              obtain ⟨r31, w32, w33, w34, w35, hc36, hres⟩ := kb5_s hres
              refine krI_V (As := [.int 0, .int 99, .int 1]) (rest := []) (wr := []) ⟨hx, hb, hml, hown, hts⟩ hK (tX9_takesNumber l D κ moo mo_toldA mo_stA mo_textA mo_readA mo_aheadA mo_asideA mo_weighingsA mo_bookA mo_isKeptA mo_keptA mo_seedsA N mo_told mo_st mo_isThere mo_seed mo_text mo_typed mo_faultAt w25 w26 w27 w28 mo_ahead mo_undoMany mo_aside mo_weighings mo_weighed mo_book mo_entries mo_isKept mo_kept mo_seeds 0 99 1 r31 w32 w33 w34 w35 hc36) (cwV 3 hts gX9_readText_X9_takesNumber rfl rfl rfl (by decide +kernel) ⟨(Nat.le_of_ble_eq_true rfl), (Nat.le_of_ble_eq_true rfl)⟩) rfl rfl rfl hP hD hS hA [0, 1, 2, 3, 4, 5, 6, 7, 8, 9, 10, 11] [] rfl rfl rfl rfl (by decide) rfl hl.1 rfl (Nat.le_of_ble_eq_true rfl) dX9_readText_61 ⟨Nat.zero_le _, Nat.zero_le _⟩ (fun H locs hP hD hS => ?_)
              have hP : va_P D vwCl ([(moo, .inr (9, [.ref mo_toldA, .ref mo_stA, .int mo_isThere, .int mo_seed, .ref mo_textA, .int mo_typed, .int mo_faultAt, .int w32, .int w33, .int w34, .ref mo_readA, .ref mo_aheadA, .int mo_undoMany, .ref mo_asideA, .ref mo_weighingsA, .int mo_weighed, .ref mo_bookA, .int mo_entries, .ref mo_isKeptA, .ref mo_keptA, .ref mo_seedsA])), (mo_toldA, .inl (κ 0, 37, .inl mo_told)), (mo_stA, .inl (κ 0, 17, .inl mo_st)), (mo_textA, .inl (κ 0, 240, .inl mo_text)), (mo_readA, .inl (κ 0, 37, .inl w35)), (mo_aheadA, .inl (κ 0, 340, .inl mo_ahead)), (mo_asideA, .inl (κ 0, 17, .inl mo_aside)), (mo_weighingsA, .inl (κ 0, 12, .inl mo_weighings)), (mo_bookA, .inl (κ 0, 30, .inl mo_book)), (mo_isKeptA, .inl (κ 1, 2, .inl mo_isKept)), (mo_keptA, .inl (κ 0, 34, .inl mo_kept)), (mo_seedsA, .inl (κ 0, 2, .inl mo_seeds))]) H := hP
              have hD : va_D A ([(moo, .inr (9, [.ref mo_toldA, .ref mo_stA, .int mo_isThere, .int mo_seed, .ref mo_textA, .int mo_typed, .int mo_faultAt, .int w32, .int w33, .int w34, .ref mo_readA, .ref mo_aheadA, .int mo_undoMany, .ref mo_asideA, .ref mo_weighingsA, .int mo_weighed, .ref mo_bookA, .int mo_entries, .ref mo_isKeptA, .ref mo_keptA, .ref mo_seedsA])), (mo_toldA, .inl (κ 0, 37, .inl mo_told)), (mo_stA, .inl (κ 0, 17, .inl mo_st)), (mo_textA, .inl (κ 0, 240, .inl mo_text)), (mo_readA, .inl (κ 0, 37, .inl w35)), (mo_aheadA, .inl (κ 0, 340, .inl mo_ahead)), (mo_asideA, .inl (κ 0, 17, .inl mo_aside)), (mo_weighingsA, .inl (κ 0, 12, .inl mo_weighings)), (mo_bookA, .inl (κ 0, 30, .inl mo_book)), (mo_isKeptA, .inl (κ 1, 2, .inl mo_isKept)), (mo_keptA, .inl (κ 0, 34, .inl mo_kept)), (mo_seedsA, .inl (κ 0, 2, .inl mo_seeds))]) := hD
              refine lv_if_eq (tgt := 80) hx hb dX9_readText_64 (by decide) (fun c37 => ?_) (fun c37 => ?_)
              · replace hres := og_t c37 hres
                exact L80 w32 w33 w34 w35 _ _ _ hP hD hS (lv_sub hl [0] rfl) hres
              · replace hres := og_f c37 hres
                refine lv_aload_n hx hb dX9_readText_67 rfl (lv_at hl 0 rfl) ?_
                refine lv_bipush (v := 59) hx hb dX9_readText_68 (by decide) ?_
                obtain ⟨r38, w39, w40, hc41, hres⟩ := kb3_s hres
                refine krI_V (As := [.int 59]) (rest := []) (wr := []) ⟨hx, hb, hml, hown, hts⟩ hK (tX9_takes l D κ moo mo_toldA mo_stA mo_textA mo_readA mo_aheadA mo_asideA mo_weighingsA mo_bookA mo_isKeptA mo_keptA mo_seedsA N mo_told mo_st mo_isThere mo_seed mo_text mo_typed mo_faultAt w32 w33 w34 w35 mo_ahead mo_undoMany mo_aside mo_weighings mo_weighed mo_book mo_entries mo_isKept mo_kept mo_seeds 59 r38 w39 w40 hc41) (cwV 1 hts gX9_readText_X9_takes rfl rfl rfl (by decide +kernel) ⟨(Nat.le_of_ble_eq_true rfl), (Nat.le_of_ble_eq_true rfl)⟩) rfl rfl rfl hP hD hS hA [0, 1, 2, 3, 4, 5, 6, 7, 8, 9, 10, 11] [] rfl rfl rfl rfl (by decide) rfl hl.1 rfl (Nat.le_of_ble_eq_true rfl) dX9_readText_70 ⟨Nat.zero_le _, Nat.zero_le _⟩ (fun H locs hP hD hS => ?_)
                have hP : va_P D vwCl ([(moo, .inr (9, [.ref mo_toldA, .ref mo_stA, .int mo_isThere, .int mo_seed, .ref mo_textA, .int mo_typed, .int mo_faultAt, .int w39, .int w40, .int w34, .ref mo_readA, .ref mo_aheadA, .int mo_undoMany, .ref mo_asideA, .ref mo_weighingsA, .int mo_weighed, .ref mo_bookA, .int mo_entries, .ref mo_isKeptA, .ref mo_keptA, .ref mo_seedsA])), (mo_toldA, .inl (κ 0, 37, .inl mo_told)), (mo_stA, .inl (κ 0, 17, .inl mo_st)), (mo_textA, .inl (κ 0, 240, .inl mo_text)), (mo_readA, .inl (κ 0, 37, .inl w35)), (mo_aheadA, .inl (κ 0, 340, .inl mo_ahead)), (mo_asideA, .inl (κ 0, 17, .inl mo_aside)), (mo_weighingsA, .inl (κ 0, 12, .inl mo_weighings)), (mo_bookA, .inl (κ 0, 30, .inl mo_book)), (mo_isKeptA, .inl (κ 1, 2, .inl mo_isKept)), (mo_keptA, .inl (κ 0, 34, .inl mo_kept)), (mo_seedsA, .inl (κ 0, 2, .inl mo_seeds))]) H := hP
                have hD : va_D A ([(moo, .inr (9, [.ref mo_toldA, .ref mo_stA, .int mo_isThere, .int mo_seed, .ref mo_textA, .int mo_typed, .int mo_faultAt, .int w39, .int w40, .int w34, .ref mo_readA, .ref mo_aheadA, .int mo_undoMany, .ref mo_asideA, .ref mo_weighingsA, .int mo_weighed, .ref mo_bookA, .int mo_entries, .ref mo_isKeptA, .ref mo_keptA, .ref mo_seedsA])), (mo_toldA, .inl (κ 0, 37, .inl mo_told)), (mo_stA, .inl (κ 0, 17, .inl mo_st)), (mo_textA, .inl (κ 0, 240, .inl mo_text)), (mo_readA, .inl (κ 0, 37, .inl w35)), (mo_aheadA, .inl (κ 0, 340, .inl mo_ahead)), (mo_asideA, .inl (κ 0, 17, .inl mo_aside)), (mo_weighingsA, .inl (κ 0, 12, .inl mo_weighings)), (mo_bookA, .inl (κ 0, 30, .inl mo_book)), (mo_isKeptA, .inl (κ 1, 2, .inl mo_isKept)), (mo_keptA, .inl (κ 0, 34, .inl mo_kept)), (mo_seedsA, .inl (κ 0, 2, .inl mo_seeds))]) := hD
                refine lv_if_eq (tgt := 80) hx hb dX9_readText_73 (by decide) (fun c42 => ?_) (fun c42 => ?_)
                · replace hres := og_t c42 hres
                  exact L80 w39 w40 w34 w35 _ _ _ hP hD hS (lv_sub hl [0] rfl) hres
                · replace hres := og_f c42 hres
                  refine lv_iconst (v := 1) hx hb dX9_readText_76 (by decide) ?_
                  refine lv_goto (tgt := 81) hx hb dX9_readText_77 (by decide) ?_
                  exact L81 1 w39 w40 w34 w35 _ _ _ hP hD hS (lv_sub hl [0] rfl) hres
        · replace hres := og_f c18 hres
          refine lv_iconst (v := 1) hx hb dX9_readText_33 (by decide) ?_
          have hres := Option.some.inj hres
          have h0 := (Prod.mk.inj hres).1
          replace hres := (Prod.mk.inj hres).2
          have h1 := (Prod.mk.inj hres).1
          replace hres := (Prod.mk.inj hres).2
          have h2 := (Prod.mk.inj hres).1
          replace hres := (Prod.mk.inj hres).2
          have h3 := (Prod.mk.inj hres).1
          replace hres := (Prod.mk.inj hres).2
          have h4 := hres
          subst h0
          subst h1
          subst h2
          subst h3
          subst h4
          exact hret _ _ _ _ (by decide) hP hD hS dX9_readText_34
      · replace hres := og_f c14 hres
        refine lv_aload_n hx hb dX9_readText_13 rfl (lv_at hl 0 rfl) ?_
        refine va_get (D := D) (ci := 9) (v := .ref mo_readA) (C := RX9) (T := TX9) (N := 21) hx hb hts iw9 hown hK.1 hP 0 rfl rfl 10 (by decide) k1 (fun _ h9 => h9) rfl dX9_readText_14 ?_
        refine lv_iload_n hx hb dX9_readText_17 rfl (lv_at hl 1 rfl) ?_
        refine lv_iconst (v := 0) hx hb dX9_readText_18 (by decide) ?_
        obtain ⟨g43, hres⟩ := og_no hres
        refine kr_iast (f := w_mo_read) (j := v1.toNatClampNeg) (x := 0) hx hb hK hP hD hS 4 rfl g43 rfl dX9_readText_19 (fun H locs hP hD hS => ?_)
        have hP : va_P D vwCl ([(moo, .inr (9, [.ref mo_toldA, .ref mo_stA, .int mo_isThere, .int mo_seed, .ref mo_textA, .int mo_typed, .int mo_faultAt, .int w_mo_place, .int mo_wrong, .int mo_value, .ref mo_readA, .ref mo_aheadA, .int mo_undoMany, .ref mo_asideA, .ref mo_weighingsA, .int mo_weighed, .ref mo_bookA, .int mo_entries, .ref mo_isKeptA, .ref mo_keptA, .ref mo_seedsA])), (mo_toldA, .inl (κ 0, 37, .inl mo_told)), (mo_stA, .inl (κ 0, 17, .inl mo_st)), (mo_textA, .inl (κ 0, 240, .inl mo_text)), (mo_readA, .inl (κ 0, 37, .inl (upd w_mo_read v1.toNatClampNeg 0))), (mo_aheadA, .inl (κ 0, 340, .inl mo_ahead)), (mo_asideA, .inl (κ 0, 17, .inl mo_aside)), (mo_weighingsA, .inl (κ 0, 12, .inl mo_weighings)), (mo_bookA, .inl (κ 0, 30, .inl mo_book)), (mo_isKeptA, .inl (κ 1, 2, .inl mo_isKept)), (mo_keptA, .inl (κ 0, 34, .inl mo_kept)), (mo_seedsA, .inl (κ 0, 2, .inl mo_seeds))]) H := hP
        have hD : va_D A ([(moo, .inr (9, [.ref mo_toldA, .ref mo_stA, .int mo_isThere, .int mo_seed, .ref mo_textA, .int mo_typed, .int mo_faultAt, .int w_mo_place, .int mo_wrong, .int mo_value, .ref mo_readA, .ref mo_aheadA, .int mo_undoMany, .ref mo_asideA, .ref mo_weighingsA, .int mo_weighed, .ref mo_bookA, .int mo_entries, .ref mo_isKeptA, .ref mo_keptA, .ref mo_seedsA])), (mo_toldA, .inl (κ 0, 37, .inl mo_told)), (mo_stA, .inl (κ 0, 17, .inl mo_st)), (mo_textA, .inl (κ 0, 240, .inl mo_text)), (mo_readA, .inl (κ 0, 37, .inl (upd w_mo_read v1.toNatClampNeg 0))), (mo_aheadA, .inl (κ 0, 340, .inl mo_ahead)), (mo_asideA, .inl (κ 0, 17, .inl mo_aside)), (mo_weighingsA, .inl (κ 0, 12, .inl mo_weighings)), (mo_bookA, .inl (κ 0, 30, .inl mo_book)), (mo_isKeptA, .inl (κ 1, 2, .inl mo_isKept)), (mo_keptA, .inl (κ 0, 34, .inl mo_kept)), (mo_seedsA, .inl (κ 0, 2, .inl mo_seeds))]) := hD
        refine lv_iinc (v := (v1 + 1)) (lv' := [(1, .int (v1 + 1)), (0, .ref moo)]) hx hb dX9_readText_20 hl (k := 1) rfl rfl (by decide) rfl (fun ls hl => ?_)
        refine lv_goto (tgt := 7) hx hb dX9_readText_23 (by decide) ?_
        exact ih7 (v1 + 1) w_mo_place (upd w_mo_read v1.toNatClampNeg 0) _ _ _ hP hD hS (lv_sub hl [1, 0] rfl) hres
  unfold pX9_readText at hres
  refine lv_aload_n hx hb dX9_readText_0 rfl (lv_at hl 0 rfl) ?_
  refine lv_iconst (v := 0) hx hb dX9_readText_1 (by decide) ?_
  refine va_put (D := D) (ci := 9) (v := .int 0) (ty := .int) (C := RX9) (T := TX9) (N := 21) hx hb hts iw9 tyX9 tyX9_ok nmX9 hown hK.1 hP hD hS 0 rfl rfl 7 (by decide) k0 (fun _ h9 => h9) rfl (tyX9_ok 7 (by decide)) rfl rfl (Nat.le_of_ble_eq_true rfl) dX9_readText_2 (fun H locs hP hD hS => ?_)
  have hP : va_P D vwCl ([(moo, .inr (9, [.ref mo_toldA, .ref mo_stA, .int mo_isThere, .int mo_seed, .ref mo_textA, .int mo_typed, .int mo_faultAt, .int 0, .int mo_wrong, .int mo_value, .ref mo_readA, .ref mo_aheadA, .int mo_undoMany, .ref mo_asideA, .ref mo_weighingsA, .int mo_weighed, .ref mo_bookA, .int mo_entries, .ref mo_isKeptA, .ref mo_keptA, .ref mo_seedsA])), (mo_toldA, .inl (κ 0, 37, .inl mo_told)), (mo_stA, .inl (κ 0, 17, .inl mo_st)), (mo_textA, .inl (κ 0, 240, .inl mo_text)), (mo_readA, .inl (κ 0, 37, .inl mo_read)), (mo_aheadA, .inl (κ 0, 340, .inl mo_ahead)), (mo_asideA, .inl (κ 0, 17, .inl mo_aside)), (mo_weighingsA, .inl (κ 0, 12, .inl mo_weighings)), (mo_bookA, .inl (κ 0, 30, .inl mo_book)), (mo_isKeptA, .inl (κ 1, 2, .inl mo_isKept)), (mo_keptA, .inl (κ 0, 34, .inl mo_kept)), (mo_seedsA, .inl (κ 0, 2, .inl mo_seeds))]) H := hP
  have hD : va_D A ([(moo, .inr (9, [.ref mo_toldA, .ref mo_stA, .int mo_isThere, .int mo_seed, .ref mo_textA, .int mo_typed, .int mo_faultAt, .int 0, .int mo_wrong, .int mo_value, .ref mo_readA, .ref mo_aheadA, .int mo_undoMany, .ref mo_asideA, .ref mo_weighingsA, .int mo_weighed, .ref mo_bookA, .int mo_entries, .ref mo_isKeptA, .ref mo_keptA, .ref mo_seedsA])), (mo_toldA, .inl (κ 0, 37, .inl mo_told)), (mo_stA, .inl (κ 0, 17, .inl mo_st)), (mo_textA, .inl (κ 0, 240, .inl mo_text)), (mo_readA, .inl (κ 0, 37, .inl mo_read)), (mo_aheadA, .inl (κ 0, 340, .inl mo_ahead)), (mo_asideA, .inl (κ 0, 17, .inl mo_aside)), (mo_weighingsA, .inl (κ 0, 12, .inl mo_weighings)), (mo_bookA, .inl (κ 0, 30, .inl mo_book)), (mo_isKeptA, .inl (κ 1, 2, .inl mo_isKept)), (mo_keptA, .inl (κ 0, 34, .inl mo_kept)), (mo_seedsA, .inl (κ 0, 2, .inl mo_seeds))]) := hD
  refine lv_iconst (v := 0) hx hb dX9_readText_5 (by decide) ?_
  refine lv_istore_n (lv' := [(1, .int 0), (0, .ref moo)]) hx hb dX9_readText_6 rfl hl (by decide) rfl (fun ls hl => ?_)
  exact L7 N 0 0 mo_read _ _ _ hP hD hS (lv_sub hl [1, 0] rfl) hres

def pX9_ransom_L129 (k99 : Int32 → (Nat → Int32) → (Nat → Int32) → Int32 → Int32 → Int32 → Int32 → Int32 → Int32 → (Nat → Int32) → Option (Int32 × (Nat → Int32) × (Nat → Int32) × Int32 × Int32 × Int32 × Int32 × Int32 × Int32 × (Nat → Int32) × Int32 × Int32 × Int32 × (Nat → Int32))) (v2 : Int32) (s0 : Int32) (s1 : Int32) (w_mo_told : Nat → Int32) (w_mo_st : Nat → Int32) (w_mo_isThere : Int32) (w_mo_typed : Int32) (w_mo_faultAt : Int32) (w_mo_place : Int32) (w_mo_wrong : Int32) (w_mo_value : Int32) (w_mo_read : Nat → Int32) : Option (Int32 × (Nat → Int32) × (Nat → Int32) × Int32 × Int32 × Int32 × Int32 × Int32 × Int32 × (Nat → Int32) × Int32 × Int32 × Int32 × (Nat → Int32)) :=
    if s1 < 0 ∨ 17 ≤ s1.toNatClampNeg then none else
    k99 (v2 + 1) w_mo_told (upd w_mo_st s1.toNatClampNeg s0) w_mo_isThere w_mo_typed w_mo_faultAt w_mo_place w_mo_wrong w_mo_value w_mo_read
def pX9_ransom_L99 (mo_isKept : Nat → Int32) : Nat → Int32 → (Nat → Int32) → (Nat → Int32) → Int32 → Int32 → Int32 → Int32 → Int32 → Int32 → (Nat → Int32) → Option (Int32 × (Nat → Int32) × (Nat → Int32) × Int32 × Int32 × Int32 × Int32 × Int32 × Int32 × (Nat → Int32) × Int32 × Int32 × Int32 × (Nat → Int32))
  | 0, _, _, _, _, _, _, _, _, _, _ => none
  | n99 + 1, v2, w_mo_told, w_mo_st, w_mo_isThere, w_mo_typed, w_mo_faultAt, w_mo_place, w_mo_wrong, w_mo_value, w_mo_read =>
    (if 17 ≤ v2 then
    some ((w_mo_told 2), w_mo_told, (upd w_mo_st 14 (w_mo_told 0)), w_mo_isThere, w_mo_typed, w_mo_faultAt, w_mo_place, w_mo_wrong, w_mo_value, w_mo_read, 0, 0, 0, (upd (upd mo_isKept 0 0) 1 0))
    else
    (if 6 ≤ v2 then
    pX9_ransom_L129 (pX9_ransom_L99 mo_isKept n99) v2 0 v2 w_mo_told w_mo_st w_mo_isThere w_mo_typed w_mo_faultAt w_mo_place w_mo_wrong w_mo_value w_mo_read
    else
    if (7 + v2) < 0 ∨ 37 ≤ (7 + v2).toNatClampNeg then none else
    pX9_ransom_L129 (pX9_ransom_L99 mo_isKept n99) v2 (w_mo_told ((7 + v2).toNatClampNeg)) v2 w_mo_told w_mo_st w_mo_isThere w_mo_typed w_mo_faultAt w_mo_place w_mo_wrong w_mo_value w_mo_read))
def pX9_ransom_L73 (N : Nat) (mo_st : Nat → Int32) (mo_isKept : Nat → Int32) : Nat → Int32 → (Nat → Int32) → Int32 → Int32 → Int32 → Int32 → Int32 → Int32 → (Nat → Int32) → Option (Int32 × (Nat → Int32) × (Nat → Int32) × Int32 × Int32 × Int32 × Int32 × Int32 × Int32 × (Nat → Int32) × Int32 × Int32 × Int32 × (Nat → Int32))
  | 0, _, _, _, _, _, _, _, _, _ => none
  | n73 + 1, v2, w_mo_told, w_mo_isThere, w_mo_typed, w_mo_faultAt, w_mo_place, w_mo_wrong, w_mo_value, w_mo_read =>
    (if 37 ≤ v2 then
    pX9_ransom_L99 mo_isKept N 0 w_mo_told mo_st w_mo_isThere w_mo_typed w_mo_faultAt w_mo_place w_mo_wrong w_mo_value w_mo_read
    else
    if v2 < 0 ∨ 37 ≤ v2.toNatClampNeg then none else
    pX9_ransom_L73 N mo_st mo_isKept n73 (v2 + 1) (upd w_mo_told v2.toNatClampNeg (w_mo_read v2.toNatClampNeg)) w_mo_isThere w_mo_typed w_mo_faultAt w_mo_place w_mo_wrong w_mo_value w_mo_read)
def pX9_ransom_L51 (N : Nat) (mo_told : Nat → Int32) (mo_st : Nat → Int32) (mo_undoMany : Int32) (mo_weighed : Int32) (mo_entries : Int32) (mo_isKept : Nat → Int32) (v1 : Int32) (s0 : Int32) (w_mo_isThere : Int32) (w_mo_place : Int32) (w_mo_wrong : Int32) (w_mo_value : Int32) (w_mo_read : Nat → Int32) : Option (Int32 × (Nat → Int32) × (Nat → Int32) × Int32 × Int32 × Int32 × Int32 × Int32 × Int32 × (Nat → Int32) × Int32 × Int32 × Int32 × (Nat → Int32)) :=
    (if v1 = 0 then
    some (((-10) - w_mo_wrong), mo_told, mo_st, w_mo_isThere, 0, s0, w_mo_place, w_mo_wrong, w_mo_value, w_mo_read, mo_undoMany, mo_weighed, mo_entries, mo_isKept)
    else
    pX9_ransom_L73 N mo_st mo_isKept N 0 mo_told w_mo_isThere 0 s0 w_mo_place w_mo_wrong w_mo_value w_mo_read)
def pX9_ransom_L35 (N : Nat) (mo_told : Nat → Int32) (mo_st : Nat → Int32) (mo_undoMany : Int32) (mo_weighed : Int32) (mo_entries : Int32) (mo_isKept : Nat → Int32) (v1 : Int32) (s0 : Int32) (w_mo_place : Int32) (w_mo_wrong : Int32) (w_mo_value : Int32) (w_mo_read : Nat → Int32) : Option (Int32 × (Nat → Int32) × (Nat → Int32) × Int32 × Int32 × Int32 × Int32 × Int32 × Int32 × (Nat → Int32) × Int32 × Int32 × Int32 × (Nat → Int32)) :=
    if ¬ (s0 = 0 ∨ s0 = 1) then none else
    (if v1 = 0 then
    pX9_ransom_L51 N mo_told mo_st mo_undoMany mo_weighed mo_entries mo_isKept v1 w_mo_place s0 w_mo_place w_mo_wrong w_mo_value w_mo_read
    else
    pX9_ransom_L51 N mo_told mo_st mo_undoMany mo_weighed mo_entries mo_isKept v1 (-1) s0 w_mo_place w_mo_wrong w_mo_value w_mo_read)
def pX9_ransom_L34 (N : Nat) (mo_told : Nat → Int32) (mo_st : Nat → Int32) (mo_undoMany : Int32) (mo_weighed : Int32) (mo_entries : Int32) (mo_isKept : Nat → Int32) (v1 : Int32) (w_mo_place : Int32) (w_mo_wrong : Int32) (w_mo_value : Int32) (w_mo_read : Nat → Int32) : Option (Int32 × (Nat → Int32) × (Nat → Int32) × Int32 × Int32 × Int32 × Int32 × Int32 × Int32 × (Nat → Int32) × Int32 × Int32 × Int32 × (Nat → Int32)) :=
    pX9_ransom_L35 N mo_told mo_st mo_undoMany mo_weighed mo_entries mo_isKept v1 0 w_mo_place w_mo_wrong w_mo_value w_mo_read
def pX9_ransom_L30 (N : Nat) (mo_told : Nat → Int32) (mo_st : Nat → Int32) (mo_undoMany : Int32) (mo_weighed : Int32) (mo_entries : Int32) (mo_isKept : Nat → Int32) (v1 : Int32) (w_mo_place : Int32) (w_mo_wrong : Int32) (w_mo_value : Int32) (w_mo_read : Nat → Int32) : Option (Int32 × (Nat → Int32) × (Nat → Int32) × Int32 × Int32 × Int32 × Int32 × Int32 × Int32 × (Nat → Int32) × Int32 × Int32 × Int32 × (Nat → Int32)) :=
    pX9_ransom_L35 N mo_told mo_st mo_undoMany mo_weighed mo_entries mo_isKept v1 1 w_mo_place w_mo_wrong w_mo_value w_mo_read
def pX9_ransom_L19 (N : Nat) (mo_told : Nat → Int32) (mo_st : Nat → Int32) (mo_isThere : Int32) (mo_undoMany : Int32) (mo_weighed : Int32) (mo_entries : Int32) (mo_isKept : Nat → Int32) (v1 : Int32) (w_mo_place : Int32) (w_mo_wrong : Int32) (w_mo_value : Int32) (w_mo_read : Nat → Int32) : Option (Int32 × (Nat → Int32) × (Nat → Int32) × Int32 × Int32 × Int32 × Int32 × Int32 × Int32 × (Nat → Int32) × Int32 × Int32 × Int32 × (Nat → Int32)) :=
    (if v1 = 0 then
    (if mo_isThere = 0 then
    pX9_ransom_L34 N mo_told mo_st mo_undoMany mo_weighed mo_entries mo_isKept v1 w_mo_place w_mo_wrong w_mo_value w_mo_read
    else
    pX9_ransom_L30 N mo_told mo_st mo_undoMany mo_weighed mo_entries mo_isKept v1 w_mo_place w_mo_wrong w_mo_value w_mo_read)
    else
    pX9_ransom_L34 N mo_told mo_st mo_undoMany mo_weighed mo_entries mo_isKept v1 w_mo_place w_mo_wrong w_mo_value w_mo_read)
def pX9_ransom (N : Nat) (mo_told : Nat → Int32) (mo_st : Nat → Int32) (mo_isThere : Int32) (mo_text : Nat → Int32) (mo_typed : Int32) (mo_wrong : Int32) (mo_value : Int32) (mo_read : Nat → Int32) (mo_undoMany : Int32) (mo_weighed : Int32) (mo_entries : Int32) (mo_isKept : Nat → Int32) : Option (Int32 × (Nat → Int32) × (Nat → Int32) × Int32 × Int32 × Int32 × Int32 × Int32 × Int32 × (Nat → Int32) × Int32 × Int32 × Int32 × (Nat → Int32)) :=
    kb5 (pX9_readText N mo_text mo_typed mo_wrong mo_value mo_read) fun r1 w2 w3 w4 w5 =>
    (if r1 = 0 then
    pX9_ransom_L19 N mo_told mo_st mo_isThere mo_undoMany mo_weighed mo_entries mo_isKept r1 w2 w3 w4 w5
    else
    (if 0 < (w5 0) then
    pX9_ransom_L30 N mo_told mo_st mo_undoMany mo_weighed mo_entries mo_isKept r1 w2 w3 w4 w5
    else
    pX9_ransom_L19 N mo_told mo_st mo_isThere mo_undoMany mo_weighed mo_entries mo_isKept r1 w2 w3 w4 w5))
set_option maxHeartbeats 8000000 in
set_option maxRecDepth 100000 in
theorem tX9_ransom (l : Launch) (D : va_G) (κ : Nat → ClassId) (moo : Nat) (mo_toldA : Nat) (mo_stA : Nat) (mo_textA : Nat) (mo_readA : Nat) (mo_aheadA : Nat) (mo_asideA : Nat) (mo_weighingsA : Nat) (mo_bookA : Nat) (mo_isKeptA : Nat) (mo_keptA : Nat) (mo_seedsA : Nat) (N : Nat) (mo_told : Nat → Int32) (mo_st : Nat → Int32) (mo_isThere : Int32) (mo_seed : Int32) (mo_text : Nat → Int32) (mo_typed : Int32) (mo_faultAt : Int32) (mo_place : Int32) (mo_wrong : Int32) (mo_value : Int32) (mo_read : Nat → Int32) (mo_ahead : Nat → Int32) (mo_undoMany : Int32) (mo_aside : Nat → Int32) (mo_weighings : Nat → Int32) (mo_weighed : Int32) (mo_book : Nat → Int32) (mo_entries : Int32) (mo_isKept : Nat → Int32) (mo_kept : Nat → Int32) (mo_seeds : Nat → Int32) (r0 : Int32) (z_mo_told : Nat → Int32) (z_mo_st : Nat → Int32) (z_mo_isThere : Int32) (z_mo_typed : Int32) (z_mo_faultAt : Int32) (z_mo_place : Int32) (z_mo_wrong : Int32) (z_mo_value : Int32) (z_mo_read : Nat → Int32) (z_mo_undoMany : Int32) (z_mo_weighed : Int32) (z_mo_entries : Int32) (z_mo_isKept : Nat → Int32) (hres : pX9_ransom N mo_told mo_st mo_isThere mo_text mo_typed mo_wrong mo_value mo_read mo_undoMany mo_weighed mo_entries mo_isKept = some (r0, z_mo_told, z_mo_st, z_mo_isThere, z_mo_typed, z_mo_faultAt, z_mo_place, z_mo_wrong, z_mo_value, z_mo_read, z_mo_undoMany, z_mo_weighed, z_mo_entries, z_mo_isKept)) : krI l yX9_ransom wsX9_ransom { frames := 5, cells := 0, slots := 0, locals := 500 } D κ [.ref moo] ([(moo, .inr (9, [.ref mo_toldA, .ref mo_stA, .int mo_isThere, .int mo_seed, .ref mo_textA, .int mo_typed, .int mo_faultAt, .int mo_place, .int mo_wrong, .int mo_value, .ref mo_readA, .ref mo_aheadA, .int mo_undoMany, .ref mo_asideA, .ref mo_weighingsA, .int mo_weighed, .ref mo_bookA, .int mo_entries, .ref mo_isKeptA, .ref mo_keptA, .ref mo_seedsA])), (mo_toldA, .inl (κ 0, 37, .inl mo_told)), (mo_stA, .inl (κ 0, 17, .inl mo_st)), (mo_textA, .inl (κ 0, 240, .inl mo_text)), (mo_readA, .inl (κ 0, 37, .inl mo_read)), (mo_aheadA, .inl (κ 0, 340, .inl mo_ahead)), (mo_asideA, .inl (κ 0, 17, .inl mo_aside)), (mo_weighingsA, .inl (κ 0, 12, .inl mo_weighings)), (mo_bookA, .inl (κ 0, 30, .inl mo_book)), (mo_isKeptA, .inl (κ 1, 2, .inl mo_isKept)), (mo_keptA, .inl (κ 0, 34, .inl mo_kept)), (mo_seedsA, .inl (κ 0, 2, .inl mo_seeds))]) ([(moo, .inr (9, [.ref mo_toldA, .ref mo_stA, .int z_mo_isThere, .int mo_seed, .ref mo_textA, .int z_mo_typed, .int z_mo_faultAt, .int z_mo_place, .int z_mo_wrong, .int z_mo_value, .ref mo_readA, .ref mo_aheadA, .int z_mo_undoMany, .ref mo_asideA, .ref mo_weighingsA, .int z_mo_weighed, .ref mo_bookA, .int z_mo_entries, .ref mo_isKeptA, .ref mo_keptA, .ref mo_seedsA])), (mo_toldA, .inl (κ 0, 37, .inl z_mo_told)), (mo_stA, .inl (κ 0, 17, .inl z_mo_st)), (mo_textA, .inl (κ 0, 240, .inl mo_text)), (mo_readA, .inl (κ 0, 37, .inl z_mo_read)), (mo_aheadA, .inl (κ 0, 340, .inl mo_ahead)), (mo_asideA, .inl (κ 0, 17, .inl mo_aside)), (mo_weighingsA, .inl (κ 0, 12, .inl mo_weighings)), (mo_bookA, .inl (κ 0, 30, .inl mo_book)), (mo_isKeptA, .inl (κ 1, 2, .inl z_mo_isKept)), (mo_keptA, .inl (κ 0, 34, .inl mo_kept)), (mo_seedsA, .inl (κ 0, 2, .inl mo_seeds))]) r0 := by
  refine krI_of (cc := cX9_ransom) (maxL := 3) (rt := .int) (by decide) rfl (Nat.le_of_ble_eq_true rfl) ?_
  intro p e s m args below meth c A Q ls hx hb hml hown hts hK hA hret hP hD hS hl
  have hown : s.vm.findClass RX9 = some m.cls := hown
  have hl : lv_has ls 3 [(0, .ref moo)] := hl
  have iw9 : ∀ w ∈ u_ws RX9 TX9 21, w ∈ wsX9_ransom := (fun _ h => List.mem_cons_of_mem _ (List.mem_append_right _ h))
  have k0 : (Cond.fieldLink RX9 23 "KingRansomModel" "read" "[I").before args s = true := hts _ (List.mem_of_getElem? (i := 1) rfl)
  have k1 : (Cond.fieldLink RX9 13 "KingRansomModel" "st" "[I").before args s = true := hts _ (List.mem_of_getElem? (i := 8) rfl)
  have k2 : (Cond.fieldLink RX9 7 "KingRansomModel" "told" "[I").before args s = true := hts _ (List.mem_of_getElem? (i := 7) rfl)
  have k3 : (Cond.fieldLink RX9 110 "KingRansomModel" "undoMany" "I").before args s = true := hts _ (List.mem_of_getElem? (i := 9) rfl)
  have k4 : (Cond.fieldLink RX9 113 "KingRansomModel" "weighed" "I").before args s = true := hts _ (List.mem_of_getElem? (i := 10) rfl)
  have k5 : (Cond.fieldLink RX9 116 "KingRansomModel" "entries" "I").before args s = true := hts _ (List.mem_of_getElem? (i := 11) rfl)
  have k6 : (Cond.fieldLink RX9 38 "KingRansomModel" "isKept" "[Z").before args s = true := hts _ (List.mem_of_getElem? (i := 12) rfl)
  have k7 : (Cond.fieldLink RX9 19 "KingRansomModel" "faultAt" "I").before args s = true := hts _ (List.mem_of_getElem? (i := 4) rfl)
  have k8 : (Cond.fieldLink RX9 55 "KingRansomModel" "typed" "I").before args s = true := hts _ (List.mem_of_getElem? (i := 5) rfl)
  have k9 : (Cond.fieldLink RX9 62 "KingRansomModel" "wrong" "I").before args s = true := hts _ (List.mem_of_getElem? (i := 6) rfl)
  have k10 : (Cond.fieldLink RX9 106 "KingRansomModel" "isThere" "Z").before args s = true := hts _ (List.mem_of_getElem? (i := 2) rfl)
  have k11 : (Cond.fieldLink RX9 59 "KingRansomModel" "place" "I").before args s = true := hts _ (List.mem_of_getElem? (i := 3) rfl)
  have L99 : ∀ (n99 : Nat) (v2 : Int32) (w_mo_told : Nat → Int32) (w_mo_st : Nat → Int32) (w_mo_isThere : Int32) (w_mo_typed : Int32) (w_mo_faultAt : Int32) (w_mo_place : Int32) (w_mo_wrong : Int32) (w_mo_value : Int32) (w_mo_read : Nat → Int32) (H : Heap) (locs : List Loc) (ls : Array Slot), va_P D vwCl ([(moo, .inr (9, [.ref mo_toldA, .ref mo_stA, .int w_mo_isThere, .int mo_seed, .ref mo_textA, .int w_mo_typed, .int w_mo_faultAt, .int w_mo_place, .int w_mo_wrong, .int w_mo_value, .ref mo_readA, .ref mo_aheadA, .int mo_undoMany, .ref mo_asideA, .ref mo_weighingsA, .int mo_weighed, .ref mo_bookA, .int mo_entries, .ref mo_isKeptA, .ref mo_keptA, .ref mo_seedsA])), (mo_toldA, .inl (κ 0, 37, .inl w_mo_told)), (mo_stA, .inl (κ 0, 17, .inl w_mo_st)), (mo_textA, .inl (κ 0, 240, .inl mo_text)), (mo_readA, .inl (κ 0, 37, .inl w_mo_read)), (mo_aheadA, .inl (κ 0, 340, .inl mo_ahead)), (mo_asideA, .inl (κ 0, 17, .inl mo_aside)), (mo_weighingsA, .inl (κ 0, 12, .inl mo_weighings)), (mo_bookA, .inl (κ 0, 30, .inl mo_book)), (mo_isKeptA, .inl (κ 1, 2, .inl mo_isKept)), (mo_keptA, .inl (κ 0, 34, .inl mo_kept)), (mo_seedsA, .inl (κ 0, 2, .inl mo_seeds))]) H → va_D A ([(moo, .inr (9, [.ref mo_toldA, .ref mo_stA, .int w_mo_isThere, .int mo_seed, .ref mo_textA, .int w_mo_typed, .int w_mo_faultAt, .int w_mo_place, .int w_mo_wrong, .int w_mo_value, .ref mo_readA, .ref mo_aheadA, .int mo_undoMany, .ref mo_asideA, .ref mo_weighingsA, .int mo_weighed, .ref mo_bookA, .int mo_entries, .ref mo_isKeptA, .ref mo_keptA, .ref mo_seedsA])), (mo_toldA, .inl (κ 0, 37, .inl w_mo_told)), (mo_stA, .inl (κ 0, 17, .inl w_mo_st)), (mo_textA, .inl (κ 0, 240, .inl mo_text)), (mo_readA, .inl (κ 0, 37, .inl w_mo_read)), (mo_aheadA, .inl (κ 0, 340, .inl mo_ahead)), (mo_asideA, .inl (κ 0, 17, .inl mo_aside)), (mo_weighingsA, .inl (κ 0, 12, .inl mo_weighings)), (mo_bookA, .inl (κ 0, 30, .inl mo_book)), (mo_isKeptA, .inl (κ 1, 2, .inl mo_isKept)), (mo_keptA, .inl (κ 0, 34, .inl mo_kept)), (mo_seedsA, .inl (κ 0, 2, .inl mo_seeds))]) → va_S A s.heap H locs → lv_has ls 3 [(0, .ref moo), (2, .int v2)] → pX9_ransom_L99 mo_isKept n99 v2 w_mo_told w_mo_st w_mo_isThere w_mo_typed w_mo_faultAt w_mo_place w_mo_wrong w_mo_value w_mo_read = some (r0, z_mo_told, z_mo_st, z_mo_isThere, z_mo_typed, z_mo_faultAt, z_mo_place, z_mo_wrong, z_mo_value, z_mo_read, z_mo_undoMany, z_mo_weighed, z_mo_entries, z_mo_isKept) → W p l e { frames := 5, cells := 0, slots := 0, locals := 500 } s m args below meth c H locs 0 0 Q (F0 m 99 ls []) := by
    intro n99
    induction n99 with
    | zero =>
      intro v2 w_mo_told w_mo_st w_mo_isThere w_mo_typed w_mo_faultAt w_mo_place w_mo_wrong w_mo_value w_mo_read H locs ls hP hD hS hl hres
      exact absurd (show none = some _ from hres) (by simp)
    | succ n99 ih99 =>
      intro v2 w_mo_told w_mo_st w_mo_isThere w_mo_typed w_mo_faultAt w_mo_place w_mo_wrong w_mo_value w_mo_read H locs ls hP hD hS hl hres
      have L129 : ∀ (v2 : Int32) (s0 : Int32) (s1 : Int32) (w_mo_told : Nat → Int32) (w_mo_st : Nat → Int32) (w_mo_isThere : Int32) (w_mo_typed : Int32) (w_mo_faultAt : Int32) (w_mo_place : Int32) (w_mo_wrong : Int32) (w_mo_value : Int32) (w_mo_read : Nat → Int32) (H : Heap) (locs : List Loc) (ls : Array Slot), va_P D vwCl ([(moo, .inr (9, [.ref mo_toldA, .ref mo_stA, .int w_mo_isThere, .int mo_seed, .ref mo_textA, .int w_mo_typed, .int w_mo_faultAt, .int w_mo_place, .int w_mo_wrong, .int w_mo_value, .ref mo_readA, .ref mo_aheadA, .int mo_undoMany, .ref mo_asideA, .ref mo_weighingsA, .int mo_weighed, .ref mo_bookA, .int mo_entries, .ref mo_isKeptA, .ref mo_keptA, .ref mo_seedsA])), (mo_toldA, .inl (κ 0, 37, .inl w_mo_told)), (mo_stA, .inl (κ 0, 17, .inl w_mo_st)), (mo_textA, .inl (κ 0, 240, .inl mo_text)), (mo_readA, .inl (κ 0, 37, .inl w_mo_read)), (mo_aheadA, .inl (κ 0, 340, .inl mo_ahead)), (mo_asideA, .inl (κ 0, 17, .inl mo_aside)), (mo_weighingsA, .inl (κ 0, 12, .inl mo_weighings)), (mo_bookA, .inl (κ 0, 30, .inl mo_book)), (mo_isKeptA, .inl (κ 1, 2, .inl mo_isKept)), (mo_keptA, .inl (κ 0, 34, .inl mo_kept)), (mo_seedsA, .inl (κ 0, 2, .inl mo_seeds))]) H → va_D A ([(moo, .inr (9, [.ref mo_toldA, .ref mo_stA, .int w_mo_isThere, .int mo_seed, .ref mo_textA, .int w_mo_typed, .int w_mo_faultAt, .int w_mo_place, .int w_mo_wrong, .int w_mo_value, .ref mo_readA, .ref mo_aheadA, .int mo_undoMany, .ref mo_asideA, .ref mo_weighingsA, .int mo_weighed, .ref mo_bookA, .int mo_entries, .ref mo_isKeptA, .ref mo_keptA, .ref mo_seedsA])), (mo_toldA, .inl (κ 0, 37, .inl w_mo_told)), (mo_stA, .inl (κ 0, 17, .inl w_mo_st)), (mo_textA, .inl (κ 0, 240, .inl mo_text)), (mo_readA, .inl (κ 0, 37, .inl w_mo_read)), (mo_aheadA, .inl (κ 0, 340, .inl mo_ahead)), (mo_asideA, .inl (κ 0, 17, .inl mo_aside)), (mo_weighingsA, .inl (κ 0, 12, .inl mo_weighings)), (mo_bookA, .inl (κ 0, 30, .inl mo_book)), (mo_isKeptA, .inl (κ 1, 2, .inl mo_isKept)), (mo_keptA, .inl (κ 0, 34, .inl mo_kept)), (mo_seedsA, .inl (κ 0, 2, .inl mo_seeds))]) → va_S A s.heap H locs → lv_has ls 3 [(0, .ref moo), (2, .int v2)] → pX9_ransom_L129 (pX9_ransom_L99 mo_isKept n99) v2 s0 s1 w_mo_told w_mo_st w_mo_isThere w_mo_typed w_mo_faultAt w_mo_place w_mo_wrong w_mo_value w_mo_read = some (r0, z_mo_told, z_mo_st, z_mo_isThere, z_mo_typed, z_mo_faultAt, z_mo_place, z_mo_wrong, z_mo_value, z_mo_read, z_mo_undoMany, z_mo_weighed, z_mo_entries, z_mo_isKept) → W p l e { frames := 5, cells := 0, slots := 0, locals := 500 } s m args below meth c H locs 0 0 Q (F0 m 129 ls [.int s0, .int s1, .ref mo_stA]) := by
        intro v2 s0 s1 w_mo_told w_mo_st w_mo_isThere w_mo_typed w_mo_faultAt w_mo_place w_mo_wrong w_mo_value w_mo_read H locs ls hP hD hS hl hres
        unfold pX9_ransom_L129 at hres
        obtain ⟨g9, hres⟩ := og_no hres
        refine kr_iast (f := w_mo_st) (j := s1.toNatClampNeg) (x := s0) hx hb hK hP hD hS 2 rfl g9 rfl dX9_ransom_129 (fun H locs hP hD hS => ?_)
        have hP : va_P D vwCl ([(moo, .inr (9, [.ref mo_toldA, .ref mo_stA, .int w_mo_isThere, .int mo_seed, .ref mo_textA, .int w_mo_typed, .int w_mo_faultAt, .int w_mo_place, .int w_mo_wrong, .int w_mo_value, .ref mo_readA, .ref mo_aheadA, .int mo_undoMany, .ref mo_asideA, .ref mo_weighingsA, .int mo_weighed, .ref mo_bookA, .int mo_entries, .ref mo_isKeptA, .ref mo_keptA, .ref mo_seedsA])), (mo_toldA, .inl (κ 0, 37, .inl w_mo_told)), (mo_stA, .inl (κ 0, 17, .inl (upd w_mo_st s1.toNatClampNeg s0))), (mo_textA, .inl (κ 0, 240, .inl mo_text)), (mo_readA, .inl (κ 0, 37, .inl w_mo_read)), (mo_aheadA, .inl (κ 0, 340, .inl mo_ahead)), (mo_asideA, .inl (κ 0, 17, .inl mo_aside)), (mo_weighingsA, .inl (κ 0, 12, .inl mo_weighings)), (mo_bookA, .inl (κ 0, 30, .inl mo_book)), (mo_isKeptA, .inl (κ 1, 2, .inl mo_isKept)), (mo_keptA, .inl (κ 0, 34, .inl mo_kept)), (mo_seedsA, .inl (κ 0, 2, .inl mo_seeds))]) H := hP
        have hD : va_D A ([(moo, .inr (9, [.ref mo_toldA, .ref mo_stA, .int w_mo_isThere, .int mo_seed, .ref mo_textA, .int w_mo_typed, .int w_mo_faultAt, .int w_mo_place, .int w_mo_wrong, .int w_mo_value, .ref mo_readA, .ref mo_aheadA, .int mo_undoMany, .ref mo_asideA, .ref mo_weighingsA, .int mo_weighed, .ref mo_bookA, .int mo_entries, .ref mo_isKeptA, .ref mo_keptA, .ref mo_seedsA])), (mo_toldA, .inl (κ 0, 37, .inl w_mo_told)), (mo_stA, .inl (κ 0, 17, .inl (upd w_mo_st s1.toNatClampNeg s0))), (mo_textA, .inl (κ 0, 240, .inl mo_text)), (mo_readA, .inl (κ 0, 37, .inl w_mo_read)), (mo_aheadA, .inl (κ 0, 340, .inl mo_ahead)), (mo_asideA, .inl (κ 0, 17, .inl mo_aside)), (mo_weighingsA, .inl (κ 0, 12, .inl mo_weighings)), (mo_bookA, .inl (κ 0, 30, .inl mo_book)), (mo_isKeptA, .inl (κ 1, 2, .inl mo_isKept)), (mo_keptA, .inl (κ 0, 34, .inl mo_kept)), (mo_seedsA, .inl (κ 0, 2, .inl mo_seeds))]) := hD
        refine lv_iinc (v := (v2 + 1)) (lv' := [(2, .int (v2 + 1)), (0, .ref moo)]) hx hb dX9_ransom_130 hl (k := 1) rfl rfl (by decide) rfl (fun ls hl => ?_)
        refine lv_goto (tgt := 99) hx hb dX9_ransom_133 (by decide) ?_
        exact ih99 (v2 + 1) w_mo_told (upd w_mo_st s1.toNatClampNeg s0) w_mo_isThere w_mo_typed w_mo_faultAt w_mo_place w_mo_wrong w_mo_value w_mo_read _ _ _ hP hD hS (lv_sub hl [1, 0] rfl) hres
      rw [pX9_ransom_L99] at hres
      refine lv_iload_n hx hb dX9_ransom_99 rfl (lv_at hl 1 rfl) ?_
      refine lv_bipush (v := 17) hx hb dX9_ransom_100 (by decide) ?_
      refine lv_icmp_ge (tgt := 136) hx hb dX9_ransom_102 (by decide) (fun c10 => ?_) (fun c10 => ?_)
      · replace hres := og_t c10 hres
        refine lv_aload_n hx hb dX9_ransom_136 rfl (lv_at hl 0 rfl) ?_
        refine va_get (D := D) (ci := 9) (v := .ref mo_stA) (C := RX9) (T := TX9) (N := 21) hx hb hts iw9 hown hK.1 hP 0 rfl rfl 1 (by decide) k1 (fun _ h9 => h9) rfl dX9_ransom_137 ?_
        refine lv_bipush (v := 14) hx hb dX9_ransom_140 (by decide) ?_
        refine lv_aload_n hx hb dX9_ransom_142 rfl (lv_at hl 0 rfl) ?_
        refine va_get (D := D) (ci := 9) (v := .ref mo_toldA) (C := RX9) (T := TX9) (N := 21) hx hb hts iw9 hown hK.1 hP 0 rfl rfl 0 (by decide) k2 (fun _ h9 => h9) rfl dX9_ransom_143 ?_
        refine lv_iconst (v := 0) hx hb dX9_ransom_146 (by decide) ?_
        refine kr_iald (f := w_mo_told) (j := 0) hx hb hK hP 1 rfl (by decide) (by decide) dX9_ransom_147 ?_
        refine kr_iast (f := w_mo_st) (j := 14) (x := (w_mo_told 0)) hx hb hK hP hD hS 2 rfl (by decide) (by decide) dX9_ransom_148 (fun H locs hP hD hS => ?_)
        have hP : va_P D vwCl ([(moo, .inr (9, [.ref mo_toldA, .ref mo_stA, .int w_mo_isThere, .int mo_seed, .ref mo_textA, .int w_mo_typed, .int w_mo_faultAt, .int w_mo_place, .int w_mo_wrong, .int w_mo_value, .ref mo_readA, .ref mo_aheadA, .int mo_undoMany, .ref mo_asideA, .ref mo_weighingsA, .int mo_weighed, .ref mo_bookA, .int mo_entries, .ref mo_isKeptA, .ref mo_keptA, .ref mo_seedsA])), (mo_toldA, .inl (κ 0, 37, .inl w_mo_told)), (mo_stA, .inl (κ 0, 17, .inl (upd w_mo_st 14 (w_mo_told 0)))), (mo_textA, .inl (κ 0, 240, .inl mo_text)), (mo_readA, .inl (κ 0, 37, .inl w_mo_read)), (mo_aheadA, .inl (κ 0, 340, .inl mo_ahead)), (mo_asideA, .inl (κ 0, 17, .inl mo_aside)), (mo_weighingsA, .inl (κ 0, 12, .inl mo_weighings)), (mo_bookA, .inl (κ 0, 30, .inl mo_book)), (mo_isKeptA, .inl (κ 1, 2, .inl mo_isKept)), (mo_keptA, .inl (κ 0, 34, .inl mo_kept)), (mo_seedsA, .inl (κ 0, 2, .inl mo_seeds))]) H := hP
        have hD : va_D A ([(moo, .inr (9, [.ref mo_toldA, .ref mo_stA, .int w_mo_isThere, .int mo_seed, .ref mo_textA, .int w_mo_typed, .int w_mo_faultAt, .int w_mo_place, .int w_mo_wrong, .int w_mo_value, .ref mo_readA, .ref mo_aheadA, .int mo_undoMany, .ref mo_asideA, .ref mo_weighingsA, .int mo_weighed, .ref mo_bookA, .int mo_entries, .ref mo_isKeptA, .ref mo_keptA, .ref mo_seedsA])), (mo_toldA, .inl (κ 0, 37, .inl w_mo_told)), (mo_stA, .inl (κ 0, 17, .inl (upd w_mo_st 14 (w_mo_told 0)))), (mo_textA, .inl (κ 0, 240, .inl mo_text)), (mo_readA, .inl (κ 0, 37, .inl w_mo_read)), (mo_aheadA, .inl (κ 0, 340, .inl mo_ahead)), (mo_asideA, .inl (κ 0, 17, .inl mo_aside)), (mo_weighingsA, .inl (κ 0, 12, .inl mo_weighings)), (mo_bookA, .inl (κ 0, 30, .inl mo_book)), (mo_isKeptA, .inl (κ 1, 2, .inl mo_isKept)), (mo_keptA, .inl (κ 0, 34, .inl mo_kept)), (mo_seedsA, .inl (κ 0, 2, .inl mo_seeds))]) := hD
        refine lv_aload_n hx hb dX9_ransom_149 rfl (lv_at hl 0 rfl) ?_
        refine lv_iconst (v := 0) hx hb dX9_ransom_150 (by decide) ?_
        refine va_put (D := D) (ci := 9) (v := .int 0) (ty := .int) (C := RX9) (T := TX9) (N := 21) hx hb hts iw9 tyX9 tyX9_ok nmX9 hown hK.1 hP hD hS 0 rfl rfl 12 (by decide) k3 (fun _ h9 => h9) rfl (tyX9_ok 12 (by decide)) rfl rfl (Nat.le_of_ble_eq_true rfl) dX9_ransom_151 (fun H locs hP hD hS => ?_)
        have hP : va_P D vwCl ([(moo, .inr (9, [.ref mo_toldA, .ref mo_stA, .int w_mo_isThere, .int mo_seed, .ref mo_textA, .int w_mo_typed, .int w_mo_faultAt, .int w_mo_place, .int w_mo_wrong, .int w_mo_value, .ref mo_readA, .ref mo_aheadA, .int 0, .ref mo_asideA, .ref mo_weighingsA, .int mo_weighed, .ref mo_bookA, .int mo_entries, .ref mo_isKeptA, .ref mo_keptA, .ref mo_seedsA])), (mo_toldA, .inl (κ 0, 37, .inl w_mo_told)), (mo_stA, .inl (κ 0, 17, .inl (upd w_mo_st 14 (w_mo_told 0)))), (mo_textA, .inl (κ 0, 240, .inl mo_text)), (mo_readA, .inl (κ 0, 37, .inl w_mo_read)), (mo_aheadA, .inl (κ 0, 340, .inl mo_ahead)), (mo_asideA, .inl (κ 0, 17, .inl mo_aside)), (mo_weighingsA, .inl (κ 0, 12, .inl mo_weighings)), (mo_bookA, .inl (κ 0, 30, .inl mo_book)), (mo_isKeptA, .inl (κ 1, 2, .inl mo_isKept)), (mo_keptA, .inl (κ 0, 34, .inl mo_kept)), (mo_seedsA, .inl (κ 0, 2, .inl mo_seeds))]) H := hP
        have hD : va_D A ([(moo, .inr (9, [.ref mo_toldA, .ref mo_stA, .int w_mo_isThere, .int mo_seed, .ref mo_textA, .int w_mo_typed, .int w_mo_faultAt, .int w_mo_place, .int w_mo_wrong, .int w_mo_value, .ref mo_readA, .ref mo_aheadA, .int 0, .ref mo_asideA, .ref mo_weighingsA, .int mo_weighed, .ref mo_bookA, .int mo_entries, .ref mo_isKeptA, .ref mo_keptA, .ref mo_seedsA])), (mo_toldA, .inl (κ 0, 37, .inl w_mo_told)), (mo_stA, .inl (κ 0, 17, .inl (upd w_mo_st 14 (w_mo_told 0)))), (mo_textA, .inl (κ 0, 240, .inl mo_text)), (mo_readA, .inl (κ 0, 37, .inl w_mo_read)), (mo_aheadA, .inl (κ 0, 340, .inl mo_ahead)), (mo_asideA, .inl (κ 0, 17, .inl mo_aside)), (mo_weighingsA, .inl (κ 0, 12, .inl mo_weighings)), (mo_bookA, .inl (κ 0, 30, .inl mo_book)), (mo_isKeptA, .inl (κ 1, 2, .inl mo_isKept)), (mo_keptA, .inl (κ 0, 34, .inl mo_kept)), (mo_seedsA, .inl (κ 0, 2, .inl mo_seeds))]) := hD
        refine lv_aload_n hx hb dX9_ransom_154 rfl (lv_at hl 0 rfl) ?_
        refine lv_iconst (v := 0) hx hb dX9_ransom_155 (by decide) ?_
        refine va_put (D := D) (ci := 9) (v := .int 0) (ty := .int) (C := RX9) (T := TX9) (N := 21) hx hb hts iw9 tyX9 tyX9_ok nmX9 hown hK.1 hP hD hS 0 rfl rfl 15 (by decide) k4 (fun _ h9 => h9) rfl (tyX9_ok 15 (by decide)) rfl rfl (Nat.le_of_ble_eq_true rfl) dX9_ransom_156 (fun H locs hP hD hS => ?_)
        have hP : va_P D vwCl ([(moo, .inr (9, [.ref mo_toldA, .ref mo_stA, .int w_mo_isThere, .int mo_seed, .ref mo_textA, .int w_mo_typed, .int w_mo_faultAt, .int w_mo_place, .int w_mo_wrong, .int w_mo_value, .ref mo_readA, .ref mo_aheadA, .int 0, .ref mo_asideA, .ref mo_weighingsA, .int 0, .ref mo_bookA, .int mo_entries, .ref mo_isKeptA, .ref mo_keptA, .ref mo_seedsA])), (mo_toldA, .inl (κ 0, 37, .inl w_mo_told)), (mo_stA, .inl (κ 0, 17, .inl (upd w_mo_st 14 (w_mo_told 0)))), (mo_textA, .inl (κ 0, 240, .inl mo_text)), (mo_readA, .inl (κ 0, 37, .inl w_mo_read)), (mo_aheadA, .inl (κ 0, 340, .inl mo_ahead)), (mo_asideA, .inl (κ 0, 17, .inl mo_aside)), (mo_weighingsA, .inl (κ 0, 12, .inl mo_weighings)), (mo_bookA, .inl (κ 0, 30, .inl mo_book)), (mo_isKeptA, .inl (κ 1, 2, .inl mo_isKept)), (mo_keptA, .inl (κ 0, 34, .inl mo_kept)), (mo_seedsA, .inl (κ 0, 2, .inl mo_seeds))]) H := hP
        have hD : va_D A ([(moo, .inr (9, [.ref mo_toldA, .ref mo_stA, .int w_mo_isThere, .int mo_seed, .ref mo_textA, .int w_mo_typed, .int w_mo_faultAt, .int w_mo_place, .int w_mo_wrong, .int w_mo_value, .ref mo_readA, .ref mo_aheadA, .int 0, .ref mo_asideA, .ref mo_weighingsA, .int 0, .ref mo_bookA, .int mo_entries, .ref mo_isKeptA, .ref mo_keptA, .ref mo_seedsA])), (mo_toldA, .inl (κ 0, 37, .inl w_mo_told)), (mo_stA, .inl (κ 0, 17, .inl (upd w_mo_st 14 (w_mo_told 0)))), (mo_textA, .inl (κ 0, 240, .inl mo_text)), (mo_readA, .inl (κ 0, 37, .inl w_mo_read)), (mo_aheadA, .inl (κ 0, 340, .inl mo_ahead)), (mo_asideA, .inl (κ 0, 17, .inl mo_aside)), (mo_weighingsA, .inl (κ 0, 12, .inl mo_weighings)), (mo_bookA, .inl (κ 0, 30, .inl mo_book)), (mo_isKeptA, .inl (κ 1, 2, .inl mo_isKept)), (mo_keptA, .inl (κ 0, 34, .inl mo_kept)), (mo_seedsA, .inl (κ 0, 2, .inl mo_seeds))]) := hD
        refine lv_aload_n hx hb dX9_ransom_159 rfl (lv_at hl 0 rfl) ?_
        refine lv_iconst (v := 0) hx hb dX9_ransom_160 (by decide) ?_
        refine va_put (D := D) (ci := 9) (v := .int 0) (ty := .int) (C := RX9) (T := TX9) (N := 21) hx hb hts iw9 tyX9 tyX9_ok nmX9 hown hK.1 hP hD hS 0 rfl rfl 17 (by decide) k5 (fun _ h9 => h9) rfl (tyX9_ok 17 (by decide)) rfl rfl (Nat.le_of_ble_eq_true rfl) dX9_ransom_161 (fun H locs hP hD hS => ?_)
        have hP : va_P D vwCl ([(moo, .inr (9, [.ref mo_toldA, .ref mo_stA, .int w_mo_isThere, .int mo_seed, .ref mo_textA, .int w_mo_typed, .int w_mo_faultAt, .int w_mo_place, .int w_mo_wrong, .int w_mo_value, .ref mo_readA, .ref mo_aheadA, .int 0, .ref mo_asideA, .ref mo_weighingsA, .int 0, .ref mo_bookA, .int 0, .ref mo_isKeptA, .ref mo_keptA, .ref mo_seedsA])), (mo_toldA, .inl (κ 0, 37, .inl w_mo_told)), (mo_stA, .inl (κ 0, 17, .inl (upd w_mo_st 14 (w_mo_told 0)))), (mo_textA, .inl (κ 0, 240, .inl mo_text)), (mo_readA, .inl (κ 0, 37, .inl w_mo_read)), (mo_aheadA, .inl (κ 0, 340, .inl mo_ahead)), (mo_asideA, .inl (κ 0, 17, .inl mo_aside)), (mo_weighingsA, .inl (κ 0, 12, .inl mo_weighings)), (mo_bookA, .inl (κ 0, 30, .inl mo_book)), (mo_isKeptA, .inl (κ 1, 2, .inl mo_isKept)), (mo_keptA, .inl (κ 0, 34, .inl mo_kept)), (mo_seedsA, .inl (κ 0, 2, .inl mo_seeds))]) H := hP
        have hD : va_D A ([(moo, .inr (9, [.ref mo_toldA, .ref mo_stA, .int w_mo_isThere, .int mo_seed, .ref mo_textA, .int w_mo_typed, .int w_mo_faultAt, .int w_mo_place, .int w_mo_wrong, .int w_mo_value, .ref mo_readA, .ref mo_aheadA, .int 0, .ref mo_asideA, .ref mo_weighingsA, .int 0, .ref mo_bookA, .int 0, .ref mo_isKeptA, .ref mo_keptA, .ref mo_seedsA])), (mo_toldA, .inl (κ 0, 37, .inl w_mo_told)), (mo_stA, .inl (κ 0, 17, .inl (upd w_mo_st 14 (w_mo_told 0)))), (mo_textA, .inl (κ 0, 240, .inl mo_text)), (mo_readA, .inl (κ 0, 37, .inl w_mo_read)), (mo_aheadA, .inl (κ 0, 340, .inl mo_ahead)), (mo_asideA, .inl (κ 0, 17, .inl mo_aside)), (mo_weighingsA, .inl (κ 0, 12, .inl mo_weighings)), (mo_bookA, .inl (κ 0, 30, .inl mo_book)), (mo_isKeptA, .inl (κ 1, 2, .inl mo_isKept)), (mo_keptA, .inl (κ 0, 34, .inl mo_kept)), (mo_seedsA, .inl (κ 0, 2, .inl mo_seeds))]) := hD
        refine lv_aload_n hx hb dX9_ransom_164 rfl (lv_at hl 0 rfl) ?_
        refine va_get (D := D) (ci := 9) (v := .ref mo_isKeptA) (C := RX9) (T := TX9) (N := 21) hx hb hts iw9 hown hK.1 hP 0 rfl rfl 18 (by decide) k6 (fun _ h9 => h9) rfl dX9_ransom_165 ?_
        refine lv_iconst (v := 0) hx hb dX9_ransom_168 (by decide) ?_
        refine lv_iconst (v := 0) hx hb dX9_ransom_169 (by decide) ?_
        refine kr_zast (f := mo_isKept) (j := 0) (x := 0) hx hb hK hP hD hS 9 rfl (by decide) (by decide) (by decide) dX9_ransom_170 (fun H locs hP hD hS => ?_)
        have hP : va_P D vwCl ([(moo, .inr (9, [.ref mo_toldA, .ref mo_stA, .int w_mo_isThere, .int mo_seed, .ref mo_textA, .int w_mo_typed, .int w_mo_faultAt, .int w_mo_place, .int w_mo_wrong, .int w_mo_value, .ref mo_readA, .ref mo_aheadA, .int 0, .ref mo_asideA, .ref mo_weighingsA, .int 0, .ref mo_bookA, .int 0, .ref mo_isKeptA, .ref mo_keptA, .ref mo_seedsA])), (mo_toldA, .inl (κ 0, 37, .inl w_mo_told)), (mo_stA, .inl (κ 0, 17, .inl (upd w_mo_st 14 (w_mo_told 0)))), (mo_textA, .inl (κ 0, 240, .inl mo_text)), (mo_readA, .inl (κ 0, 37, .inl w_mo_read)), (mo_aheadA, .inl (κ 0, 340, .inl mo_ahead)), (mo_asideA, .inl (κ 0, 17, .inl mo_aside)), (mo_weighingsA, .inl (κ 0, 12, .inl mo_weighings)), (mo_bookA, .inl (κ 0, 30, .inl mo_book)), (mo_isKeptA, .inl (κ 1, 2, .inl (upd mo_isKept 0 0))), (mo_keptA, .inl (κ 0, 34, .inl mo_kept)), (mo_seedsA, .inl (κ 0, 2, .inl mo_seeds))]) H := hP
        have hD : va_D A ([(moo, .inr (9, [.ref mo_toldA, .ref mo_stA, .int w_mo_isThere, .int mo_seed, .ref mo_textA, .int w_mo_typed, .int w_mo_faultAt, .int w_mo_place, .int w_mo_wrong, .int w_mo_value, .ref mo_readA, .ref mo_aheadA, .int 0, .ref mo_asideA, .ref mo_weighingsA, .int 0, .ref mo_bookA, .int 0, .ref mo_isKeptA, .ref mo_keptA, .ref mo_seedsA])), (mo_toldA, .inl (κ 0, 37, .inl w_mo_told)), (mo_stA, .inl (κ 0, 17, .inl (upd w_mo_st 14 (w_mo_told 0)))), (mo_textA, .inl (κ 0, 240, .inl mo_text)), (mo_readA, .inl (κ 0, 37, .inl w_mo_read)), (mo_aheadA, .inl (κ 0, 340, .inl mo_ahead)), (mo_asideA, .inl (κ 0, 17, .inl mo_aside)), (mo_weighingsA, .inl (κ 0, 12, .inl mo_weighings)), (mo_bookA, .inl (κ 0, 30, .inl mo_book)), (mo_isKeptA, .inl (κ 1, 2, .inl (upd mo_isKept 0 0))), (mo_keptA, .inl (κ 0, 34, .inl mo_kept)), (mo_seedsA, .inl (κ 0, 2, .inl mo_seeds))]) := hD
        refine lv_aload_n hx hb dX9_ransom_171 rfl (lv_at hl 0 rfl) ?_
        refine va_get (D := D) (ci := 9) (v := .ref mo_isKeptA) (C := RX9) (T := TX9) (N := 21) hx hb hts iw9 hown hK.1 hP 0 rfl rfl 18 (by decide) k6 (fun _ h9 => h9) rfl dX9_ransom_172 ?_
        refine lv_iconst (v := 1) hx hb dX9_ransom_175 (by decide) ?_
        refine lv_iconst (v := 0) hx hb dX9_ransom_176 (by decide) ?_
        refine kr_zast (f := (upd mo_isKept 0 0)) (j := 1) (x := 0) hx hb hK hP hD hS 9 rfl (by decide) (by decide) (by decide) dX9_ransom_177 (fun H locs hP hD hS => ?_)
        have hP : va_P D vwCl ([(moo, .inr (9, [.ref mo_toldA, .ref mo_stA, .int w_mo_isThere, .int mo_seed, .ref mo_textA, .int w_mo_typed, .int w_mo_faultAt, .int w_mo_place, .int w_mo_wrong, .int w_mo_value, .ref mo_readA, .ref mo_aheadA, .int 0, .ref mo_asideA, .ref mo_weighingsA, .int 0, .ref mo_bookA, .int 0, .ref mo_isKeptA, .ref mo_keptA, .ref mo_seedsA])), (mo_toldA, .inl (κ 0, 37, .inl w_mo_told)), (mo_stA, .inl (κ 0, 17, .inl (upd w_mo_st 14 (w_mo_told 0)))), (mo_textA, .inl (κ 0, 240, .inl mo_text)), (mo_readA, .inl (κ 0, 37, .inl w_mo_read)), (mo_aheadA, .inl (κ 0, 340, .inl mo_ahead)), (mo_asideA, .inl (κ 0, 17, .inl mo_aside)), (mo_weighingsA, .inl (κ 0, 12, .inl mo_weighings)), (mo_bookA, .inl (κ 0, 30, .inl mo_book)), (mo_isKeptA, .inl (κ 1, 2, .inl (upd (upd mo_isKept 0 0) 1 0))), (mo_keptA, .inl (κ 0, 34, .inl mo_kept)), (mo_seedsA, .inl (κ 0, 2, .inl mo_seeds))]) H := hP
        have hD : va_D A ([(moo, .inr (9, [.ref mo_toldA, .ref mo_stA, .int w_mo_isThere, .int mo_seed, .ref mo_textA, .int w_mo_typed, .int w_mo_faultAt, .int w_mo_place, .int w_mo_wrong, .int w_mo_value, .ref mo_readA, .ref mo_aheadA, .int 0, .ref mo_asideA, .ref mo_weighingsA, .int 0, .ref mo_bookA, .int 0, .ref mo_isKeptA, .ref mo_keptA, .ref mo_seedsA])), (mo_toldA, .inl (κ 0, 37, .inl w_mo_told)), (mo_stA, .inl (κ 0, 17, .inl (upd w_mo_st 14 (w_mo_told 0)))), (mo_textA, .inl (κ 0, 240, .inl mo_text)), (mo_readA, .inl (κ 0, 37, .inl w_mo_read)), (mo_aheadA, .inl (κ 0, 340, .inl mo_ahead)), (mo_asideA, .inl (κ 0, 17, .inl mo_aside)), (mo_weighingsA, .inl (κ 0, 12, .inl mo_weighings)), (mo_bookA, .inl (κ 0, 30, .inl mo_book)), (mo_isKeptA, .inl (κ 1, 2, .inl (upd (upd mo_isKept 0 0) 1 0))), (mo_keptA, .inl (κ 0, 34, .inl mo_kept)), (mo_seedsA, .inl (κ 0, 2, .inl mo_seeds))]) := hD
        refine lv_aload_n hx hb dX9_ransom_178 rfl (lv_at hl 0 rfl) ?_
        refine va_get (D := D) (ci := 9) (v := .ref mo_toldA) (C := RX9) (T := TX9) (N := 21) hx hb hts iw9 hown hK.1 hP 0 rfl rfl 0 (by decide) k2 (fun _ h9 => h9) rfl dX9_ransom_179 ?_
        refine lv_iconst (v := 2) hx hb dX9_ransom_182 (by decide) ?_
        refine kr_iald (f := w_mo_told) (j := 2) hx hb hK hP 1 rfl (by decide) (by decide) dX9_ransom_183 ?_
        have hres := Option.some.inj hres
        have h0 := (Prod.mk.inj hres).1
        replace hres := (Prod.mk.inj hres).2
        have h1 := (Prod.mk.inj hres).1
        replace hres := (Prod.mk.inj hres).2
        have h2 := (Prod.mk.inj hres).1
        replace hres := (Prod.mk.inj hres).2
        have h3 := (Prod.mk.inj hres).1
        replace hres := (Prod.mk.inj hres).2
        have h4 := (Prod.mk.inj hres).1
        replace hres := (Prod.mk.inj hres).2
        have h5 := (Prod.mk.inj hres).1
        replace hres := (Prod.mk.inj hres).2
        have h6 := (Prod.mk.inj hres).1
        replace hres := (Prod.mk.inj hres).2
        have h7 := (Prod.mk.inj hres).1
        replace hres := (Prod.mk.inj hres).2
        have h8 := (Prod.mk.inj hres).1
        replace hres := (Prod.mk.inj hres).2
        have h9 := (Prod.mk.inj hres).1
        replace hres := (Prod.mk.inj hres).2
        have h10 := (Prod.mk.inj hres).1
        replace hres := (Prod.mk.inj hres).2
        have h11 := (Prod.mk.inj hres).1
        replace hres := (Prod.mk.inj hres).2
        have h12 := (Prod.mk.inj hres).1
        replace hres := (Prod.mk.inj hres).2
        have h13 := hres
        subst h0
        subst h1
        subst h2
        subst h3
        subst h4
        subst h5
        subst h6
        subst h7
        subst h8
        subst h9
        subst h10
        subst h11
        subst h12
        subst h13
        exact hret _ _ _ _ (vp_nar_int _) hP hD hS dX9_ransom_184
      · replace hres := og_f c10 hres
        refine lv_aload_n hx hb dX9_ransom_105 rfl (lv_at hl 0 rfl) ?_
        refine va_get (D := D) (ci := 9) (v := .ref mo_stA) (C := RX9) (T := TX9) (N := 21) hx hb hts iw9 hown hK.1 hP 0 rfl rfl 1 (by decide) k1 (fun _ h9 => h9) rfl dX9_ransom_106 ?_
        refine lv_iload_n hx hb dX9_ransom_109 rfl (lv_at hl 1 rfl) ?_
        refine lv_iload_n hx hb dX9_ransom_110 rfl (lv_at hl 1 rfl) ?_
        refine lv_bipush (v := 6) hx hb dX9_ransom_111 (by decide) ?_
        refine lv_icmp_ge (tgt := 128) hx hb dX9_ransom_113 (by decide) (fun c11 => ?_) (fun c11 => ?_)
        · replace hres := og_t c11 hres
          refine lv_iconst (v := 0) hx hb dX9_ransom_128 (by decide) ?_
          exact L129 v2 0 v2 w_mo_told w_mo_st w_mo_isThere w_mo_typed w_mo_faultAt w_mo_place w_mo_wrong w_mo_value w_mo_read _ _ _ hP hD hS (lv_sub hl [0, 1] rfl) hres
        · replace hres := og_f c11 hres
          refine lv_aload_n hx hb dX9_ransom_116 rfl (lv_at hl 0 rfl) ?_
          refine va_get (D := D) (ci := 9) (v := .ref mo_toldA) (C := RX9) (T := TX9) (N := 21) hx hb hts iw9 hown hK.1 hP 0 rfl rfl 0 (by decide) k2 (fun _ h9 => h9) rfl dX9_ransom_117 ?_
          refine lv_bipush (v := 7) hx hb dX9_ransom_120 (by decide) ?_
          refine lv_iload_n hx hb dX9_ransom_122 rfl (lv_at hl 1 rfl) ?_
          refine lv_iadd hx hb dX9_ransom_123 ?_
          obtain ⟨g12, hres⟩ := og_no hres
          refine kr_iald (f := w_mo_told) (j := (7 + v2).toNatClampNeg) hx hb hK hP 1 rfl g12 rfl dX9_ransom_124 ?_
          refine lv_goto (tgt := 129) hx hb dX9_ransom_125 (by decide) ?_
          exact L129 v2 (w_mo_told ((7 + v2).toNatClampNeg)) v2 w_mo_told w_mo_st w_mo_isThere w_mo_typed w_mo_faultAt w_mo_place w_mo_wrong w_mo_value w_mo_read _ _ _ hP hD hS (lv_sub hl [0, 1] rfl) hres
  have L73 : ∀ (n73 : Nat) (v2 : Int32) (w_mo_told : Nat → Int32) (w_mo_isThere : Int32) (w_mo_typed : Int32) (w_mo_faultAt : Int32) (w_mo_place : Int32) (w_mo_wrong : Int32) (w_mo_value : Int32) (w_mo_read : Nat → Int32) (H : Heap) (locs : List Loc) (ls : Array Slot), va_P D vwCl ([(moo, .inr (9, [.ref mo_toldA, .ref mo_stA, .int w_mo_isThere, .int mo_seed, .ref mo_textA, .int w_mo_typed, .int w_mo_faultAt, .int w_mo_place, .int w_mo_wrong, .int w_mo_value, .ref mo_readA, .ref mo_aheadA, .int mo_undoMany, .ref mo_asideA, .ref mo_weighingsA, .int mo_weighed, .ref mo_bookA, .int mo_entries, .ref mo_isKeptA, .ref mo_keptA, .ref mo_seedsA])), (mo_toldA, .inl (κ 0, 37, .inl w_mo_told)), (mo_stA, .inl (κ 0, 17, .inl mo_st)), (mo_textA, .inl (κ 0, 240, .inl mo_text)), (mo_readA, .inl (κ 0, 37, .inl w_mo_read)), (mo_aheadA, .inl (κ 0, 340, .inl mo_ahead)), (mo_asideA, .inl (κ 0, 17, .inl mo_aside)), (mo_weighingsA, .inl (κ 0, 12, .inl mo_weighings)), (mo_bookA, .inl (κ 0, 30, .inl mo_book)), (mo_isKeptA, .inl (κ 1, 2, .inl mo_isKept)), (mo_keptA, .inl (κ 0, 34, .inl mo_kept)), (mo_seedsA, .inl (κ 0, 2, .inl mo_seeds))]) H → va_D A ([(moo, .inr (9, [.ref mo_toldA, .ref mo_stA, .int w_mo_isThere, .int mo_seed, .ref mo_textA, .int w_mo_typed, .int w_mo_faultAt, .int w_mo_place, .int w_mo_wrong, .int w_mo_value, .ref mo_readA, .ref mo_aheadA, .int mo_undoMany, .ref mo_asideA, .ref mo_weighingsA, .int mo_weighed, .ref mo_bookA, .int mo_entries, .ref mo_isKeptA, .ref mo_keptA, .ref mo_seedsA])), (mo_toldA, .inl (κ 0, 37, .inl w_mo_told)), (mo_stA, .inl (κ 0, 17, .inl mo_st)), (mo_textA, .inl (κ 0, 240, .inl mo_text)), (mo_readA, .inl (κ 0, 37, .inl w_mo_read)), (mo_aheadA, .inl (κ 0, 340, .inl mo_ahead)), (mo_asideA, .inl (κ 0, 17, .inl mo_aside)), (mo_weighingsA, .inl (κ 0, 12, .inl mo_weighings)), (mo_bookA, .inl (κ 0, 30, .inl mo_book)), (mo_isKeptA, .inl (κ 1, 2, .inl mo_isKept)), (mo_keptA, .inl (κ 0, 34, .inl mo_kept)), (mo_seedsA, .inl (κ 0, 2, .inl mo_seeds))]) → va_S A s.heap H locs → lv_has ls 3 [(0, .ref moo), (2, .int v2)] → pX9_ransom_L73 N mo_st mo_isKept n73 v2 w_mo_told w_mo_isThere w_mo_typed w_mo_faultAt w_mo_place w_mo_wrong w_mo_value w_mo_read = some (r0, z_mo_told, z_mo_st, z_mo_isThere, z_mo_typed, z_mo_faultAt, z_mo_place, z_mo_wrong, z_mo_value, z_mo_read, z_mo_undoMany, z_mo_weighed, z_mo_entries, z_mo_isKept) → W p l e { frames := 5, cells := 0, slots := 0, locals := 500 } s m args below meth c H locs 0 0 Q (F0 m 73 ls []) := by
    intro n73
    induction n73 with
    | zero =>
      intro v2 w_mo_told w_mo_isThere w_mo_typed w_mo_faultAt w_mo_place w_mo_wrong w_mo_value w_mo_read H locs ls hP hD hS hl hres
      exact absurd (show none = some _ from hres) (by simp)
    | succ n73 ih73 =>
      intro v2 w_mo_told w_mo_isThere w_mo_typed w_mo_faultAt w_mo_place w_mo_wrong w_mo_value w_mo_read H locs ls hP hD hS hl hres
      rw [pX9_ransom_L73] at hres
      refine lv_iload_n hx hb dX9_ransom_73 rfl (lv_at hl 1 rfl) ?_
      refine lv_bipush (v := 37) hx hb dX9_ransom_74 (by decide) ?_
      refine lv_icmp_ge (tgt := 97) hx hb dX9_ransom_76 (by decide) (fun c13 => ?_) (fun c13 => ?_)
      · replace hres := og_t c13 hres
        refine lv_iconst (v := 0) hx hb dX9_ransom_97 (by decide) ?_
        refine lv_istore_n (lv' := [(2, .int 0), (0, .ref moo)]) hx hb dX9_ransom_98 rfl hl (by decide) rfl (fun ls hl => ?_)
        exact L99 N 0 w_mo_told mo_st w_mo_isThere w_mo_typed w_mo_faultAt w_mo_place w_mo_wrong w_mo_value w_mo_read _ _ _ hP hD hS (lv_sub hl [1, 0] rfl) hres
      · replace hres := og_f c13 hres
        refine lv_aload_n hx hb dX9_ransom_79 rfl (lv_at hl 0 rfl) ?_
        refine va_get (D := D) (ci := 9) (v := .ref mo_toldA) (C := RX9) (T := TX9) (N := 21) hx hb hts iw9 hown hK.1 hP 0 rfl rfl 0 (by decide) k2 (fun _ h9 => h9) rfl dX9_ransom_80 ?_
        refine lv_iload_n hx hb dX9_ransom_83 rfl (lv_at hl 1 rfl) ?_
        refine lv_aload_n hx hb dX9_ransom_84 rfl (lv_at hl 0 rfl) ?_
        refine va_get (D := D) (ci := 9) (v := .ref mo_readA) (C := RX9) (T := TX9) (N := 21) hx hb hts iw9 hown hK.1 hP 0 rfl rfl 10 (by decide) k0 (fun _ h9 => h9) rfl dX9_ransom_85 ?_
        refine lv_iload_n hx hb dX9_ransom_88 rfl (lv_at hl 1 rfl) ?_
        obtain ⟨g14, hres⟩ := og_no hres
        refine kr_iald (f := w_mo_read) (j := v2.toNatClampNeg) hx hb hK hP 4 rfl g14 rfl dX9_ransom_89 ?_
        refine kr_iast (f := w_mo_told) (j := v2.toNatClampNeg) (x := (w_mo_read v2.toNatClampNeg)) hx hb hK hP hD hS 1 rfl g14 rfl dX9_ransom_90 (fun H locs hP hD hS => ?_)
        have hP : va_P D vwCl ([(moo, .inr (9, [.ref mo_toldA, .ref mo_stA, .int w_mo_isThere, .int mo_seed, .ref mo_textA, .int w_mo_typed, .int w_mo_faultAt, .int w_mo_place, .int w_mo_wrong, .int w_mo_value, .ref mo_readA, .ref mo_aheadA, .int mo_undoMany, .ref mo_asideA, .ref mo_weighingsA, .int mo_weighed, .ref mo_bookA, .int mo_entries, .ref mo_isKeptA, .ref mo_keptA, .ref mo_seedsA])), (mo_toldA, .inl (κ 0, 37, .inl (upd w_mo_told v2.toNatClampNeg (w_mo_read v2.toNatClampNeg)))), (mo_stA, .inl (κ 0, 17, .inl mo_st)), (mo_textA, .inl (κ 0, 240, .inl mo_text)), (mo_readA, .inl (κ 0, 37, .inl w_mo_read)), (mo_aheadA, .inl (κ 0, 340, .inl mo_ahead)), (mo_asideA, .inl (κ 0, 17, .inl mo_aside)), (mo_weighingsA, .inl (κ 0, 12, .inl mo_weighings)), (mo_bookA, .inl (κ 0, 30, .inl mo_book)), (mo_isKeptA, .inl (κ 1, 2, .inl mo_isKept)), (mo_keptA, .inl (κ 0, 34, .inl mo_kept)), (mo_seedsA, .inl (κ 0, 2, .inl mo_seeds))]) H := hP
        have hD : va_D A ([(moo, .inr (9, [.ref mo_toldA, .ref mo_stA, .int w_mo_isThere, .int mo_seed, .ref mo_textA, .int w_mo_typed, .int w_mo_faultAt, .int w_mo_place, .int w_mo_wrong, .int w_mo_value, .ref mo_readA, .ref mo_aheadA, .int mo_undoMany, .ref mo_asideA, .ref mo_weighingsA, .int mo_weighed, .ref mo_bookA, .int mo_entries, .ref mo_isKeptA, .ref mo_keptA, .ref mo_seedsA])), (mo_toldA, .inl (κ 0, 37, .inl (upd w_mo_told v2.toNatClampNeg (w_mo_read v2.toNatClampNeg)))), (mo_stA, .inl (κ 0, 17, .inl mo_st)), (mo_textA, .inl (κ 0, 240, .inl mo_text)), (mo_readA, .inl (κ 0, 37, .inl w_mo_read)), (mo_aheadA, .inl (κ 0, 340, .inl mo_ahead)), (mo_asideA, .inl (κ 0, 17, .inl mo_aside)), (mo_weighingsA, .inl (κ 0, 12, .inl mo_weighings)), (mo_bookA, .inl (κ 0, 30, .inl mo_book)), (mo_isKeptA, .inl (κ 1, 2, .inl mo_isKept)), (mo_keptA, .inl (κ 0, 34, .inl mo_kept)), (mo_seedsA, .inl (κ 0, 2, .inl mo_seeds))]) := hD
        refine lv_iinc (v := (v2 + 1)) (lv' := [(2, .int (v2 + 1)), (0, .ref moo)]) hx hb dX9_ransom_91 hl (k := 1) rfl rfl (by decide) rfl (fun ls hl => ?_)
        refine lv_goto (tgt := 73) hx hb dX9_ransom_94 (by decide) ?_
        exact ih73 (v2 + 1) (upd w_mo_told v2.toNatClampNeg (w_mo_read v2.toNatClampNeg)) w_mo_isThere w_mo_typed w_mo_faultAt w_mo_place w_mo_wrong w_mo_value w_mo_read _ _ _ hP hD hS (lv_sub hl [1, 0] rfl) hres
  have L51 : ∀ (v1 : Int32) (s0 : Int32) (w_mo_isThere : Int32) (w_mo_place : Int32) (w_mo_wrong : Int32) (w_mo_value : Int32) (w_mo_read : Nat → Int32) (H : Heap) (locs : List Loc) (ls : Array Slot), va_P D vwCl ([(moo, .inr (9, [.ref mo_toldA, .ref mo_stA, .int w_mo_isThere, .int mo_seed, .ref mo_textA, .int mo_typed, .int mo_faultAt, .int w_mo_place, .int w_mo_wrong, .int w_mo_value, .ref mo_readA, .ref mo_aheadA, .int mo_undoMany, .ref mo_asideA, .ref mo_weighingsA, .int mo_weighed, .ref mo_bookA, .int mo_entries, .ref mo_isKeptA, .ref mo_keptA, .ref mo_seedsA])), (mo_toldA, .inl (κ 0, 37, .inl mo_told)), (mo_stA, .inl (κ 0, 17, .inl mo_st)), (mo_textA, .inl (κ 0, 240, .inl mo_text)), (mo_readA, .inl (κ 0, 37, .inl w_mo_read)), (mo_aheadA, .inl (κ 0, 340, .inl mo_ahead)), (mo_asideA, .inl (κ 0, 17, .inl mo_aside)), (mo_weighingsA, .inl (κ 0, 12, .inl mo_weighings)), (mo_bookA, .inl (κ 0, 30, .inl mo_book)), (mo_isKeptA, .inl (κ 1, 2, .inl mo_isKept)), (mo_keptA, .inl (κ 0, 34, .inl mo_kept)), (mo_seedsA, .inl (κ 0, 2, .inl mo_seeds))]) H → va_D A ([(moo, .inr (9, [.ref mo_toldA, .ref mo_stA, .int w_mo_isThere, .int mo_seed, .ref mo_textA, .int mo_typed, .int mo_faultAt, .int w_mo_place, .int w_mo_wrong, .int w_mo_value, .ref mo_readA, .ref mo_aheadA, .int mo_undoMany, .ref mo_asideA, .ref mo_weighingsA, .int mo_weighed, .ref mo_bookA, .int mo_entries, .ref mo_isKeptA, .ref mo_keptA, .ref mo_seedsA])), (mo_toldA, .inl (κ 0, 37, .inl mo_told)), (mo_stA, .inl (κ 0, 17, .inl mo_st)), (mo_textA, .inl (κ 0, 240, .inl mo_text)), (mo_readA, .inl (κ 0, 37, .inl w_mo_read)), (mo_aheadA, .inl (κ 0, 340, .inl mo_ahead)), (mo_asideA, .inl (κ 0, 17, .inl mo_aside)), (mo_weighingsA, .inl (κ 0, 12, .inl mo_weighings)), (mo_bookA, .inl (κ 0, 30, .inl mo_book)), (mo_isKeptA, .inl (κ 1, 2, .inl mo_isKept)), (mo_keptA, .inl (κ 0, 34, .inl mo_kept)), (mo_seedsA, .inl (κ 0, 2, .inl mo_seeds))]) → va_S A s.heap H locs → lv_has ls 3 [(0, .ref moo), (1, .int v1)] → pX9_ransom_L51 N mo_told mo_st mo_undoMany mo_weighed mo_entries mo_isKept v1 s0 w_mo_isThere w_mo_place w_mo_wrong w_mo_value w_mo_read = some (r0, z_mo_told, z_mo_st, z_mo_isThere, z_mo_typed, z_mo_faultAt, z_mo_place, z_mo_wrong, z_mo_value, z_mo_read, z_mo_undoMany, z_mo_weighed, z_mo_entries, z_mo_isKept) → W p l e { frames := 5, cells := 0, slots := 0, locals := 500 } s m args below meth c H locs 0 0 Q (F0 m 51 ls [.int s0, .ref moo]) := by
    intro v1 s0 w_mo_isThere w_mo_place w_mo_wrong w_mo_value w_mo_read H locs ls hP hD hS hl hres
    unfold pX9_ransom_L51 at hres
    refine va_put (D := D) (ci := 9) (v := .int s0) (ty := .int) (C := RX9) (T := TX9) (N := 21) hx hb hts iw9 tyX9 tyX9_ok nmX9 hown hK.1 hP hD hS 0 rfl rfl 6 (by decide) k7 (fun _ h9 => h9) rfl (tyX9_ok 6 (by decide)) rfl rfl (Nat.le_of_ble_eq_true rfl) dX9_ransom_51 (fun H locs hP hD hS => ?_)
    have hP : va_P D vwCl ([(moo, .inr (9, [.ref mo_toldA, .ref mo_stA, .int w_mo_isThere, .int mo_seed, .ref mo_textA, .int mo_typed, .int s0, .int w_mo_place, .int w_mo_wrong, .int w_mo_value, .ref mo_readA, .ref mo_aheadA, .int mo_undoMany, .ref mo_asideA, .ref mo_weighingsA, .int mo_weighed, .ref mo_bookA, .int mo_entries, .ref mo_isKeptA, .ref mo_keptA, .ref mo_seedsA])), (mo_toldA, .inl (κ 0, 37, .inl mo_told)), (mo_stA, .inl (κ 0, 17, .inl mo_st)), (mo_textA, .inl (κ 0, 240, .inl mo_text)), (mo_readA, .inl (κ 0, 37, .inl w_mo_read)), (mo_aheadA, .inl (κ 0, 340, .inl mo_ahead)), (mo_asideA, .inl (κ 0, 17, .inl mo_aside)), (mo_weighingsA, .inl (κ 0, 12, .inl mo_weighings)), (mo_bookA, .inl (κ 0, 30, .inl mo_book)), (mo_isKeptA, .inl (κ 1, 2, .inl mo_isKept)), (mo_keptA, .inl (κ 0, 34, .inl mo_kept)), (mo_seedsA, .inl (κ 0, 2, .inl mo_seeds))]) H := hP
    have hD : va_D A ([(moo, .inr (9, [.ref mo_toldA, .ref mo_stA, .int w_mo_isThere, .int mo_seed, .ref mo_textA, .int mo_typed, .int s0, .int w_mo_place, .int w_mo_wrong, .int w_mo_value, .ref mo_readA, .ref mo_aheadA, .int mo_undoMany, .ref mo_asideA, .ref mo_weighingsA, .int mo_weighed, .ref mo_bookA, .int mo_entries, .ref mo_isKeptA, .ref mo_keptA, .ref mo_seedsA])), (mo_toldA, .inl (κ 0, 37, .inl mo_told)), (mo_stA, .inl (κ 0, 17, .inl mo_st)), (mo_textA, .inl (κ 0, 240, .inl mo_text)), (mo_readA, .inl (κ 0, 37, .inl w_mo_read)), (mo_aheadA, .inl (κ 0, 340, .inl mo_ahead)), (mo_asideA, .inl (κ 0, 17, .inl mo_aside)), (mo_weighingsA, .inl (κ 0, 12, .inl mo_weighings)), (mo_bookA, .inl (κ 0, 30, .inl mo_book)), (mo_isKeptA, .inl (κ 1, 2, .inl mo_isKept)), (mo_keptA, .inl (κ 0, 34, .inl mo_kept)), (mo_seedsA, .inl (κ 0, 2, .inl mo_seeds))]) := hD
    refine lv_aload_n hx hb dX9_ransom_54 rfl (lv_at hl 0 rfl) ?_
    refine lv_iconst (v := 0) hx hb dX9_ransom_55 (by decide) ?_
    refine va_put (D := D) (ci := 9) (v := .int 0) (ty := .int) (C := RX9) (T := TX9) (N := 21) hx hb hts iw9 tyX9 tyX9_ok nmX9 hown hK.1 hP hD hS 0 rfl rfl 5 (by decide) k8 (fun _ h9 => h9) rfl (tyX9_ok 5 (by decide)) rfl rfl (Nat.le_of_ble_eq_true rfl) dX9_ransom_56 (fun H locs hP hD hS => ?_)
    have hP : va_P D vwCl ([(moo, .inr (9, [.ref mo_toldA, .ref mo_stA, .int w_mo_isThere, .int mo_seed, .ref mo_textA, .int 0, .int s0, .int w_mo_place, .int w_mo_wrong, .int w_mo_value, .ref mo_readA, .ref mo_aheadA, .int mo_undoMany, .ref mo_asideA, .ref mo_weighingsA, .int mo_weighed, .ref mo_bookA, .int mo_entries, .ref mo_isKeptA, .ref mo_keptA, .ref mo_seedsA])), (mo_toldA, .inl (κ 0, 37, .inl mo_told)), (mo_stA, .inl (κ 0, 17, .inl mo_st)), (mo_textA, .inl (κ 0, 240, .inl mo_text)), (mo_readA, .inl (κ 0, 37, .inl w_mo_read)), (mo_aheadA, .inl (κ 0, 340, .inl mo_ahead)), (mo_asideA, .inl (κ 0, 17, .inl mo_aside)), (mo_weighingsA, .inl (κ 0, 12, .inl mo_weighings)), (mo_bookA, .inl (κ 0, 30, .inl mo_book)), (mo_isKeptA, .inl (κ 1, 2, .inl mo_isKept)), (mo_keptA, .inl (κ 0, 34, .inl mo_kept)), (mo_seedsA, .inl (κ 0, 2, .inl mo_seeds))]) H := hP
    have hD : va_D A ([(moo, .inr (9, [.ref mo_toldA, .ref mo_stA, .int w_mo_isThere, .int mo_seed, .ref mo_textA, .int 0, .int s0, .int w_mo_place, .int w_mo_wrong, .int w_mo_value, .ref mo_readA, .ref mo_aheadA, .int mo_undoMany, .ref mo_asideA, .ref mo_weighingsA, .int mo_weighed, .ref mo_bookA, .int mo_entries, .ref mo_isKeptA, .ref mo_keptA, .ref mo_seedsA])), (mo_toldA, .inl (κ 0, 37, .inl mo_told)), (mo_stA, .inl (κ 0, 17, .inl mo_st)), (mo_textA, .inl (κ 0, 240, .inl mo_text)), (mo_readA, .inl (κ 0, 37, .inl w_mo_read)), (mo_aheadA, .inl (κ 0, 340, .inl mo_ahead)), (mo_asideA, .inl (κ 0, 17, .inl mo_aside)), (mo_weighingsA, .inl (κ 0, 12, .inl mo_weighings)), (mo_bookA, .inl (κ 0, 30, .inl mo_book)), (mo_isKeptA, .inl (κ 1, 2, .inl mo_isKept)), (mo_keptA, .inl (κ 0, 34, .inl mo_kept)), (mo_seedsA, .inl (κ 0, 2, .inl mo_seeds))]) := hD
    refine lv_iload_n hx hb dX9_ransom_59 rfl (lv_at hl 1 rfl) ?_
    refine lv_if_ne (tgt := 71) hx hb dX9_ransom_60 (by decide) (fun c15 => ?_) (fun c15 => ?_)
    · replace hres := og_f c15 hres
      refine lv_iconst (v := 0) hx hb dX9_ransom_71 (by decide) ?_
      refine lv_istore_n (lv' := [(2, .int 0), (0, .ref moo), (1, .int v1)]) hx hb dX9_ransom_72 rfl hl (by decide) rfl (fun ls hl => ?_)
      exact L73 N 0 mo_told w_mo_isThere 0 s0 w_mo_place w_mo_wrong w_mo_value w_mo_read _ _ _ hP hD hS (lv_sub hl [1, 0] rfl) hres
    · replace hres := og_t c15 hres
      refine lv_bipush (v := (-10)) hx hb dX9_ransom_63 (by decide) ?_
      refine lv_aload_n hx hb dX9_ransom_65 rfl (lv_at hl 0 rfl) ?_
      refine va_get (D := D) (ci := 9) (v := .int w_mo_wrong) (C := RX9) (T := TX9) (N := 21) hx hb hts iw9 hown hK.1 hP 0 rfl rfl 8 (by decide) k9 (fun _ h9 => h9) rfl dX9_ransom_66 ?_
      refine lv_isub hx hb dX9_ransom_69 ?_
      have hres := Option.some.inj hres
      have h0 := (Prod.mk.inj hres).1
      replace hres := (Prod.mk.inj hres).2
      have h1 := (Prod.mk.inj hres).1
      replace hres := (Prod.mk.inj hres).2
      have h2 := (Prod.mk.inj hres).1
      replace hres := (Prod.mk.inj hres).2
      have h3 := (Prod.mk.inj hres).1
      replace hres := (Prod.mk.inj hres).2
      have h4 := (Prod.mk.inj hres).1
      replace hres := (Prod.mk.inj hres).2
      have h5 := (Prod.mk.inj hres).1
      replace hres := (Prod.mk.inj hres).2
      have h6 := (Prod.mk.inj hres).1
      replace hres := (Prod.mk.inj hres).2
      have h7 := (Prod.mk.inj hres).1
      replace hres := (Prod.mk.inj hres).2
      have h8 := (Prod.mk.inj hres).1
      replace hres := (Prod.mk.inj hres).2
      have h9 := (Prod.mk.inj hres).1
      replace hres := (Prod.mk.inj hres).2
      have h10 := (Prod.mk.inj hres).1
      replace hres := (Prod.mk.inj hres).2
      have h11 := (Prod.mk.inj hres).1
      replace hres := (Prod.mk.inj hres).2
      have h12 := (Prod.mk.inj hres).1
      replace hres := (Prod.mk.inj hres).2
      have h13 := hres
      subst h0
      subst h1
      subst h2
      subst h3
      subst h4
      subst h5
      subst h6
      subst h7
      subst h8
      subst h9
      subst h10
      subst h11
      subst h12
      subst h13
      exact hret _ _ _ _ (vp_nar_int _) hP hD hS dX9_ransom_70
  have L35 : ∀ (v1 : Int32) (s0 : Int32) (w_mo_place : Int32) (w_mo_wrong : Int32) (w_mo_value : Int32) (w_mo_read : Nat → Int32) (H : Heap) (locs : List Loc) (ls : Array Slot), va_P D vwCl ([(moo, .inr (9, [.ref mo_toldA, .ref mo_stA, .int mo_isThere, .int mo_seed, .ref mo_textA, .int mo_typed, .int mo_faultAt, .int w_mo_place, .int w_mo_wrong, .int w_mo_value, .ref mo_readA, .ref mo_aheadA, .int mo_undoMany, .ref mo_asideA, .ref mo_weighingsA, .int mo_weighed, .ref mo_bookA, .int mo_entries, .ref mo_isKeptA, .ref mo_keptA, .ref mo_seedsA])), (mo_toldA, .inl (κ 0, 37, .inl mo_told)), (mo_stA, .inl (κ 0, 17, .inl mo_st)), (mo_textA, .inl (κ 0, 240, .inl mo_text)), (mo_readA, .inl (κ 0, 37, .inl w_mo_read)), (mo_aheadA, .inl (κ 0, 340, .inl mo_ahead)), (mo_asideA, .inl (κ 0, 17, .inl mo_aside)), (mo_weighingsA, .inl (κ 0, 12, .inl mo_weighings)), (mo_bookA, .inl (κ 0, 30, .inl mo_book)), (mo_isKeptA, .inl (κ 1, 2, .inl mo_isKept)), (mo_keptA, .inl (κ 0, 34, .inl mo_kept)), (mo_seedsA, .inl (κ 0, 2, .inl mo_seeds))]) H → va_D A ([(moo, .inr (9, [.ref mo_toldA, .ref mo_stA, .int mo_isThere, .int mo_seed, .ref mo_textA, .int mo_typed, .int mo_faultAt, .int w_mo_place, .int w_mo_wrong, .int w_mo_value, .ref mo_readA, .ref mo_aheadA, .int mo_undoMany, .ref mo_asideA, .ref mo_weighingsA, .int mo_weighed, .ref mo_bookA, .int mo_entries, .ref mo_isKeptA, .ref mo_keptA, .ref mo_seedsA])), (mo_toldA, .inl (κ 0, 37, .inl mo_told)), (mo_stA, .inl (κ 0, 17, .inl mo_st)), (mo_textA, .inl (κ 0, 240, .inl mo_text)), (mo_readA, .inl (κ 0, 37, .inl w_mo_read)), (mo_aheadA, .inl (κ 0, 340, .inl mo_ahead)), (mo_asideA, .inl (κ 0, 17, .inl mo_aside)), (mo_weighingsA, .inl (κ 0, 12, .inl mo_weighings)), (mo_bookA, .inl (κ 0, 30, .inl mo_book)), (mo_isKeptA, .inl (κ 1, 2, .inl mo_isKept)), (mo_keptA, .inl (κ 0, 34, .inl mo_kept)), (mo_seedsA, .inl (κ 0, 2, .inl mo_seeds))]) → va_S A s.heap H locs → lv_has ls 3 [(0, .ref moo), (1, .int v1)] → pX9_ransom_L35 N mo_told mo_st mo_undoMany mo_weighed mo_entries mo_isKept v1 s0 w_mo_place w_mo_wrong w_mo_value w_mo_read = some (r0, z_mo_told, z_mo_st, z_mo_isThere, z_mo_typed, z_mo_faultAt, z_mo_place, z_mo_wrong, z_mo_value, z_mo_read, z_mo_undoMany, z_mo_weighed, z_mo_entries, z_mo_isKept) → W p l e { frames := 5, cells := 0, slots := 0, locals := 500 } s m args below meth c H locs 0 0 Q (F0 m 35 ls [.int s0, .ref moo]) := by
    intro v1 s0 w_mo_place w_mo_wrong w_mo_value w_mo_read H locs ls hP hD hS hl hres
    unfold pX9_ransom_L35 at hres
    obtain ⟨g16, hres⟩ := og_no hres
    refine va_put (D := D) (ci := 9) (v := .int s0) (ty := .boolean) (C := RX9) (T := TX9) (N := 21) hx hb hts iw9 tyX9 tyX9_ok nmX9 hown hK.1 hP hD hS 0 rfl rfl 2 (by decide) k10 (fun _ h9 => h9) rfl (tyX9_ok 2 (by decide)) (kr_nz g16) (kr_fz g16) (Nat.le_of_ble_eq_true rfl) dX9_ransom_35 (fun H locs hP hD hS => ?_)
    have hP : va_P D vwCl ([(moo, .inr (9, [.ref mo_toldA, .ref mo_stA, .int s0, .int mo_seed, .ref mo_textA, .int mo_typed, .int mo_faultAt, .int w_mo_place, .int w_mo_wrong, .int w_mo_value, .ref mo_readA, .ref mo_aheadA, .int mo_undoMany, .ref mo_asideA, .ref mo_weighingsA, .int mo_weighed, .ref mo_bookA, .int mo_entries, .ref mo_isKeptA, .ref mo_keptA, .ref mo_seedsA])), (mo_toldA, .inl (κ 0, 37, .inl mo_told)), (mo_stA, .inl (κ 0, 17, .inl mo_st)), (mo_textA, .inl (κ 0, 240, .inl mo_text)), (mo_readA, .inl (κ 0, 37, .inl w_mo_read)), (mo_aheadA, .inl (κ 0, 340, .inl mo_ahead)), (mo_asideA, .inl (κ 0, 17, .inl mo_aside)), (mo_weighingsA, .inl (κ 0, 12, .inl mo_weighings)), (mo_bookA, .inl (κ 0, 30, .inl mo_book)), (mo_isKeptA, .inl (κ 1, 2, .inl mo_isKept)), (mo_keptA, .inl (κ 0, 34, .inl mo_kept)), (mo_seedsA, .inl (κ 0, 2, .inl mo_seeds))]) H := hP
    have hD : va_D A ([(moo, .inr (9, [.ref mo_toldA, .ref mo_stA, .int s0, .int mo_seed, .ref mo_textA, .int mo_typed, .int mo_faultAt, .int w_mo_place, .int w_mo_wrong, .int w_mo_value, .ref mo_readA, .ref mo_aheadA, .int mo_undoMany, .ref mo_asideA, .ref mo_weighingsA, .int mo_weighed, .ref mo_bookA, .int mo_entries, .ref mo_isKeptA, .ref mo_keptA, .ref mo_seedsA])), (mo_toldA, .inl (κ 0, 37, .inl mo_told)), (mo_stA, .inl (κ 0, 17, .inl mo_st)), (mo_textA, .inl (κ 0, 240, .inl mo_text)), (mo_readA, .inl (κ 0, 37, .inl w_mo_read)), (mo_aheadA, .inl (κ 0, 340, .inl mo_ahead)), (mo_asideA, .inl (κ 0, 17, .inl mo_aside)), (mo_weighingsA, .inl (κ 0, 12, .inl mo_weighings)), (mo_bookA, .inl (κ 0, 30, .inl mo_book)), (mo_isKeptA, .inl (κ 1, 2, .inl mo_isKept)), (mo_keptA, .inl (κ 0, 34, .inl mo_kept)), (mo_seedsA, .inl (κ 0, 2, .inl mo_seeds))]) := hD
    refine lv_aload_n hx hb dX9_ransom_38 rfl (lv_at hl 0 rfl) ?_
    refine lv_iload_n hx hb dX9_ransom_39 rfl (lv_at hl 1 rfl) ?_
    refine lv_if_eq (tgt := 47) hx hb dX9_ransom_40 (by decide) (fun c17 => ?_) (fun c17 => ?_)
    · replace hres := og_t c17 hres
      refine lv_aload_n hx hb dX9_ransom_47 rfl (lv_at hl 0 rfl) ?_
      refine va_get (D := D) (ci := 9) (v := .int w_mo_place) (C := RX9) (T := TX9) (N := 21) hx hb hts iw9 hown hK.1 hP 0 rfl rfl 7 (by decide) k11 (fun _ h9 => h9) rfl dX9_ransom_48 ?_
      exact L51 v1 w_mo_place s0 w_mo_place w_mo_wrong w_mo_value w_mo_read _ _ _ hP hD hS (lv_sub hl [0, 1] rfl) hres
    · replace hres := og_f c17 hres
      refine lv_iconst (v := (-1)) hx hb dX9_ransom_43 (by decide) ?_
      refine lv_goto (tgt := 51) hx hb dX9_ransom_44 (by decide) ?_
      exact L51 v1 (-1) s0 w_mo_place w_mo_wrong w_mo_value w_mo_read _ _ _ hP hD hS (lv_sub hl [0, 1] rfl) hres
  have L34 : ∀ (v1 : Int32) (w_mo_place : Int32) (w_mo_wrong : Int32) (w_mo_value : Int32) (w_mo_read : Nat → Int32) (H : Heap) (locs : List Loc) (ls : Array Slot), va_P D vwCl ([(moo, .inr (9, [.ref mo_toldA, .ref mo_stA, .int mo_isThere, .int mo_seed, .ref mo_textA, .int mo_typed, .int mo_faultAt, .int w_mo_place, .int w_mo_wrong, .int w_mo_value, .ref mo_readA, .ref mo_aheadA, .int mo_undoMany, .ref mo_asideA, .ref mo_weighingsA, .int mo_weighed, .ref mo_bookA, .int mo_entries, .ref mo_isKeptA, .ref mo_keptA, .ref mo_seedsA])), (mo_toldA, .inl (κ 0, 37, .inl mo_told)), (mo_stA, .inl (κ 0, 17, .inl mo_st)), (mo_textA, .inl (κ 0, 240, .inl mo_text)), (mo_readA, .inl (κ 0, 37, .inl w_mo_read)), (mo_aheadA, .inl (κ 0, 340, .inl mo_ahead)), (mo_asideA, .inl (κ 0, 17, .inl mo_aside)), (mo_weighingsA, .inl (κ 0, 12, .inl mo_weighings)), (mo_bookA, .inl (κ 0, 30, .inl mo_book)), (mo_isKeptA, .inl (κ 1, 2, .inl mo_isKept)), (mo_keptA, .inl (κ 0, 34, .inl mo_kept)), (mo_seedsA, .inl (κ 0, 2, .inl mo_seeds))]) H → va_D A ([(moo, .inr (9, [.ref mo_toldA, .ref mo_stA, .int mo_isThere, .int mo_seed, .ref mo_textA, .int mo_typed, .int mo_faultAt, .int w_mo_place, .int w_mo_wrong, .int w_mo_value, .ref mo_readA, .ref mo_aheadA, .int mo_undoMany, .ref mo_asideA, .ref mo_weighingsA, .int mo_weighed, .ref mo_bookA, .int mo_entries, .ref mo_isKeptA, .ref mo_keptA, .ref mo_seedsA])), (mo_toldA, .inl (κ 0, 37, .inl mo_told)), (mo_stA, .inl (κ 0, 17, .inl mo_st)), (mo_textA, .inl (κ 0, 240, .inl mo_text)), (mo_readA, .inl (κ 0, 37, .inl w_mo_read)), (mo_aheadA, .inl (κ 0, 340, .inl mo_ahead)), (mo_asideA, .inl (κ 0, 17, .inl mo_aside)), (mo_weighingsA, .inl (κ 0, 12, .inl mo_weighings)), (mo_bookA, .inl (κ 0, 30, .inl mo_book)), (mo_isKeptA, .inl (κ 1, 2, .inl mo_isKept)), (mo_keptA, .inl (κ 0, 34, .inl mo_kept)), (mo_seedsA, .inl (κ 0, 2, .inl mo_seeds))]) → va_S A s.heap H locs → lv_has ls 3 [(0, .ref moo), (1, .int v1)] → pX9_ransom_L34 N mo_told mo_st mo_undoMany mo_weighed mo_entries mo_isKept v1 w_mo_place w_mo_wrong w_mo_value w_mo_read = some (r0, z_mo_told, z_mo_st, z_mo_isThere, z_mo_typed, z_mo_faultAt, z_mo_place, z_mo_wrong, z_mo_value, z_mo_read, z_mo_undoMany, z_mo_weighed, z_mo_entries, z_mo_isKept) → W p l e { frames := 5, cells := 0, slots := 0, locals := 500 } s m args below meth c H locs 0 0 Q (F0 m 34 ls [.ref moo]) := by
    intro v1 w_mo_place w_mo_wrong w_mo_value w_mo_read H locs ls hP hD hS hl hres
    unfold pX9_ransom_L34 at hres
    refine lv_iconst (v := 0) hx hb dX9_ransom_34 (by decide) ?_
    exact L35 v1 0 w_mo_place w_mo_wrong w_mo_value w_mo_read _ _ _ hP hD hS (lv_sub hl [0, 1] rfl) hres
  have L30 : ∀ (v1 : Int32) (w_mo_place : Int32) (w_mo_wrong : Int32) (w_mo_value : Int32) (w_mo_read : Nat → Int32) (H : Heap) (locs : List Loc) (ls : Array Slot), va_P D vwCl ([(moo, .inr (9, [.ref mo_toldA, .ref mo_stA, .int mo_isThere, .int mo_seed, .ref mo_textA, .int mo_typed, .int mo_faultAt, .int w_mo_place, .int w_mo_wrong, .int w_mo_value, .ref mo_readA, .ref mo_aheadA, .int mo_undoMany, .ref mo_asideA, .ref mo_weighingsA, .int mo_weighed, .ref mo_bookA, .int mo_entries, .ref mo_isKeptA, .ref mo_keptA, .ref mo_seedsA])), (mo_toldA, .inl (κ 0, 37, .inl mo_told)), (mo_stA, .inl (κ 0, 17, .inl mo_st)), (mo_textA, .inl (κ 0, 240, .inl mo_text)), (mo_readA, .inl (κ 0, 37, .inl w_mo_read)), (mo_aheadA, .inl (κ 0, 340, .inl mo_ahead)), (mo_asideA, .inl (κ 0, 17, .inl mo_aside)), (mo_weighingsA, .inl (κ 0, 12, .inl mo_weighings)), (mo_bookA, .inl (κ 0, 30, .inl mo_book)), (mo_isKeptA, .inl (κ 1, 2, .inl mo_isKept)), (mo_keptA, .inl (κ 0, 34, .inl mo_kept)), (mo_seedsA, .inl (κ 0, 2, .inl mo_seeds))]) H → va_D A ([(moo, .inr (9, [.ref mo_toldA, .ref mo_stA, .int mo_isThere, .int mo_seed, .ref mo_textA, .int mo_typed, .int mo_faultAt, .int w_mo_place, .int w_mo_wrong, .int w_mo_value, .ref mo_readA, .ref mo_aheadA, .int mo_undoMany, .ref mo_asideA, .ref mo_weighingsA, .int mo_weighed, .ref mo_bookA, .int mo_entries, .ref mo_isKeptA, .ref mo_keptA, .ref mo_seedsA])), (mo_toldA, .inl (κ 0, 37, .inl mo_told)), (mo_stA, .inl (κ 0, 17, .inl mo_st)), (mo_textA, .inl (κ 0, 240, .inl mo_text)), (mo_readA, .inl (κ 0, 37, .inl w_mo_read)), (mo_aheadA, .inl (κ 0, 340, .inl mo_ahead)), (mo_asideA, .inl (κ 0, 17, .inl mo_aside)), (mo_weighingsA, .inl (κ 0, 12, .inl mo_weighings)), (mo_bookA, .inl (κ 0, 30, .inl mo_book)), (mo_isKeptA, .inl (κ 1, 2, .inl mo_isKept)), (mo_keptA, .inl (κ 0, 34, .inl mo_kept)), (mo_seedsA, .inl (κ 0, 2, .inl mo_seeds))]) → va_S A s.heap H locs → lv_has ls 3 [(0, .ref moo), (1, .int v1)] → pX9_ransom_L30 N mo_told mo_st mo_undoMany mo_weighed mo_entries mo_isKept v1 w_mo_place w_mo_wrong w_mo_value w_mo_read = some (r0, z_mo_told, z_mo_st, z_mo_isThere, z_mo_typed, z_mo_faultAt, z_mo_place, z_mo_wrong, z_mo_value, z_mo_read, z_mo_undoMany, z_mo_weighed, z_mo_entries, z_mo_isKept) → W p l e { frames := 5, cells := 0, slots := 0, locals := 500 } s m args below meth c H locs 0 0 Q (F0 m 30 ls [.ref moo]) := by
    intro v1 w_mo_place w_mo_wrong w_mo_value w_mo_read H locs ls hP hD hS hl hres
    unfold pX9_ransom_L30 at hres
    refine lv_iconst (v := 1) hx hb dX9_ransom_30 (by decide) ?_
    refine lv_goto (tgt := 35) hx hb dX9_ransom_31 (by decide) ?_
    exact L35 v1 1 w_mo_place w_mo_wrong w_mo_value w_mo_read _ _ _ hP hD hS (lv_sub hl [0, 1] rfl) hres
  have L19 : ∀ (v1 : Int32) (w_mo_place : Int32) (w_mo_wrong : Int32) (w_mo_value : Int32) (w_mo_read : Nat → Int32) (H : Heap) (locs : List Loc) (ls : Array Slot), va_P D vwCl ([(moo, .inr (9, [.ref mo_toldA, .ref mo_stA, .int mo_isThere, .int mo_seed, .ref mo_textA, .int mo_typed, .int mo_faultAt, .int w_mo_place, .int w_mo_wrong, .int w_mo_value, .ref mo_readA, .ref mo_aheadA, .int mo_undoMany, .ref mo_asideA, .ref mo_weighingsA, .int mo_weighed, .ref mo_bookA, .int mo_entries, .ref mo_isKeptA, .ref mo_keptA, .ref mo_seedsA])), (mo_toldA, .inl (κ 0, 37, .inl mo_told)), (mo_stA, .inl (κ 0, 17, .inl mo_st)), (mo_textA, .inl (κ 0, 240, .inl mo_text)), (mo_readA, .inl (κ 0, 37, .inl w_mo_read)), (mo_aheadA, .inl (κ 0, 340, .inl mo_ahead)), (mo_asideA, .inl (κ 0, 17, .inl mo_aside)), (mo_weighingsA, .inl (κ 0, 12, .inl mo_weighings)), (mo_bookA, .inl (κ 0, 30, .inl mo_book)), (mo_isKeptA, .inl (κ 1, 2, .inl mo_isKept)), (mo_keptA, .inl (κ 0, 34, .inl mo_kept)), (mo_seedsA, .inl (κ 0, 2, .inl mo_seeds))]) H → va_D A ([(moo, .inr (9, [.ref mo_toldA, .ref mo_stA, .int mo_isThere, .int mo_seed, .ref mo_textA, .int mo_typed, .int mo_faultAt, .int w_mo_place, .int w_mo_wrong, .int w_mo_value, .ref mo_readA, .ref mo_aheadA, .int mo_undoMany, .ref mo_asideA, .ref mo_weighingsA, .int mo_weighed, .ref mo_bookA, .int mo_entries, .ref mo_isKeptA, .ref mo_keptA, .ref mo_seedsA])), (mo_toldA, .inl (κ 0, 37, .inl mo_told)), (mo_stA, .inl (κ 0, 17, .inl mo_st)), (mo_textA, .inl (κ 0, 240, .inl mo_text)), (mo_readA, .inl (κ 0, 37, .inl w_mo_read)), (mo_aheadA, .inl (κ 0, 340, .inl mo_ahead)), (mo_asideA, .inl (κ 0, 17, .inl mo_aside)), (mo_weighingsA, .inl (κ 0, 12, .inl mo_weighings)), (mo_bookA, .inl (κ 0, 30, .inl mo_book)), (mo_isKeptA, .inl (κ 1, 2, .inl mo_isKept)), (mo_keptA, .inl (κ 0, 34, .inl mo_kept)), (mo_seedsA, .inl (κ 0, 2, .inl mo_seeds))]) → va_S A s.heap H locs → lv_has ls 3 [(0, .ref moo), (1, .int v1)] → pX9_ransom_L19 N mo_told mo_st mo_isThere mo_undoMany mo_weighed mo_entries mo_isKept v1 w_mo_place w_mo_wrong w_mo_value w_mo_read = some (r0, z_mo_told, z_mo_st, z_mo_isThere, z_mo_typed, z_mo_faultAt, z_mo_place, z_mo_wrong, z_mo_value, z_mo_read, z_mo_undoMany, z_mo_weighed, z_mo_entries, z_mo_isKept) → W p l e { frames := 5, cells := 0, slots := 0, locals := 500 } s m args below meth c H locs 0 0 Q (F0 m 19 ls [.ref moo]) := by
    intro v1 w_mo_place w_mo_wrong w_mo_value w_mo_read H locs ls hP hD hS hl hres
    unfold pX9_ransom_L19 at hres
    refine lv_iload_n hx hb dX9_ransom_19 rfl (lv_at hl 1 rfl) ?_
    refine lv_if_ne (tgt := 34) hx hb dX9_ransom_20 (by decide) (fun c18 => ?_) (fun c18 => ?_)
    · replace hres := og_f c18 hres
      exact L34 v1 w_mo_place w_mo_wrong w_mo_value w_mo_read _ _ _ hP hD hS (lv_sub hl [0, 1] rfl) hres
    · replace hres := og_t c18 hres
      refine lv_aload_n hx hb dX9_ransom_23 rfl (lv_at hl 0 rfl) ?_
      refine va_get (D := D) (ci := 9) (v := .int mo_isThere) (C := RX9) (T := TX9) (N := 21) hx hb hts iw9 hown hK.1 hP 0 rfl rfl 2 (by decide) k10 (fun _ h9 => h9) rfl dX9_ransom_24 ?_
      refine lv_if_eq (tgt := 34) hx hb dX9_ransom_27 (by decide) (fun c19 => ?_) (fun c19 => ?_)
      · replace hres := og_t c19 hres
        exact L34 v1 w_mo_place w_mo_wrong w_mo_value w_mo_read _ _ _ hP hD hS (lv_sub hl [0, 1] rfl) hres
      · replace hres := og_f c19 hres
        exact L30 v1 w_mo_place w_mo_wrong w_mo_value w_mo_read _ _ _ hP hD hS (lv_sub hl [0, 1] rfl) hres
  unfold pX9_ransom at hres
  refine lv_aload_n hx hb dX9_ransom_0 rfl (lv_at hl 0 rfl) ?_
  obtain ⟨r1, w2, w3, w4, w5, hc6, hres⟩ := kb5_s hres
  refine krI_V (As := []) (rest := []) (wr := []) ⟨hx, hb, hml, hown, hts⟩ hK (tX9_readText l D κ moo mo_toldA mo_stA mo_textA mo_readA mo_aheadA mo_asideA mo_weighingsA mo_bookA mo_isKeptA mo_keptA mo_seedsA N mo_told mo_st mo_isThere mo_seed mo_text mo_typed mo_faultAt mo_place mo_wrong mo_value mo_read mo_ahead mo_undoMany mo_aside mo_weighings mo_weighed mo_book mo_entries mo_isKept mo_kept mo_seeds r1 w2 w3 w4 w5 hc6) (cwV 0 hts gX9_ransom_X9_readText rfl rfl rfl (by decide +kernel) ⟨(Nat.le_of_ble_eq_true rfl), (Nat.le_of_ble_eq_true rfl)⟩) rfl rfl rfl hP hD hS hA [0, 1, 2, 3, 4, 5, 6, 7, 8, 9, 10, 11] [] rfl rfl rfl rfl (by decide) rfl hl.1 rfl (Nat.le_of_ble_eq_true rfl) dX9_ransom_1 ⟨Nat.zero_le _, Nat.zero_le _⟩ (fun H locs hP hD hS => ?_)
  have hP : va_P D vwCl ([(moo, .inr (9, [.ref mo_toldA, .ref mo_stA, .int mo_isThere, .int mo_seed, .ref mo_textA, .int mo_typed, .int mo_faultAt, .int w2, .int w3, .int w4, .ref mo_readA, .ref mo_aheadA, .int mo_undoMany, .ref mo_asideA, .ref mo_weighingsA, .int mo_weighed, .ref mo_bookA, .int mo_entries, .ref mo_isKeptA, .ref mo_keptA, .ref mo_seedsA])), (mo_toldA, .inl (κ 0, 37, .inl mo_told)), (mo_stA, .inl (κ 0, 17, .inl mo_st)), (mo_textA, .inl (κ 0, 240, .inl mo_text)), (mo_readA, .inl (κ 0, 37, .inl w5)), (mo_aheadA, .inl (κ 0, 340, .inl mo_ahead)), (mo_asideA, .inl (κ 0, 17, .inl mo_aside)), (mo_weighingsA, .inl (κ 0, 12, .inl mo_weighings)), (mo_bookA, .inl (κ 0, 30, .inl mo_book)), (mo_isKeptA, .inl (κ 1, 2, .inl mo_isKept)), (mo_keptA, .inl (κ 0, 34, .inl mo_kept)), (mo_seedsA, .inl (κ 0, 2, .inl mo_seeds))]) H := hP
  have hD : va_D A ([(moo, .inr (9, [.ref mo_toldA, .ref mo_stA, .int mo_isThere, .int mo_seed, .ref mo_textA, .int mo_typed, .int mo_faultAt, .int w2, .int w3, .int w4, .ref mo_readA, .ref mo_aheadA, .int mo_undoMany, .ref mo_asideA, .ref mo_weighingsA, .int mo_weighed, .ref mo_bookA, .int mo_entries, .ref mo_isKeptA, .ref mo_keptA, .ref mo_seedsA])), (mo_toldA, .inl (κ 0, 37, .inl mo_told)), (mo_stA, .inl (κ 0, 17, .inl mo_st)), (mo_textA, .inl (κ 0, 240, .inl mo_text)), (mo_readA, .inl (κ 0, 37, .inl w5)), (mo_aheadA, .inl (κ 0, 340, .inl mo_ahead)), (mo_asideA, .inl (κ 0, 17, .inl mo_aside)), (mo_weighingsA, .inl (κ 0, 12, .inl mo_weighings)), (mo_bookA, .inl (κ 0, 30, .inl mo_book)), (mo_isKeptA, .inl (κ 1, 2, .inl mo_isKept)), (mo_keptA, .inl (κ 0, 34, .inl mo_kept)), (mo_seedsA, .inl (κ 0, 2, .inl mo_seeds))]) := hD
  refine lv_istore_n (lv' := [(1, .int r1), (0, .ref moo)]) hx hb dX9_ransom_4 rfl hl (by decide) rfl (fun ls hl => ?_)
  refine lv_aload_n hx hb dX9_ransom_5 rfl (lv_at hl 1 rfl) ?_
  refine lv_iload_n hx hb dX9_ransom_6 rfl (lv_at hl 0 rfl) ?_
  refine lv_if_eq (tgt := 19) hx hb dX9_ransom_7 (by decide) (fun c7 => ?_) (fun c7 => ?_)
  · replace hres := og_t c7 hres
    exact L19 r1 w2 w3 w4 w5 _ _ _ hP hD hS (lv_sub hl [1, 0] rfl) hres
  · replace hres := og_f c7 hres
    refine lv_aload_n hx hb dX9_ransom_10 rfl (lv_at hl 1 rfl) ?_
    refine va_get (D := D) (ci := 9) (v := .ref mo_readA) (C := RX9) (T := TX9) (N := 21) hx hb hts iw9 hown hK.1 hP 0 rfl rfl 10 (by decide) k0 (fun _ h9 => h9) rfl dX9_ransom_11 ?_
    refine lv_iconst (v := 0) hx hb dX9_ransom_14 (by decide) ?_
    refine kr_iald (f := w5) (j := 0) hx hb hK hP 4 rfl (by decide) (by decide) dX9_ransom_15 ?_
    refine lv_if_gt (tgt := 30) hx hb dX9_ransom_16 (by decide) (fun c8 => ?_) (fun c8 => ?_)
    · replace hres := og_t c8 hres
      exact L30 r1 w2 w3 w4 w5 _ _ _ hP hD hS (lv_sub hl [1, 0] rfl) hres
    · replace hres := og_f c8 hres
      exact L19 r1 w2 w3 w4 w5 _ _ _ hP hD hS (lv_sub hl [1, 0] rfl) hres

def pX9_fault (mo_faultAt : Int32) : Option (Int32) :=
    some (mo_faultAt)
set_option maxHeartbeats 8000000 in
set_option maxRecDepth 100000 in
theorem tX9_fault (l : Launch) (D : va_G) (κ : Nat → ClassId) (moo : Nat) (mo_toldA : Nat) (mo_stA : Nat) (mo_textA : Nat) (mo_readA : Nat) (mo_aheadA : Nat) (mo_asideA : Nat) (mo_weighingsA : Nat) (mo_bookA : Nat) (mo_isKeptA : Nat) (mo_keptA : Nat) (mo_seedsA : Nat) (mo_told : Nat → Int32) (mo_st : Nat → Int32) (mo_isThere : Int32) (mo_seed : Int32) (mo_text : Nat → Int32) (mo_typed : Int32) (mo_faultAt : Int32) (mo_place : Int32) (mo_wrong : Int32) (mo_value : Int32) (mo_read : Nat → Int32) (mo_ahead : Nat → Int32) (mo_undoMany : Int32) (mo_aside : Nat → Int32) (mo_weighings : Nat → Int32) (mo_weighed : Int32) (mo_book : Nat → Int32) (mo_entries : Int32) (mo_isKept : Nat → Int32) (mo_kept : Nat → Int32) (mo_seeds : Nat → Int32) (r0 : Int32) (hres : pX9_fault mo_faultAt = some (r0)) : krI l yX9_fault wsX9_fault { frames := 0, cells := 0, slots := 0, locals := 0 } D κ [.ref moo] ([(moo, .inr (9, [.ref mo_toldA, .ref mo_stA, .int mo_isThere, .int mo_seed, .ref mo_textA, .int mo_typed, .int mo_faultAt, .int mo_place, .int mo_wrong, .int mo_value, .ref mo_readA, .ref mo_aheadA, .int mo_undoMany, .ref mo_asideA, .ref mo_weighingsA, .int mo_weighed, .ref mo_bookA, .int mo_entries, .ref mo_isKeptA, .ref mo_keptA, .ref mo_seedsA])), (mo_toldA, .inl (κ 0, 37, .inl mo_told)), (mo_stA, .inl (κ 0, 17, .inl mo_st)), (mo_textA, .inl (κ 0, 240, .inl mo_text)), (mo_readA, .inl (κ 0, 37, .inl mo_read)), (mo_aheadA, .inl (κ 0, 340, .inl mo_ahead)), (mo_asideA, .inl (κ 0, 17, .inl mo_aside)), (mo_weighingsA, .inl (κ 0, 12, .inl mo_weighings)), (mo_bookA, .inl (κ 0, 30, .inl mo_book)), (mo_isKeptA, .inl (κ 1, 2, .inl mo_isKept)), (mo_keptA, .inl (κ 0, 34, .inl mo_kept)), (mo_seedsA, .inl (κ 0, 2, .inl mo_seeds))]) ([(moo, .inr (9, [.ref mo_toldA, .ref mo_stA, .int mo_isThere, .int mo_seed, .ref mo_textA, .int mo_typed, .int mo_faultAt, .int mo_place, .int mo_wrong, .int mo_value, .ref mo_readA, .ref mo_aheadA, .int mo_undoMany, .ref mo_asideA, .ref mo_weighingsA, .int mo_weighed, .ref mo_bookA, .int mo_entries, .ref mo_isKeptA, .ref mo_keptA, .ref mo_seedsA])), (mo_toldA, .inl (κ 0, 37, .inl mo_told)), (mo_stA, .inl (κ 0, 17, .inl mo_st)), (mo_textA, .inl (κ 0, 240, .inl mo_text)), (mo_readA, .inl (κ 0, 37, .inl mo_read)), (mo_aheadA, .inl (κ 0, 340, .inl mo_ahead)), (mo_asideA, .inl (κ 0, 17, .inl mo_aside)), (mo_weighingsA, .inl (κ 0, 12, .inl mo_weighings)), (mo_bookA, .inl (κ 0, 30, .inl mo_book)), (mo_isKeptA, .inl (κ 1, 2, .inl mo_isKept)), (mo_keptA, .inl (κ 0, 34, .inl mo_kept)), (mo_seedsA, .inl (κ 0, 2, .inl mo_seeds))]) r0 := by
  refine krI_of (cc := cX9_fault) (maxL := 1) (rt := .int) (by decide) rfl (Nat.le_of_ble_eq_true rfl) ?_
  intro p e s m args below meth c A Q ls hx hb hml hown hts hK hA hret hP hD hS hl
  have hown : s.vm.findClass RX9 = some m.cls := hown
  have hl : lv_has ls 1 [(0, .ref moo)] := hl
  have iw9 : ∀ w ∈ u_ws RX9 TX9 21, w ∈ wsX9_fault := (fun _ h => List.mem_cons_of_mem _ (List.mem_append_right _ h))
  have k0 : (Cond.fieldLink RX9 19 "KingRansomModel" "faultAt" "I").before args s = true := hts _ (List.mem_of_getElem? (i := 1) rfl)
  unfold pX9_fault at hres
  refine lv_aload_n hx hb dX9_fault_0 rfl (lv_at hl 0 rfl) ?_
  refine va_get (D := D) (ci := 9) (v := .int mo_faultAt) (C := RX9) (T := TX9) (N := 21) hx hb hts iw9 hown hK.1 hP 0 rfl rfl 6 (by decide) k0 (fun _ h9 => h9) rfl dX9_fault_1 ?_
  have hres := Option.some.inj hres
  have h0 := hres
  subst h0
  exact hret _ _ _ _ (vp_nar_int _) hP hD hS dX9_fault_4

def pX9_told (x1 : Int32) (mo_told : Nat → Int32) (mo_st : Nat → Int32) (mo_typed : Int32) (mo_undoMany : Int32) (mo_weighed : Int32) (mo_entries : Int32) : Option (Int32) :=
    (if x1 = 0 then
    some ((mo_st 14))
    else
    (if x1 = 1 then
    some ((mo_told 1))
    else
    (if x1 = 2 then
    some ((mo_told 2))
    else
    (if x1 = 3 then
    some ((mo_told 3))
    else
    (if x1 = 4 then
    some ((mo_told 4))
    else
    (if x1 = 5 then
    some ((mo_told 5))
    else
    (if x1 = 6 then
    some ((mo_told 6))
    else
    (if x1 = 7 then
    some (mo_typed)
    else
    (if x1 = 8 then
    some ((mo_st 13))
    else
    (if x1 = 9 then
    some ((mo_st 12))
    else
    (if x1 = 10 then
    some ((mo_st 15))
    else
    (if x1 = 11 then
    some ((mo_st 16))
    else
    (if x1 = 12 then
    some (mo_weighed)
    else
    (if x1 = 13 then
    some (mo_entries)
    else
    (if x1 = 14 then
    some (mo_undoMany)
    else
    some ((-1000000002)))))))))))))))))
set_option maxHeartbeats 8000000 in
set_option maxRecDepth 100000 in
theorem tX9_told (l : Launch) (D : va_G) (κ : Nat → ClassId) (moo : Nat) (mo_toldA : Nat) (mo_stA : Nat) (mo_textA : Nat) (mo_readA : Nat) (mo_aheadA : Nat) (mo_asideA : Nat) (mo_weighingsA : Nat) (mo_bookA : Nat) (mo_isKeptA : Nat) (mo_keptA : Nat) (mo_seedsA : Nat) (mo_told : Nat → Int32) (mo_st : Nat → Int32) (mo_isThere : Int32) (mo_seed : Int32) (mo_text : Nat → Int32) (mo_typed : Int32) (mo_faultAt : Int32) (mo_place : Int32) (mo_wrong : Int32) (mo_value : Int32) (mo_read : Nat → Int32) (mo_ahead : Nat → Int32) (mo_undoMany : Int32) (mo_aside : Nat → Int32) (mo_weighings : Nat → Int32) (mo_weighed : Int32) (mo_book : Nat → Int32) (mo_entries : Int32) (mo_isKept : Nat → Int32) (mo_kept : Nat → Int32) (mo_seeds : Nat → Int32) (x1 : Int32) (r0 : Int32) (hres : pX9_told x1 mo_told mo_st mo_typed mo_undoMany mo_weighed mo_entries = some (r0)) : krI l yX9_told wsX9_told { frames := 0, cells := 0, slots := 0, locals := 0 } D κ [.ref moo, .int x1] ([(moo, .inr (9, [.ref mo_toldA, .ref mo_stA, .int mo_isThere, .int mo_seed, .ref mo_textA, .int mo_typed, .int mo_faultAt, .int mo_place, .int mo_wrong, .int mo_value, .ref mo_readA, .ref mo_aheadA, .int mo_undoMany, .ref mo_asideA, .ref mo_weighingsA, .int mo_weighed, .ref mo_bookA, .int mo_entries, .ref mo_isKeptA, .ref mo_keptA, .ref mo_seedsA])), (mo_toldA, .inl (κ 0, 37, .inl mo_told)), (mo_stA, .inl (κ 0, 17, .inl mo_st)), (mo_textA, .inl (κ 0, 240, .inl mo_text)), (mo_readA, .inl (κ 0, 37, .inl mo_read)), (mo_aheadA, .inl (κ 0, 340, .inl mo_ahead)), (mo_asideA, .inl (κ 0, 17, .inl mo_aside)), (mo_weighingsA, .inl (κ 0, 12, .inl mo_weighings)), (mo_bookA, .inl (κ 0, 30, .inl mo_book)), (mo_isKeptA, .inl (κ 1, 2, .inl mo_isKept)), (mo_keptA, .inl (κ 0, 34, .inl mo_kept)), (mo_seedsA, .inl (κ 0, 2, .inl mo_seeds))]) ([(moo, .inr (9, [.ref mo_toldA, .ref mo_stA, .int mo_isThere, .int mo_seed, .ref mo_textA, .int mo_typed, .int mo_faultAt, .int mo_place, .int mo_wrong, .int mo_value, .ref mo_readA, .ref mo_aheadA, .int mo_undoMany, .ref mo_asideA, .ref mo_weighingsA, .int mo_weighed, .ref mo_bookA, .int mo_entries, .ref mo_isKeptA, .ref mo_keptA, .ref mo_seedsA])), (mo_toldA, .inl (κ 0, 37, .inl mo_told)), (mo_stA, .inl (κ 0, 17, .inl mo_st)), (mo_textA, .inl (κ 0, 240, .inl mo_text)), (mo_readA, .inl (κ 0, 37, .inl mo_read)), (mo_aheadA, .inl (κ 0, 340, .inl mo_ahead)), (mo_asideA, .inl (κ 0, 17, .inl mo_aside)), (mo_weighingsA, .inl (κ 0, 12, .inl mo_weighings)), (mo_bookA, .inl (κ 0, 30, .inl mo_book)), (mo_isKeptA, .inl (κ 1, 2, .inl mo_isKept)), (mo_keptA, .inl (κ 0, 34, .inl mo_kept)), (mo_seedsA, .inl (κ 0, 2, .inl mo_seeds))]) r0 := by
  refine krI_of (cc := cX9_told) (maxL := 2) (rt := .int) (by decide) rfl (Nat.le_of_ble_eq_true rfl) ?_
  intro p e s m args below meth c A Q ls hx hb hml hown hts hK hA hret hP hD hS hl
  have hown : s.vm.findClass RX9 = some m.cls := hown
  have hl : lv_has ls 2 [(0, .ref moo), (1, .int x1)] := hl
  have iw9 : ∀ w ∈ u_ws RX9 TX9 21, w ∈ wsX9_told := (fun _ h => List.mem_cons_of_mem _ (List.mem_append_right _ h))
  have k0 : (Cond.fieldLink RX9 13 "KingRansomModel" "st" "[I").before args s = true := hts _ (List.mem_of_getElem? (i := 1) rfl)
  have k1 : (Cond.fieldLink RX9 7 "KingRansomModel" "told" "[I").before args s = true := hts _ (List.mem_of_getElem? (i := 2) rfl)
  have k2 : (Cond.fieldLink RX9 55 "KingRansomModel" "typed" "I").before args s = true := hts _ (List.mem_of_getElem? (i := 3) rfl)
  have k3 : (Cond.fieldLink RX9 113 "KingRansomModel" "weighed" "I").before args s = true := hts _ (List.mem_of_getElem? (i := 4) rfl)
  have k4 : (Cond.fieldLink RX9 116 "KingRansomModel" "entries" "I").before args s = true := hts _ (List.mem_of_getElem? (i := 5) rfl)
  have k5 : (Cond.fieldLink RX9 110 "KingRansomModel" "undoMany" "I").before args s = true := hts _ (List.mem_of_getElem? (i := 6) rfl)
  have k6 : (Cond.constant RX9 54 (-1000000002)).before args s = true := hts _ (List.mem_of_getElem? (i := 7) rfl)
  unfold pX9_told at hres
  refine lv_iload_n hx hb dX9_told_0 rfl (lv_at hl 1 rfl) ?_
  by_cases u0 : x1 = 0
  · refine lv_tableIn (off := 75) (tgt := 76) hx hb dX9_told_1 (by rw [u0]; decide) (by rw [u0]; decide) (by rw [u0]; rfl) (by decide) ?_
    replace hres := og_t u0 hres
    refine lv_aload_n hx hb dX9_told_76 rfl (lv_at hl 0 rfl) ?_
    refine va_get (D := D) (ci := 9) (v := .ref mo_stA) (C := RX9) (T := TX9) (N := 21) hx hb hts iw9 hown hK.1 hP 0 rfl rfl 1 (by decide) k0 (fun _ h9 => h9) rfl dX9_told_77 ?_
    refine lv_bipush (v := 14) hx hb dX9_told_80 (by decide) ?_
    refine kr_iald (f := mo_st) (j := 14) hx hb hK hP 2 rfl (by decide) (by decide) dX9_told_82 ?_
    have hres := Option.some.inj hres
    have h0 := hres
    subst h0
    exact hret _ _ _ _ (vp_nar_int _) hP hD hS dX9_told_83
  replace hres := og_f u0 hres
  by_cases u1 : x1 = 1
  · refine lv_tableIn (off := 83) (tgt := 84) hx hb dX9_told_1 (by rw [u1]; decide) (by rw [u1]; decide) (by rw [u1]; rfl) (by decide) ?_
    replace hres := og_t u1 hres
    refine lv_aload_n hx hb dX9_told_84 rfl (lv_at hl 0 rfl) ?_
    refine va_get (D := D) (ci := 9) (v := .ref mo_toldA) (C := RX9) (T := TX9) (N := 21) hx hb hts iw9 hown hK.1 hP 0 rfl rfl 0 (by decide) k1 (fun _ h9 => h9) rfl dX9_told_85 ?_
    refine lv_iconst (v := 1) hx hb dX9_told_88 (by decide) ?_
    refine kr_iald (f := mo_told) (j := 1) hx hb hK hP 1 rfl (by decide) (by decide) dX9_told_89 ?_
    have hres := Option.some.inj hres
    have h0 := hres
    subst h0
    exact hret _ _ _ _ (vp_nar_int _) hP hD hS dX9_told_90
  replace hres := og_f u1 hres
  by_cases u2 : x1 = 2
  · refine lv_tableIn (off := 90) (tgt := 91) hx hb dX9_told_1 (by rw [u2]; decide) (by rw [u2]; decide) (by rw [u2]; rfl) (by decide) ?_
    replace hres := og_t u2 hres
    refine lv_aload_n hx hb dX9_told_91 rfl (lv_at hl 0 rfl) ?_
    refine va_get (D := D) (ci := 9) (v := .ref mo_toldA) (C := RX9) (T := TX9) (N := 21) hx hb hts iw9 hown hK.1 hP 0 rfl rfl 0 (by decide) k1 (fun _ h9 => h9) rfl dX9_told_92 ?_
    refine lv_iconst (v := 2) hx hb dX9_told_95 (by decide) ?_
    refine kr_iald (f := mo_told) (j := 2) hx hb hK hP 1 rfl (by decide) (by decide) dX9_told_96 ?_
    have hres := Option.some.inj hres
    have h0 := hres
    subst h0
    exact hret _ _ _ _ (vp_nar_int _) hP hD hS dX9_told_97
  replace hres := og_f u2 hres
  by_cases u3 : x1 = 3
  · refine lv_tableIn (off := 97) (tgt := 98) hx hb dX9_told_1 (by rw [u3]; decide) (by rw [u3]; decide) (by rw [u3]; rfl) (by decide) ?_
    replace hres := og_t u3 hres
    refine lv_aload_n hx hb dX9_told_98 rfl (lv_at hl 0 rfl) ?_
    refine va_get (D := D) (ci := 9) (v := .ref mo_toldA) (C := RX9) (T := TX9) (N := 21) hx hb hts iw9 hown hK.1 hP 0 rfl rfl 0 (by decide) k1 (fun _ h9 => h9) rfl dX9_told_99 ?_
    refine lv_iconst (v := 3) hx hb dX9_told_102 (by decide) ?_
    refine kr_iald (f := mo_told) (j := 3) hx hb hK hP 1 rfl (by decide) (by decide) dX9_told_103 ?_
    have hres := Option.some.inj hres
    have h0 := hres
    subst h0
    exact hret _ _ _ _ (vp_nar_int _) hP hD hS dX9_told_104
  replace hres := og_f u3 hres
  by_cases u4 : x1 = 4
  · refine lv_tableIn (off := 104) (tgt := 105) hx hb dX9_told_1 (by rw [u4]; decide) (by rw [u4]; decide) (by rw [u4]; rfl) (by decide) ?_
    replace hres := og_t u4 hres
    refine lv_aload_n hx hb dX9_told_105 rfl (lv_at hl 0 rfl) ?_
    refine va_get (D := D) (ci := 9) (v := .ref mo_toldA) (C := RX9) (T := TX9) (N := 21) hx hb hts iw9 hown hK.1 hP 0 rfl rfl 0 (by decide) k1 (fun _ h9 => h9) rfl dX9_told_106 ?_
    refine lv_iconst (v := 4) hx hb dX9_told_109 (by decide) ?_
    refine kr_iald (f := mo_told) (j := 4) hx hb hK hP 1 rfl (by decide) (by decide) dX9_told_110 ?_
    have hres := Option.some.inj hres
    have h0 := hres
    subst h0
    exact hret _ _ _ _ (vp_nar_int _) hP hD hS dX9_told_111
  replace hres := og_f u4 hres
  by_cases u5 : x1 = 5
  · refine lv_tableIn (off := 111) (tgt := 112) hx hb dX9_told_1 (by rw [u5]; decide) (by rw [u5]; decide) (by rw [u5]; rfl) (by decide) ?_
    replace hres := og_t u5 hres
    refine lv_aload_n hx hb dX9_told_112 rfl (lv_at hl 0 rfl) ?_
    refine va_get (D := D) (ci := 9) (v := .ref mo_toldA) (C := RX9) (T := TX9) (N := 21) hx hb hts iw9 hown hK.1 hP 0 rfl rfl 0 (by decide) k1 (fun _ h9 => h9) rfl dX9_told_113 ?_
    refine lv_iconst (v := 5) hx hb dX9_told_116 (by decide) ?_
    refine kr_iald (f := mo_told) (j := 5) hx hb hK hP 1 rfl (by decide) (by decide) dX9_told_117 ?_
    have hres := Option.some.inj hres
    have h0 := hres
    subst h0
    exact hret _ _ _ _ (vp_nar_int _) hP hD hS dX9_told_118
  replace hres := og_f u5 hres
  by_cases u6 : x1 = 6
  · refine lv_tableIn (off := 118) (tgt := 119) hx hb dX9_told_1 (by rw [u6]; decide) (by rw [u6]; decide) (by rw [u6]; rfl) (by decide) ?_
    replace hres := og_t u6 hres
    refine lv_aload_n hx hb dX9_told_119 rfl (lv_at hl 0 rfl) ?_
    refine va_get (D := D) (ci := 9) (v := .ref mo_toldA) (C := RX9) (T := TX9) (N := 21) hx hb hts iw9 hown hK.1 hP 0 rfl rfl 0 (by decide) k1 (fun _ h9 => h9) rfl dX9_told_120 ?_
    refine lv_bipush (v := 6) hx hb dX9_told_123 (by decide) ?_
    refine kr_iald (f := mo_told) (j := 6) hx hb hK hP 1 rfl (by decide) (by decide) dX9_told_125 ?_
    have hres := Option.some.inj hres
    have h0 := hres
    subst h0
    exact hret _ _ _ _ (vp_nar_int _) hP hD hS dX9_told_126
  replace hres := og_f u6 hres
  by_cases u7 : x1 = 7
  · refine lv_tableIn (off := 126) (tgt := 127) hx hb dX9_told_1 (by rw [u7]; decide) (by rw [u7]; decide) (by rw [u7]; rfl) (by decide) ?_
    replace hres := og_t u7 hres
    refine lv_aload_n hx hb dX9_told_127 rfl (lv_at hl 0 rfl) ?_
    refine va_get (D := D) (ci := 9) (v := .int mo_typed) (C := RX9) (T := TX9) (N := 21) hx hb hts iw9 hown hK.1 hP 0 rfl rfl 5 (by decide) k2 (fun _ h9 => h9) rfl dX9_told_128 ?_
    have hres := Option.some.inj hres
    have h0 := hres
    subst h0
    exact hret _ _ _ _ (vp_nar_int _) hP hD hS dX9_told_131
  replace hres := og_f u7 hres
  by_cases u8 : x1 = 8
  · refine lv_tableIn (off := 131) (tgt := 132) hx hb dX9_told_1 (by rw [u8]; decide) (by rw [u8]; decide) (by rw [u8]; rfl) (by decide) ?_
    replace hres := og_t u8 hres
    refine lv_aload_n hx hb dX9_told_132 rfl (lv_at hl 0 rfl) ?_
    refine va_get (D := D) (ci := 9) (v := .ref mo_stA) (C := RX9) (T := TX9) (N := 21) hx hb hts iw9 hown hK.1 hP 0 rfl rfl 1 (by decide) k0 (fun _ h9 => h9) rfl dX9_told_133 ?_
    refine lv_bipush (v := 13) hx hb dX9_told_136 (by decide) ?_
    refine kr_iald (f := mo_st) (j := 13) hx hb hK hP 2 rfl (by decide) (by decide) dX9_told_138 ?_
    have hres := Option.some.inj hres
    have h0 := hres
    subst h0
    exact hret _ _ _ _ (vp_nar_int _) hP hD hS dX9_told_139
  replace hres := og_f u8 hres
  by_cases u9 : x1 = 9
  · refine lv_tableIn (off := 139) (tgt := 140) hx hb dX9_told_1 (by rw [u9]; decide) (by rw [u9]; decide) (by rw [u9]; rfl) (by decide) ?_
    replace hres := og_t u9 hres
    refine lv_aload_n hx hb dX9_told_140 rfl (lv_at hl 0 rfl) ?_
    refine va_get (D := D) (ci := 9) (v := .ref mo_stA) (C := RX9) (T := TX9) (N := 21) hx hb hts iw9 hown hK.1 hP 0 rfl rfl 1 (by decide) k0 (fun _ h9 => h9) rfl dX9_told_141 ?_
    refine lv_bipush (v := 12) hx hb dX9_told_144 (by decide) ?_
    refine kr_iald (f := mo_st) (j := 12) hx hb hK hP 2 rfl (by decide) (by decide) dX9_told_146 ?_
    have hres := Option.some.inj hres
    have h0 := hres
    subst h0
    exact hret _ _ _ _ (vp_nar_int _) hP hD hS dX9_told_147
  replace hres := og_f u9 hres
  by_cases u10 : x1 = 10
  · refine lv_tableIn (off := 147) (tgt := 148) hx hb dX9_told_1 (by rw [u10]; decide) (by rw [u10]; decide) (by rw [u10]; rfl) (by decide) ?_
    replace hres := og_t u10 hres
    refine lv_aload_n hx hb dX9_told_148 rfl (lv_at hl 0 rfl) ?_
    refine va_get (D := D) (ci := 9) (v := .ref mo_stA) (C := RX9) (T := TX9) (N := 21) hx hb hts iw9 hown hK.1 hP 0 rfl rfl 1 (by decide) k0 (fun _ h9 => h9) rfl dX9_told_149 ?_
    refine lv_bipush (v := 15) hx hb dX9_told_152 (by decide) ?_
    refine kr_iald (f := mo_st) (j := 15) hx hb hK hP 2 rfl (by decide) (by decide) dX9_told_154 ?_
    have hres := Option.some.inj hres
    have h0 := hres
    subst h0
    exact hret _ _ _ _ (vp_nar_int _) hP hD hS dX9_told_155
  replace hres := og_f u10 hres
  by_cases u11 : x1 = 11
  · refine lv_tableIn (off := 155) (tgt := 156) hx hb dX9_told_1 (by rw [u11]; decide) (by rw [u11]; decide) (by rw [u11]; rfl) (by decide) ?_
    replace hres := og_t u11 hres
    refine lv_aload_n hx hb dX9_told_156 rfl (lv_at hl 0 rfl) ?_
    refine va_get (D := D) (ci := 9) (v := .ref mo_stA) (C := RX9) (T := TX9) (N := 21) hx hb hts iw9 hown hK.1 hP 0 rfl rfl 1 (by decide) k0 (fun _ h9 => h9) rfl dX9_told_157 ?_
    refine lv_bipush (v := 16) hx hb dX9_told_160 (by decide) ?_
    refine kr_iald (f := mo_st) (j := 16) hx hb hK hP 2 rfl (by decide) (by decide) dX9_told_162 ?_
    have hres := Option.some.inj hres
    have h0 := hres
    subst h0
    exact hret _ _ _ _ (vp_nar_int _) hP hD hS dX9_told_163
  replace hres := og_f u11 hres
  by_cases u12 : x1 = 12
  · refine lv_tableIn (off := 163) (tgt := 164) hx hb dX9_told_1 (by rw [u12]; decide) (by rw [u12]; decide) (by rw [u12]; rfl) (by decide) ?_
    replace hres := og_t u12 hres
    refine lv_aload_n hx hb dX9_told_164 rfl (lv_at hl 0 rfl) ?_
    refine va_get (D := D) (ci := 9) (v := .int mo_weighed) (C := RX9) (T := TX9) (N := 21) hx hb hts iw9 hown hK.1 hP 0 rfl rfl 15 (by decide) k3 (fun _ h9 => h9) rfl dX9_told_165 ?_
    have hres := Option.some.inj hres
    have h0 := hres
    subst h0
    exact hret _ _ _ _ (vp_nar_int _) hP hD hS dX9_told_168
  replace hres := og_f u12 hres
  by_cases u13 : x1 = 13
  · refine lv_tableIn (off := 168) (tgt := 169) hx hb dX9_told_1 (by rw [u13]; decide) (by rw [u13]; decide) (by rw [u13]; rfl) (by decide) ?_
    replace hres := og_t u13 hres
    refine lv_aload_n hx hb dX9_told_169 rfl (lv_at hl 0 rfl) ?_
    refine va_get (D := D) (ci := 9) (v := .int mo_entries) (C := RX9) (T := TX9) (N := 21) hx hb hts iw9 hown hK.1 hP 0 rfl rfl 17 (by decide) k4 (fun _ h9 => h9) rfl dX9_told_170 ?_
    have hres := Option.some.inj hres
    have h0 := hres
    subst h0
    exact hret _ _ _ _ (vp_nar_int _) hP hD hS dX9_told_173
  replace hres := og_f u13 hres
  by_cases u14 : x1 = 14
  · refine lv_tableIn (off := 173) (tgt := 174) hx hb dX9_told_1 (by rw [u14]; decide) (by rw [u14]; decide) (by rw [u14]; rfl) (by decide) ?_
    replace hres := og_t u14 hres
    refine lv_aload_n hx hb dX9_told_174 rfl (lv_at hl 0 rfl) ?_
    refine va_get (D := D) (ci := 9) (v := .int mo_undoMany) (C := RX9) (T := TX9) (N := 21) hx hb hts iw9 hown hK.1 hP 0 rfl rfl 12 (by decide) k5 (fun _ h9 => h9) rfl dX9_told_175 ?_
    have hres := Option.some.inj hres
    have h0 := hres
    subst h0
    exact hret _ _ _ _ (vp_nar_int _) hP hD hS dX9_told_178
  replace hres := og_f u14 hres
  have v0 := lv_neT u0 (a := 0) (by decide)
  have v1 := lv_neT u1 (a := 1) (by decide)
  have v2 := lv_neT u2 (a := 2) (by decide)
  have v3 := lv_neT u3 (a := 3) (by decide)
  have v4 := lv_neT u4 (a := 4) (by decide)
  have v5 := lv_neT u5 (a := 5) (by decide)
  have v6 := lv_neT u6 (a := 6) (by decide)
  have v7 := lv_neT u7 (a := 7) (by decide)
  have v8 := lv_neT u8 (a := 8) (by decide)
  have v9 := lv_neT u9 (a := 9) (by decide)
  have v10 := lv_neT u10 (a := 10) (by decide)
  have v11 := lv_neT u11 (a := 11) (by decide)
  have v12 := lv_neT u12 (a := 12) (by decide)
  have v13 := lv_neT u13 (a := 13) (by decide)
  have v14 := lv_neT u14 (a := 14) (by decide)
  refine lv_tableOut (tgt := 179) hx hb dX9_told_1 (by omega) (by decide) ?_
  refine lv_ldc (v := (-1000000002)) hx hb hown k6 dX9_told_179 ?_
  have hres := Option.some.inj hres
  have h0 := hres
  subst h0
  exact hret _ _ _ _ (vp_nar_int _) hP hD hS dX9_told_181

def pX9_isPayer (x1 : Int32) (mo_told : Nat → Int32) : Option (Int32) :=
    kb1 (pX9_in (x1.toInt64) 0 (((mo_told 2) - 1).toInt64)) fun r1 =>
    if ¬ (r1 = 0 ∨ r1 = 1) then none else
    some (r1)
set_option maxHeartbeats 8000000 in
set_option maxRecDepth 100000 in
theorem tX9_isPayer (l : Launch) (D : va_G) (κ : Nat → ClassId) (moo : Nat) (mo_toldA : Nat) (mo_stA : Nat) (mo_textA : Nat) (mo_readA : Nat) (mo_aheadA : Nat) (mo_asideA : Nat) (mo_weighingsA : Nat) (mo_bookA : Nat) (mo_isKeptA : Nat) (mo_keptA : Nat) (mo_seedsA : Nat) (mo_told : Nat → Int32) (mo_st : Nat → Int32) (mo_isThere : Int32) (mo_seed : Int32) (mo_text : Nat → Int32) (mo_typed : Int32) (mo_faultAt : Int32) (mo_place : Int32) (mo_wrong : Int32) (mo_value : Int32) (mo_read : Nat → Int32) (mo_ahead : Nat → Int32) (mo_undoMany : Int32) (mo_aside : Nat → Int32) (mo_weighings : Nat → Int32) (mo_weighed : Int32) (mo_book : Nat → Int32) (mo_entries : Int32) (mo_isKept : Nat → Int32) (mo_kept : Nat → Int32) (mo_seeds : Nat → Int32) (x1 : Int32) (r0 : Int32) (hres : pX9_isPayer x1 mo_told = some (r0)) : krI l yX9_isPayer wsX9_isPayer { frames := 1, cells := 0, slots := 0, locals := 100 } D κ [.ref moo, .int x1] ([(moo, .inr (9, [.ref mo_toldA, .ref mo_stA, .int mo_isThere, .int mo_seed, .ref mo_textA, .int mo_typed, .int mo_faultAt, .int mo_place, .int mo_wrong, .int mo_value, .ref mo_readA, .ref mo_aheadA, .int mo_undoMany, .ref mo_asideA, .ref mo_weighingsA, .int mo_weighed, .ref mo_bookA, .int mo_entries, .ref mo_isKeptA, .ref mo_keptA, .ref mo_seedsA])), (mo_toldA, .inl (κ 0, 37, .inl mo_told)), (mo_stA, .inl (κ 0, 17, .inl mo_st)), (mo_textA, .inl (κ 0, 240, .inl mo_text)), (mo_readA, .inl (κ 0, 37, .inl mo_read)), (mo_aheadA, .inl (κ 0, 340, .inl mo_ahead)), (mo_asideA, .inl (κ 0, 17, .inl mo_aside)), (mo_weighingsA, .inl (κ 0, 12, .inl mo_weighings)), (mo_bookA, .inl (κ 0, 30, .inl mo_book)), (mo_isKeptA, .inl (κ 1, 2, .inl mo_isKept)), (mo_keptA, .inl (κ 0, 34, .inl mo_kept)), (mo_seedsA, .inl (κ 0, 2, .inl mo_seeds))]) ([(moo, .inr (9, [.ref mo_toldA, .ref mo_stA, .int mo_isThere, .int mo_seed, .ref mo_textA, .int mo_typed, .int mo_faultAt, .int mo_place, .int mo_wrong, .int mo_value, .ref mo_readA, .ref mo_aheadA, .int mo_undoMany, .ref mo_asideA, .ref mo_weighingsA, .int mo_weighed, .ref mo_bookA, .int mo_entries, .ref mo_isKeptA, .ref mo_keptA, .ref mo_seedsA])), (mo_toldA, .inl (κ 0, 37, .inl mo_told)), (mo_stA, .inl (κ 0, 17, .inl mo_st)), (mo_textA, .inl (κ 0, 240, .inl mo_text)), (mo_readA, .inl (κ 0, 37, .inl mo_read)), (mo_aheadA, .inl (κ 0, 340, .inl mo_ahead)), (mo_asideA, .inl (κ 0, 17, .inl mo_aside)), (mo_weighingsA, .inl (κ 0, 12, .inl mo_weighings)), (mo_bookA, .inl (κ 0, 30, .inl mo_book)), (mo_isKeptA, .inl (κ 1, 2, .inl mo_isKept)), (mo_keptA, .inl (κ 0, 34, .inl mo_kept)), (mo_seedsA, .inl (κ 0, 2, .inl mo_seeds))]) r0 := by
  refine krI_of (cc := cX9_isPayer) (maxL := 2) (rt := .boolean) (by decide) rfl (Nat.le_of_ble_eq_true rfl) ?_
  intro p e s m args below meth c A Q ls hx hb hml hown hts hK hA hret hP hD hS hl
  have hown : s.vm.findClass RX9 = some m.cls := hown
  have hl : lv_has ls 2 [(0, .ref moo), (1, .int x1)] := hl
  have iw9 : ∀ w ∈ u_ws RX9 TX9 21, w ∈ wsX9_isPayer := (fun _ h => List.mem_cons_of_mem _ (List.mem_append_right _ h))
  have k0 : (Cond.fieldLink RX9 7 "KingRansomModel" "told" "[I").before args s = true := hts _ (List.mem_of_getElem? (i := 1) rfl)
  unfold pX9_isPayer at hres
  refine lv_iload_n hx hb dX9_isPayer_0 rfl (lv_at hl 1 rfl) ?_
  refine lv_i2l (v := x1.toInt64) hx hb dX9_isPayer_1 rfl ?_
  refine lv_lconst (v := 0) hx hb dX9_isPayer_2 (by decide) ?_
  refine lv_aload_n hx hb dX9_isPayer_3 rfl (lv_at hl 0 rfl) ?_
  refine va_get (D := D) (ci := 9) (v := .ref mo_toldA) (C := RX9) (T := TX9) (N := 21) hx hb hts iw9 hown hK.1 hP 0 rfl rfl 0 (by decide) k0 (fun _ h9 => h9) rfl dX9_isPayer_4 ?_
  refine lv_iconst (v := 2) hx hb dX9_isPayer_7 (by decide) ?_
  refine kr_iald (f := mo_told) (j := 2) hx hb hK hP 1 rfl (by decide) (by decide) dX9_isPayer_8 ?_
  refine lv_iconst (v := 1) hx hb dX9_isPayer_9 (by decide) ?_
  refine lv_isub hx hb dX9_isPayer_10 ?_
  refine lv_i2l (v := ((mo_told 2) - 1).toInt64) hx hb dX9_isPayer_11 rfl ?_
  obtain ⟨r1, hc2, hres⟩ := kb1_s hres
  refine krI_S0 (As := [.long (x1.toInt64), .long 0, .long (((mo_told 2) - 1).toInt64)]) (rest := []) ⟨hx, hb, hml, hown, hts⟩ hK (tX9_in l D κ (x1.toInt64) 0 (((mo_told 2) - 1).toInt64) r1 hc2) (va_cwS 3 hts gX9_isPayer_X9_in rfl rfl rfl (by decide +kernel) ⟨(Nat.le_of_ble_eq_true rfl), (Nat.le_of_ble_eq_true rfl)⟩) hP hD hS hA rfl hl.1 rfl (Nat.le_of_ble_eq_true rfl) dX9_isPayer_12 ⟨Nat.zero_le _, Nat.zero_le _⟩ (fun H locs hP hD hS => ?_)
  obtain ⟨g3, hres⟩ := og_no hres
  have hres := Option.some.inj hres
  have h0 := hres
  subst h0
  exact hret _ _ _ _ (kr_nz g3) hP hD hS dX9_isPayer_15

def pX9_tellsBy (x1 : Int32) (x2 : Int32) (mo_told : Nat → Int32) (mo_st : Nat → Int32) : Option (Int32) :=
    if (13 + x1) < 0 ∨ 37 ≤ (13 + x1).toNatClampNeg then none else
    kl (100 - (((mo_told ((13 + x1).toNatClampNeg)) * x2) / 10)) fun y2 =>
    if (0 + x1) < 0 ∨ 17 ≤ (0 + x1).toNatClampNeg then none else
    (if 0 ≤ y2 then
    some ((((mo_st ((0 + x1).toNatClampNeg)) * y2) / 100))
    else
    some ((((mo_st ((0 + x1).toNatClampNeg)) * 0) / 100)))
set_option maxHeartbeats 8000000 in
set_option maxRecDepth 100000 in
theorem tX9_tellsBy (l : Launch) (D : va_G) (κ : Nat → ClassId) (moo : Nat) (mo_toldA : Nat) (mo_stA : Nat) (mo_textA : Nat) (mo_readA : Nat) (mo_aheadA : Nat) (mo_asideA : Nat) (mo_weighingsA : Nat) (mo_bookA : Nat) (mo_isKeptA : Nat) (mo_keptA : Nat) (mo_seedsA : Nat) (mo_told : Nat → Int32) (mo_st : Nat → Int32) (mo_isThere : Int32) (mo_seed : Int32) (mo_text : Nat → Int32) (mo_typed : Int32) (mo_faultAt : Int32) (mo_place : Int32) (mo_wrong : Int32) (mo_value : Int32) (mo_read : Nat → Int32) (mo_ahead : Nat → Int32) (mo_undoMany : Int32) (mo_aside : Nat → Int32) (mo_weighings : Nat → Int32) (mo_weighed : Int32) (mo_book : Nat → Int32) (mo_entries : Int32) (mo_isKept : Nat → Int32) (mo_kept : Nat → Int32) (mo_seeds : Nat → Int32) (x1 : Int32) (x2 : Int32) (r0 : Int32) (hres : pX9_tellsBy x1 x2 mo_told mo_st = some (r0)) : krI l yX9_tellsBy wsX9_tellsBy { frames := 0, cells := 0, slots := 0, locals := 0 } D κ [.ref moo, .int x1, .int x2] ([(moo, .inr (9, [.ref mo_toldA, .ref mo_stA, .int mo_isThere, .int mo_seed, .ref mo_textA, .int mo_typed, .int mo_faultAt, .int mo_place, .int mo_wrong, .int mo_value, .ref mo_readA, .ref mo_aheadA, .int mo_undoMany, .ref mo_asideA, .ref mo_weighingsA, .int mo_weighed, .ref mo_bookA, .int mo_entries, .ref mo_isKeptA, .ref mo_keptA, .ref mo_seedsA])), (mo_toldA, .inl (κ 0, 37, .inl mo_told)), (mo_stA, .inl (κ 0, 17, .inl mo_st)), (mo_textA, .inl (κ 0, 240, .inl mo_text)), (mo_readA, .inl (κ 0, 37, .inl mo_read)), (mo_aheadA, .inl (κ 0, 340, .inl mo_ahead)), (mo_asideA, .inl (κ 0, 17, .inl mo_aside)), (mo_weighingsA, .inl (κ 0, 12, .inl mo_weighings)), (mo_bookA, .inl (κ 0, 30, .inl mo_book)), (mo_isKeptA, .inl (κ 1, 2, .inl mo_isKept)), (mo_keptA, .inl (κ 0, 34, .inl mo_kept)), (mo_seedsA, .inl (κ 0, 2, .inl mo_seeds))]) ([(moo, .inr (9, [.ref mo_toldA, .ref mo_stA, .int mo_isThere, .int mo_seed, .ref mo_textA, .int mo_typed, .int mo_faultAt, .int mo_place, .int mo_wrong, .int mo_value, .ref mo_readA, .ref mo_aheadA, .int mo_undoMany, .ref mo_asideA, .ref mo_weighingsA, .int mo_weighed, .ref mo_bookA, .int mo_entries, .ref mo_isKeptA, .ref mo_keptA, .ref mo_seedsA])), (mo_toldA, .inl (κ 0, 37, .inl mo_told)), (mo_stA, .inl (κ 0, 17, .inl mo_st)), (mo_textA, .inl (κ 0, 240, .inl mo_text)), (mo_readA, .inl (κ 0, 37, .inl mo_read)), (mo_aheadA, .inl (κ 0, 340, .inl mo_ahead)), (mo_asideA, .inl (κ 0, 17, .inl mo_aside)), (mo_weighingsA, .inl (κ 0, 12, .inl mo_weighings)), (mo_bookA, .inl (κ 0, 30, .inl mo_book)), (mo_isKeptA, .inl (κ 1, 2, .inl mo_isKept)), (mo_keptA, .inl (κ 0, 34, .inl mo_kept)), (mo_seedsA, .inl (κ 0, 2, .inl mo_seeds))]) r0 := by
  refine krI_of (cc := cX9_tellsBy) (maxL := 4) (rt := .int) (by decide) rfl (Nat.le_of_ble_eq_true rfl) ?_
  intro p e s m args below meth c A Q ls hx hb hml hown hts hK hA hret hP hD hS hl
  have hown : s.vm.findClass RX9 = some m.cls := hown
  have hl : lv_has ls 4 [(0, .ref moo), (1, .int x1), (2, .int x2)] := hl
  have iw9 : ∀ w ∈ u_ws RX9 TX9 21, w ∈ wsX9_tellsBy := (fun _ h => List.mem_cons_of_mem _ (List.mem_append_right _ h))
  have k0 : (Cond.fieldLink RX9 7 "KingRansomModel" "told" "[I").before args s = true := hts _ (List.mem_of_getElem? (i := 1) rfl)
  have k1 : (Cond.fieldLink RX9 13 "KingRansomModel" "st" "[I").before args s = true := hts _ (List.mem_of_getElem? (i := 2) rfl)
  unfold pX9_tellsBy at hres
  refine lv_bipush (v := 100) hx hb dX9_tellsBy_0 (by decide) ?_
  refine lv_aload_n hx hb dX9_tellsBy_2 rfl (lv_at hl 0 rfl) ?_
  refine va_get (D := D) (ci := 9) (v := .ref mo_toldA) (C := RX9) (T := TX9) (N := 21) hx hb hts iw9 hown hK.1 hP 0 rfl rfl 0 (by decide) k0 (fun _ h9 => h9) rfl dX9_tellsBy_3 ?_
  refine lv_bipush (v := 13) hx hb dX9_tellsBy_6 (by decide) ?_
  refine lv_iload_n hx hb dX9_tellsBy_8 rfl (lv_at hl 1 rfl) ?_
  refine lv_iadd hx hb dX9_tellsBy_9 ?_
  obtain ⟨g1, hres⟩ := og_no hres
  refine kr_iald (f := mo_told) (j := (13 + x1).toNatClampNeg) hx hb hK hP 1 rfl g1 rfl dX9_tellsBy_10 ?_
  refine lv_iload_n hx hb dX9_tellsBy_11 rfl (lv_at hl 2 rfl) ?_
  refine lv_imul hx hb dX9_tellsBy_12 ?_
  refine lv_bipush (v := 10) hx hb dX9_tellsBy_13 (by decide) ?_
  refine lv_idiv hx hb dX9_tellsBy_15 (by decide) ?_
  refine lv_isub hx hb dX9_tellsBy_16 ?_
  obtain ⟨y2, ey2, hres⟩ := kl_s hres
  refine kr_tope ey2 ?_
  refine lv_istore_n (lv' := [(3, .int y2), (0, .ref moo), (1, .int x1), (2, .int x2)]) hx hb dX9_tellsBy_17 rfl hl (by decide) rfl (fun ls hl => ?_)
  refine lv_aload_n hx hb dX9_tellsBy_18 rfl (lv_at hl 1 rfl) ?_
  refine va_get (D := D) (ci := 9) (v := .ref mo_stA) (C := RX9) (T := TX9) (N := 21) hx hb hts iw9 hown hK.1 hP 0 rfl rfl 1 (by decide) k1 (fun _ h9 => h9) rfl dX9_tellsBy_19 ?_
  refine lv_iconst (v := 0) hx hb dX9_tellsBy_22 (by decide) ?_
  refine lv_iload_n hx hb dX9_tellsBy_23 rfl (lv_at hl 2 rfl) ?_
  refine lv_iadd hx hb dX9_tellsBy_24 ?_
  obtain ⟨g3, hres⟩ := og_no hres
  refine kr_iald (f := mo_st) (j := (0 + x1).toNatClampNeg) hx hb hK hP 2 rfl g3 rfl dX9_tellsBy_25 ?_
  refine lv_iload_n hx hb dX9_tellsBy_26 rfl (lv_at hl 0 rfl) ?_
  refine lv_if_ge (tgt := 34) hx hb dX9_tellsBy_27 (by decide) (fun c4 => ?_) (fun c4 => ?_)
  · replace hres := og_t c4 hres
    refine lv_iload_n hx hb dX9_tellsBy_34 rfl (lv_at hl 0 rfl) ?_
    refine lv_imul hx hb dX9_tellsBy_35 ?_
    refine lv_bipush (v := 100) hx hb dX9_tellsBy_36 (by decide) ?_
    refine lv_idiv hx hb dX9_tellsBy_38 (by decide) ?_
    have hres := Option.some.inj hres
    have h0 := hres
    subst h0
    exact hret _ _ _ _ (vp_nar_int _) hP hD hS dX9_tellsBy_39
  · replace hres := og_f c4 hres
    refine lv_iconst (v := 0) hx hb dX9_tellsBy_30 (by decide) ?_
    refine lv_goto (tgt := 35) hx hb dX9_tellsBy_31 (by decide) ?_
    refine lv_imul hx hb dX9_tellsBy_35 ?_
    refine lv_bipush (v := 100) hx hb dX9_tellsBy_36 (by decide) ?_
    refine lv_idiv hx hb dX9_tellsBy_38 (by decide) ?_
    have hres := Option.some.inj hres
    have h0 := hres
    subst h0
    exact hret _ _ _ _ (vp_nar_int _) hP hD hS dX9_tellsBy_39

def pX9_paysBy (x1 : Int32) (x2 : Int32) (mo_told : Nat → Int32) (mo_st : Nat → Int32) : Option (Int32) :=
    kb1 (pX9_tellsBy x1 x2 mo_told mo_st) fun r1 =>
    some (((r1 * x2) / 100))
set_option maxHeartbeats 8000000 in
set_option maxRecDepth 100000 in
theorem tX9_paysBy (l : Launch) (D : va_G) (κ : Nat → ClassId) (moo : Nat) (mo_toldA : Nat) (mo_stA : Nat) (mo_textA : Nat) (mo_readA : Nat) (mo_aheadA : Nat) (mo_asideA : Nat) (mo_weighingsA : Nat) (mo_bookA : Nat) (mo_isKeptA : Nat) (mo_keptA : Nat) (mo_seedsA : Nat) (mo_told : Nat → Int32) (mo_st : Nat → Int32) (mo_isThere : Int32) (mo_seed : Int32) (mo_text : Nat → Int32) (mo_typed : Int32) (mo_faultAt : Int32) (mo_place : Int32) (mo_wrong : Int32) (mo_value : Int32) (mo_read : Nat → Int32) (mo_ahead : Nat → Int32) (mo_undoMany : Int32) (mo_aside : Nat → Int32) (mo_weighings : Nat → Int32) (mo_weighed : Int32) (mo_book : Nat → Int32) (mo_entries : Int32) (mo_isKept : Nat → Int32) (mo_kept : Nat → Int32) (mo_seeds : Nat → Int32) (x1 : Int32) (x2 : Int32) (r0 : Int32) (hres : pX9_paysBy x1 x2 mo_told mo_st = some (r0)) : krI l yX9_paysBy wsX9_paysBy { frames := 1, cells := 0, slots := 0, locals := 100 } D κ [.ref moo, .int x1, .int x2] ([(moo, .inr (9, [.ref mo_toldA, .ref mo_stA, .int mo_isThere, .int mo_seed, .ref mo_textA, .int mo_typed, .int mo_faultAt, .int mo_place, .int mo_wrong, .int mo_value, .ref mo_readA, .ref mo_aheadA, .int mo_undoMany, .ref mo_asideA, .ref mo_weighingsA, .int mo_weighed, .ref mo_bookA, .int mo_entries, .ref mo_isKeptA, .ref mo_keptA, .ref mo_seedsA])), (mo_toldA, .inl (κ 0, 37, .inl mo_told)), (mo_stA, .inl (κ 0, 17, .inl mo_st)), (mo_textA, .inl (κ 0, 240, .inl mo_text)), (mo_readA, .inl (κ 0, 37, .inl mo_read)), (mo_aheadA, .inl (κ 0, 340, .inl mo_ahead)), (mo_asideA, .inl (κ 0, 17, .inl mo_aside)), (mo_weighingsA, .inl (κ 0, 12, .inl mo_weighings)), (mo_bookA, .inl (κ 0, 30, .inl mo_book)), (mo_isKeptA, .inl (κ 1, 2, .inl mo_isKept)), (mo_keptA, .inl (κ 0, 34, .inl mo_kept)), (mo_seedsA, .inl (κ 0, 2, .inl mo_seeds))]) ([(moo, .inr (9, [.ref mo_toldA, .ref mo_stA, .int mo_isThere, .int mo_seed, .ref mo_textA, .int mo_typed, .int mo_faultAt, .int mo_place, .int mo_wrong, .int mo_value, .ref mo_readA, .ref mo_aheadA, .int mo_undoMany, .ref mo_asideA, .ref mo_weighingsA, .int mo_weighed, .ref mo_bookA, .int mo_entries, .ref mo_isKeptA, .ref mo_keptA, .ref mo_seedsA])), (mo_toldA, .inl (κ 0, 37, .inl mo_told)), (mo_stA, .inl (κ 0, 17, .inl mo_st)), (mo_textA, .inl (κ 0, 240, .inl mo_text)), (mo_readA, .inl (κ 0, 37, .inl mo_read)), (mo_aheadA, .inl (κ 0, 340, .inl mo_ahead)), (mo_asideA, .inl (κ 0, 17, .inl mo_aside)), (mo_weighingsA, .inl (κ 0, 12, .inl mo_weighings)), (mo_bookA, .inl (κ 0, 30, .inl mo_book)), (mo_isKeptA, .inl (κ 1, 2, .inl mo_isKept)), (mo_keptA, .inl (κ 0, 34, .inl mo_kept)), (mo_seedsA, .inl (κ 0, 2, .inl mo_seeds))]) r0 := by
  refine krI_of (cc := cX9_paysBy) (maxL := 3) (rt := .int) (by decide) rfl (Nat.le_of_ble_eq_true rfl) ?_
  intro p e s m args below meth c A Q ls hx hb hml hown hts hK hA hret hP hD hS hl
  have hown : s.vm.findClass RX9 = some m.cls := hown
  have hl : lv_has ls 3 [(0, .ref moo), (1, .int x1), (2, .int x2)] := hl
  unfold pX9_paysBy at hres
  refine lv_aload_n hx hb dX9_paysBy_0 rfl (lv_at hl 0 rfl) ?_
  refine lv_iload_n hx hb dX9_paysBy_1 rfl (lv_at hl 1 rfl) ?_
  refine lv_iload_n hx hb dX9_paysBy_2 rfl (lv_at hl 2 rfl) ?_
  obtain ⟨r1, hc2, hres⟩ := kb1_s hres
  refine krI_V (As := [.int x1, .int x2]) (rest := []) (wr := []) ⟨hx, hb, hml, hown, hts⟩ hK (tX9_tellsBy l D κ moo mo_toldA mo_stA mo_textA mo_readA mo_aheadA mo_asideA mo_weighingsA mo_bookA mo_isKeptA mo_keptA mo_seedsA mo_told mo_st mo_isThere mo_seed mo_text mo_typed mo_faultAt mo_place mo_wrong mo_value mo_read mo_ahead mo_undoMany mo_aside mo_weighings mo_weighed mo_book mo_entries mo_isKept mo_kept mo_seeds x1 x2 r1 hc2) (cwV 2 hts gX9_paysBy_X9_tellsBy rfl rfl rfl (by decide +kernel) ⟨(Nat.le_of_ble_eq_true rfl), (Nat.le_of_ble_eq_true rfl)⟩) rfl rfl rfl hP hD hS hA [0, 1, 2, 3, 4, 5, 6, 7, 8, 9, 10, 11] [] rfl rfl rfl rfl (by decide) rfl hl.1 rfl (Nat.le_of_ble_eq_true rfl) dX9_paysBy_3 ⟨Nat.zero_le _, Nat.zero_le _⟩ (fun H locs hP hD hS => ?_)
  have hP : va_P D vwCl ([(moo, .inr (9, [.ref mo_toldA, .ref mo_stA, .int mo_isThere, .int mo_seed, .ref mo_textA, .int mo_typed, .int mo_faultAt, .int mo_place, .int mo_wrong, .int mo_value, .ref mo_readA, .ref mo_aheadA, .int mo_undoMany, .ref mo_asideA, .ref mo_weighingsA, .int mo_weighed, .ref mo_bookA, .int mo_entries, .ref mo_isKeptA, .ref mo_keptA, .ref mo_seedsA])), (mo_toldA, .inl (κ 0, 37, .inl mo_told)), (mo_stA, .inl (κ 0, 17, .inl mo_st)), (mo_textA, .inl (κ 0, 240, .inl mo_text)), (mo_readA, .inl (κ 0, 37, .inl mo_read)), (mo_aheadA, .inl (κ 0, 340, .inl mo_ahead)), (mo_asideA, .inl (κ 0, 17, .inl mo_aside)), (mo_weighingsA, .inl (κ 0, 12, .inl mo_weighings)), (mo_bookA, .inl (κ 0, 30, .inl mo_book)), (mo_isKeptA, .inl (κ 1, 2, .inl mo_isKept)), (mo_keptA, .inl (κ 0, 34, .inl mo_kept)), (mo_seedsA, .inl (κ 0, 2, .inl mo_seeds))]) H := hP
  have hD : va_D A ([(moo, .inr (9, [.ref mo_toldA, .ref mo_stA, .int mo_isThere, .int mo_seed, .ref mo_textA, .int mo_typed, .int mo_faultAt, .int mo_place, .int mo_wrong, .int mo_value, .ref mo_readA, .ref mo_aheadA, .int mo_undoMany, .ref mo_asideA, .ref mo_weighingsA, .int mo_weighed, .ref mo_bookA, .int mo_entries, .ref mo_isKeptA, .ref mo_keptA, .ref mo_seedsA])), (mo_toldA, .inl (κ 0, 37, .inl mo_told)), (mo_stA, .inl (κ 0, 17, .inl mo_st)), (mo_textA, .inl (κ 0, 240, .inl mo_text)), (mo_readA, .inl (κ 0, 37, .inl mo_read)), (mo_aheadA, .inl (κ 0, 340, .inl mo_ahead)), (mo_asideA, .inl (κ 0, 17, .inl mo_aside)), (mo_weighingsA, .inl (κ 0, 12, .inl mo_weighings)), (mo_bookA, .inl (κ 0, 30, .inl mo_book)), (mo_isKeptA, .inl (κ 1, 2, .inl mo_isKept)), (mo_keptA, .inl (κ 0, 34, .inl mo_kept)), (mo_seedsA, .inl (κ 0, 2, .inl mo_seeds))]) := hD
  refine lv_iload_n hx hb dX9_paysBy_6 rfl (lv_at hl 2 rfl) ?_
  refine lv_imul hx hb dX9_paysBy_7 ?_
  refine lv_bipush (v := 100) hx hb dX9_paysBy_8 (by decide) ?_
  refine lv_idiv hx hb dX9_paysBy_10 (by decide) ?_
  have hres := Option.some.inj hres
  have h0 := hres
  subst h0
  exact hret _ _ _ _ (vp_nar_int _) hP hD hS dX9_paysBy_11

def pX9_hiddenBy (x1 : Int32) (x2 : Int32) (mo_told : Nat → Int32) (mo_st : Nat → Int32) : Option (Int32) :=
    if (0 + x1) < 0 ∨ 17 ≤ (0 + x1).toNatClampNeg then none else
    kb1 (pX9_tellsBy x1 x2 mo_told mo_st) fun r2 =>
    some (((mo_st ((0 + x1).toNatClampNeg)) - r2))
set_option maxHeartbeats 8000000 in
set_option maxRecDepth 100000 in
theorem tX9_hiddenBy (l : Launch) (D : va_G) (κ : Nat → ClassId) (moo : Nat) (mo_toldA : Nat) (mo_stA : Nat) (mo_textA : Nat) (mo_readA : Nat) (mo_aheadA : Nat) (mo_asideA : Nat) (mo_weighingsA : Nat) (mo_bookA : Nat) (mo_isKeptA : Nat) (mo_keptA : Nat) (mo_seedsA : Nat) (mo_told : Nat → Int32) (mo_st : Nat → Int32) (mo_isThere : Int32) (mo_seed : Int32) (mo_text : Nat → Int32) (mo_typed : Int32) (mo_faultAt : Int32) (mo_place : Int32) (mo_wrong : Int32) (mo_value : Int32) (mo_read : Nat → Int32) (mo_ahead : Nat → Int32) (mo_undoMany : Int32) (mo_aside : Nat → Int32) (mo_weighings : Nat → Int32) (mo_weighed : Int32) (mo_book : Nat → Int32) (mo_entries : Int32) (mo_isKept : Nat → Int32) (mo_kept : Nat → Int32) (mo_seeds : Nat → Int32) (x1 : Int32) (x2 : Int32) (r0 : Int32) (hres : pX9_hiddenBy x1 x2 mo_told mo_st = some (r0)) : krI l yX9_hiddenBy wsX9_hiddenBy { frames := 1, cells := 0, slots := 0, locals := 100 } D κ [.ref moo, .int x1, .int x2] ([(moo, .inr (9, [.ref mo_toldA, .ref mo_stA, .int mo_isThere, .int mo_seed, .ref mo_textA, .int mo_typed, .int mo_faultAt, .int mo_place, .int mo_wrong, .int mo_value, .ref mo_readA, .ref mo_aheadA, .int mo_undoMany, .ref mo_asideA, .ref mo_weighingsA, .int mo_weighed, .ref mo_bookA, .int mo_entries, .ref mo_isKeptA, .ref mo_keptA, .ref mo_seedsA])), (mo_toldA, .inl (κ 0, 37, .inl mo_told)), (mo_stA, .inl (κ 0, 17, .inl mo_st)), (mo_textA, .inl (κ 0, 240, .inl mo_text)), (mo_readA, .inl (κ 0, 37, .inl mo_read)), (mo_aheadA, .inl (κ 0, 340, .inl mo_ahead)), (mo_asideA, .inl (κ 0, 17, .inl mo_aside)), (mo_weighingsA, .inl (κ 0, 12, .inl mo_weighings)), (mo_bookA, .inl (κ 0, 30, .inl mo_book)), (mo_isKeptA, .inl (κ 1, 2, .inl mo_isKept)), (mo_keptA, .inl (κ 0, 34, .inl mo_kept)), (mo_seedsA, .inl (κ 0, 2, .inl mo_seeds))]) ([(moo, .inr (9, [.ref mo_toldA, .ref mo_stA, .int mo_isThere, .int mo_seed, .ref mo_textA, .int mo_typed, .int mo_faultAt, .int mo_place, .int mo_wrong, .int mo_value, .ref mo_readA, .ref mo_aheadA, .int mo_undoMany, .ref mo_asideA, .ref mo_weighingsA, .int mo_weighed, .ref mo_bookA, .int mo_entries, .ref mo_isKeptA, .ref mo_keptA, .ref mo_seedsA])), (mo_toldA, .inl (κ 0, 37, .inl mo_told)), (mo_stA, .inl (κ 0, 17, .inl mo_st)), (mo_textA, .inl (κ 0, 240, .inl mo_text)), (mo_readA, .inl (κ 0, 37, .inl mo_read)), (mo_aheadA, .inl (κ 0, 340, .inl mo_ahead)), (mo_asideA, .inl (κ 0, 17, .inl mo_aside)), (mo_weighingsA, .inl (κ 0, 12, .inl mo_weighings)), (mo_bookA, .inl (κ 0, 30, .inl mo_book)), (mo_isKeptA, .inl (κ 1, 2, .inl mo_isKept)), (mo_keptA, .inl (κ 0, 34, .inl mo_kept)), (mo_seedsA, .inl (κ 0, 2, .inl mo_seeds))]) r0 := by
  refine krI_of (cc := cX9_hiddenBy) (maxL := 3) (rt := .int) (by decide) rfl (Nat.le_of_ble_eq_true rfl) ?_
  intro p e s m args below meth c A Q ls hx hb hml hown hts hK hA hret hP hD hS hl
  have hown : s.vm.findClass RX9 = some m.cls := hown
  have hl : lv_has ls 3 [(0, .ref moo), (1, .int x1), (2, .int x2)] := hl
  have iw9 : ∀ w ∈ u_ws RX9 TX9 21, w ∈ wsX9_hiddenBy := (fun _ h => List.mem_cons_of_mem _ (List.mem_append_right _ h))
  have k0 : (Cond.fieldLink RX9 13 "KingRansomModel" "st" "[I").before args s = true := hts _ (List.mem_of_getElem? (i := 1) rfl)
  unfold pX9_hiddenBy at hres
  refine lv_aload_n hx hb dX9_hiddenBy_0 rfl (lv_at hl 0 rfl) ?_
  refine va_get (D := D) (ci := 9) (v := .ref mo_stA) (C := RX9) (T := TX9) (N := 21) hx hb hts iw9 hown hK.1 hP 0 rfl rfl 1 (by decide) k0 (fun _ h9 => h9) rfl dX9_hiddenBy_1 ?_
  refine lv_iconst (v := 0) hx hb dX9_hiddenBy_4 (by decide) ?_
  refine lv_iload_n hx hb dX9_hiddenBy_5 rfl (lv_at hl 1 rfl) ?_
  refine lv_iadd hx hb dX9_hiddenBy_6 ?_
  obtain ⟨g1, hres⟩ := og_no hres
  refine kr_iald (f := mo_st) (j := (0 + x1).toNatClampNeg) hx hb hK hP 2 rfl g1 rfl dX9_hiddenBy_7 ?_
  refine lv_aload_n hx hb dX9_hiddenBy_8 rfl (lv_at hl 0 rfl) ?_
  refine lv_iload_n hx hb dX9_hiddenBy_9 rfl (lv_at hl 1 rfl) ?_
  refine lv_iload_n hx hb dX9_hiddenBy_10 rfl (lv_at hl 2 rfl) ?_
  obtain ⟨r2, hc3, hres⟩ := kb1_s hres
  refine krI_V (As := [.int x1, .int x2]) (rest := [.int (mo_st ((0 + x1).toNatClampNeg))]) (wr := []) ⟨hx, hb, hml, hown, hts⟩ hK (tX9_tellsBy l D κ moo mo_toldA mo_stA mo_textA mo_readA mo_aheadA mo_asideA mo_weighingsA mo_bookA mo_isKeptA mo_keptA mo_seedsA mo_told mo_st mo_isThere mo_seed mo_text mo_typed mo_faultAt mo_place mo_wrong mo_value mo_read mo_ahead mo_undoMany mo_aside mo_weighings mo_weighed mo_book mo_entries mo_isKept mo_kept mo_seeds x1 x2 r2 hc3) (cwV 2 hts gX9_hiddenBy_X9_tellsBy rfl rfl rfl (by decide +kernel) ⟨(Nat.le_of_ble_eq_true rfl), (Nat.le_of_ble_eq_true rfl)⟩) rfl rfl rfl hP hD hS hA [0, 1, 2, 3, 4, 5, 6, 7, 8, 9, 10, 11] [] rfl rfl rfl rfl (by decide) rfl hl.1 rfl (Nat.le_of_ble_eq_true rfl) dX9_hiddenBy_11 ⟨Nat.zero_le _, Nat.zero_le _⟩ (fun H locs hP hD hS => ?_)
  have hP : va_P D vwCl ([(moo, .inr (9, [.ref mo_toldA, .ref mo_stA, .int mo_isThere, .int mo_seed, .ref mo_textA, .int mo_typed, .int mo_faultAt, .int mo_place, .int mo_wrong, .int mo_value, .ref mo_readA, .ref mo_aheadA, .int mo_undoMany, .ref mo_asideA, .ref mo_weighingsA, .int mo_weighed, .ref mo_bookA, .int mo_entries, .ref mo_isKeptA, .ref mo_keptA, .ref mo_seedsA])), (mo_toldA, .inl (κ 0, 37, .inl mo_told)), (mo_stA, .inl (κ 0, 17, .inl mo_st)), (mo_textA, .inl (κ 0, 240, .inl mo_text)), (mo_readA, .inl (κ 0, 37, .inl mo_read)), (mo_aheadA, .inl (κ 0, 340, .inl mo_ahead)), (mo_asideA, .inl (κ 0, 17, .inl mo_aside)), (mo_weighingsA, .inl (κ 0, 12, .inl mo_weighings)), (mo_bookA, .inl (κ 0, 30, .inl mo_book)), (mo_isKeptA, .inl (κ 1, 2, .inl mo_isKept)), (mo_keptA, .inl (κ 0, 34, .inl mo_kept)), (mo_seedsA, .inl (κ 0, 2, .inl mo_seeds))]) H := hP
  have hD : va_D A ([(moo, .inr (9, [.ref mo_toldA, .ref mo_stA, .int mo_isThere, .int mo_seed, .ref mo_textA, .int mo_typed, .int mo_faultAt, .int mo_place, .int mo_wrong, .int mo_value, .ref mo_readA, .ref mo_aheadA, .int mo_undoMany, .ref mo_asideA, .ref mo_weighingsA, .int mo_weighed, .ref mo_bookA, .int mo_entries, .ref mo_isKeptA, .ref mo_keptA, .ref mo_seedsA])), (mo_toldA, .inl (κ 0, 37, .inl mo_told)), (mo_stA, .inl (κ 0, 17, .inl mo_st)), (mo_textA, .inl (κ 0, 240, .inl mo_text)), (mo_readA, .inl (κ 0, 37, .inl mo_read)), (mo_aheadA, .inl (κ 0, 340, .inl mo_ahead)), (mo_asideA, .inl (κ 0, 17, .inl mo_aside)), (mo_weighingsA, .inl (κ 0, 12, .inl mo_weighings)), (mo_bookA, .inl (κ 0, 30, .inl mo_book)), (mo_isKeptA, .inl (κ 1, 2, .inl mo_isKept)), (mo_keptA, .inl (κ 0, 34, .inl mo_kept)), (mo_seedsA, .inl (κ 0, 2, .inl mo_seeds))]) := hD
  refine lv_isub hx hb dX9_hiddenBy_14 ?_
  have hres := Option.some.inj hres
  have h0 := hres
  subst h0
  exact hret _ _ _ _ (vp_nar_int _) hP hD hS dX9_hiddenBy_15

def pX9_payer (x1 : Int32) (x2 : Int32) (mo_told : Nat → Int32) (mo_st : Nat → Int32) : Option (Int32) :=
    kb1 (pX9_isPayer x1 mo_told) fun r1 =>
    (if r1 = 0 then
    some ((-1000000001))
    else
    if (6 + x1) < 0 ∨ 17 ≤ (6 + x1).toNatClampNeg then none else
    kl (mo_st ((6 + x1).toNatClampNeg)) fun y5 =>
    (if x2 = 0 then
    if (0 + x1) < 0 ∨ 17 ≤ (0 + x1).toNatClampNeg then none else
    some ((mo_st ((0 + x1).toNatClampNeg)))
    else
    (if x2 = 1 then
    if (13 + x1) < 0 ∨ 37 ≤ (13 + x1).toNatClampNeg then none else
    some ((mo_told ((13 + x1).toNatClampNeg)))
    else
    (if x2 = 2 then
    some (y5)
    else
    (if x2 = 3 then
    kb1 (pX9_tellsBy x1 y5 mo_told mo_st) fun r8 =>
    some (r8)
    else
    (if x2 = 4 then
    kb1 (pX9_hiddenBy x1 y5 mo_told mo_st) fun r10 =>
    some (r10)
    else
    (if x2 = 5 then
    kb1 (pX9_paysBy x1 y5 mo_told mo_st) fun r12 =>
    some (r12)
    else
    some ((-1000000002)))))))))
set_option maxHeartbeats 8000000 in
set_option maxRecDepth 100000 in
theorem tX9_payer (l : Launch) (D : va_G) (κ : Nat → ClassId) (moo : Nat) (mo_toldA : Nat) (mo_stA : Nat) (mo_textA : Nat) (mo_readA : Nat) (mo_aheadA : Nat) (mo_asideA : Nat) (mo_weighingsA : Nat) (mo_bookA : Nat) (mo_isKeptA : Nat) (mo_keptA : Nat) (mo_seedsA : Nat) (mo_told : Nat → Int32) (mo_st : Nat → Int32) (mo_isThere : Int32) (mo_seed : Int32) (mo_text : Nat → Int32) (mo_typed : Int32) (mo_faultAt : Int32) (mo_place : Int32) (mo_wrong : Int32) (mo_value : Int32) (mo_read : Nat → Int32) (mo_ahead : Nat → Int32) (mo_undoMany : Int32) (mo_aside : Nat → Int32) (mo_weighings : Nat → Int32) (mo_weighed : Int32) (mo_book : Nat → Int32) (mo_entries : Int32) (mo_isKept : Nat → Int32) (mo_kept : Nat → Int32) (mo_seeds : Nat → Int32) (x1 : Int32) (x2 : Int32) (r0 : Int32) (hres : pX9_payer x1 x2 mo_told mo_st = some (r0)) : krI l yX9_payer wsX9_payer { frames := 2, cells := 0, slots := 0, locals := 200 } D κ [.ref moo, .int x1, .int x2] ([(moo, .inr (9, [.ref mo_toldA, .ref mo_stA, .int mo_isThere, .int mo_seed, .ref mo_textA, .int mo_typed, .int mo_faultAt, .int mo_place, .int mo_wrong, .int mo_value, .ref mo_readA, .ref mo_aheadA, .int mo_undoMany, .ref mo_asideA, .ref mo_weighingsA, .int mo_weighed, .ref mo_bookA, .int mo_entries, .ref mo_isKeptA, .ref mo_keptA, .ref mo_seedsA])), (mo_toldA, .inl (κ 0, 37, .inl mo_told)), (mo_stA, .inl (κ 0, 17, .inl mo_st)), (mo_textA, .inl (κ 0, 240, .inl mo_text)), (mo_readA, .inl (κ 0, 37, .inl mo_read)), (mo_aheadA, .inl (κ 0, 340, .inl mo_ahead)), (mo_asideA, .inl (κ 0, 17, .inl mo_aside)), (mo_weighingsA, .inl (κ 0, 12, .inl mo_weighings)), (mo_bookA, .inl (κ 0, 30, .inl mo_book)), (mo_isKeptA, .inl (κ 1, 2, .inl mo_isKept)), (mo_keptA, .inl (κ 0, 34, .inl mo_kept)), (mo_seedsA, .inl (κ 0, 2, .inl mo_seeds))]) ([(moo, .inr (9, [.ref mo_toldA, .ref mo_stA, .int mo_isThere, .int mo_seed, .ref mo_textA, .int mo_typed, .int mo_faultAt, .int mo_place, .int mo_wrong, .int mo_value, .ref mo_readA, .ref mo_aheadA, .int mo_undoMany, .ref mo_asideA, .ref mo_weighingsA, .int mo_weighed, .ref mo_bookA, .int mo_entries, .ref mo_isKeptA, .ref mo_keptA, .ref mo_seedsA])), (mo_toldA, .inl (κ 0, 37, .inl mo_told)), (mo_stA, .inl (κ 0, 17, .inl mo_st)), (mo_textA, .inl (κ 0, 240, .inl mo_text)), (mo_readA, .inl (κ 0, 37, .inl mo_read)), (mo_aheadA, .inl (κ 0, 340, .inl mo_ahead)), (mo_asideA, .inl (κ 0, 17, .inl mo_aside)), (mo_weighingsA, .inl (κ 0, 12, .inl mo_weighings)), (mo_bookA, .inl (κ 0, 30, .inl mo_book)), (mo_isKeptA, .inl (κ 1, 2, .inl mo_isKept)), (mo_keptA, .inl (κ 0, 34, .inl mo_kept)), (mo_seedsA, .inl (κ 0, 2, .inl mo_seeds))]) r0 := by
  refine krI_of (cc := cX9_payer) (maxL := 4) (rt := .int) (by decide) rfl (Nat.le_of_ble_eq_true rfl) ?_
  intro p e s m args below meth c A Q ls hx hb hml hown hts hK hA hret hP hD hS hl
  have hown : s.vm.findClass RX9 = some m.cls := hown
  have hl : lv_has ls 4 [(0, .ref moo), (1, .int x1), (2, .int x2)] := hl
  have iw9 : ∀ w ∈ u_ws RX9 TX9 21, w ∈ wsX9_payer := (fun _ h => List.mem_cons_of_mem _ (List.mem_append_right _ h))
  have k0 : (Cond.fieldLink RX9 13 "KingRansomModel" "st" "[I").before args s = true := hts _ (List.mem_of_getElem? (i := 2) rfl)
  have k1 : (Cond.fieldLink RX9 7 "KingRansomModel" "told" "[I").before args s = true := hts _ (List.mem_of_getElem? (i := 3) rfl)
  have k2 : (Cond.constant RX9 54 (-1000000002)).before args s = true := hts _ (List.mem_of_getElem? (i := 4) rfl)
  have k3 : (Cond.constant RX9 126 (-1000000001)).before args s = true := hts _ (List.mem_of_getElem? (i := 1) rfl)
  unfold pX9_payer at hres
  refine lv_aload_n hx hb dX9_payer_0 rfl (lv_at hl 0 rfl) ?_
  refine lv_iload_n hx hb dX9_payer_1 rfl (lv_at hl 1 rfl) ?_
  obtain ⟨r1, hc2, hres⟩ := kb1_s hres
  refine krI_V (As := [.int x1]) (rest := []) (wr := []) ⟨hx, hb, hml, hown, hts⟩ hK (tX9_isPayer l D κ moo mo_toldA mo_stA mo_textA mo_readA mo_aheadA mo_asideA mo_weighingsA mo_bookA mo_isKeptA mo_keptA mo_seedsA mo_told mo_st mo_isThere mo_seed mo_text mo_typed mo_faultAt mo_place mo_wrong mo_value mo_read mo_ahead mo_undoMany mo_aside mo_weighings mo_weighed mo_book mo_entries mo_isKept mo_kept mo_seeds x1 r1 hc2) (cwV 1 hts gX9_payer_X9_isPayer rfl rfl rfl (by decide +kernel) ⟨(Nat.le_of_ble_eq_true rfl), (Nat.le_of_ble_eq_true rfl)⟩) rfl rfl rfl hP hD hS hA [0, 1, 2, 3, 4, 5, 6, 7, 8, 9, 10, 11] [] rfl rfl rfl rfl (by decide) rfl hl.1 rfl (Nat.le_of_ble_eq_true rfl) dX9_payer_2 ⟨Nat.zero_le _, Nat.zero_le _⟩ (fun H locs hP hD hS => ?_)
  have hP : va_P D vwCl ([(moo, .inr (9, [.ref mo_toldA, .ref mo_stA, .int mo_isThere, .int mo_seed, .ref mo_textA, .int mo_typed, .int mo_faultAt, .int mo_place, .int mo_wrong, .int mo_value, .ref mo_readA, .ref mo_aheadA, .int mo_undoMany, .ref mo_asideA, .ref mo_weighingsA, .int mo_weighed, .ref mo_bookA, .int mo_entries, .ref mo_isKeptA, .ref mo_keptA, .ref mo_seedsA])), (mo_toldA, .inl (κ 0, 37, .inl mo_told)), (mo_stA, .inl (κ 0, 17, .inl mo_st)), (mo_textA, .inl (κ 0, 240, .inl mo_text)), (mo_readA, .inl (κ 0, 37, .inl mo_read)), (mo_aheadA, .inl (κ 0, 340, .inl mo_ahead)), (mo_asideA, .inl (κ 0, 17, .inl mo_aside)), (mo_weighingsA, .inl (κ 0, 12, .inl mo_weighings)), (mo_bookA, .inl (κ 0, 30, .inl mo_book)), (mo_isKeptA, .inl (κ 1, 2, .inl mo_isKept)), (mo_keptA, .inl (κ 0, 34, .inl mo_kept)), (mo_seedsA, .inl (κ 0, 2, .inl mo_seeds))]) H := hP
  have hD : va_D A ([(moo, .inr (9, [.ref mo_toldA, .ref mo_stA, .int mo_isThere, .int mo_seed, .ref mo_textA, .int mo_typed, .int mo_faultAt, .int mo_place, .int mo_wrong, .int mo_value, .ref mo_readA, .ref mo_aheadA, .int mo_undoMany, .ref mo_asideA, .ref mo_weighingsA, .int mo_weighed, .ref mo_bookA, .int mo_entries, .ref mo_isKeptA, .ref mo_keptA, .ref mo_seedsA])), (mo_toldA, .inl (κ 0, 37, .inl mo_told)), (mo_stA, .inl (κ 0, 17, .inl mo_st)), (mo_textA, .inl (κ 0, 240, .inl mo_text)), (mo_readA, .inl (κ 0, 37, .inl mo_read)), (mo_aheadA, .inl (κ 0, 340, .inl mo_ahead)), (mo_asideA, .inl (κ 0, 17, .inl mo_aside)), (mo_weighingsA, .inl (κ 0, 12, .inl mo_weighings)), (mo_bookA, .inl (κ 0, 30, .inl mo_book)), (mo_isKeptA, .inl (κ 1, 2, .inl mo_isKept)), (mo_keptA, .inl (κ 0, 34, .inl mo_kept)), (mo_seedsA, .inl (κ 0, 2, .inl mo_seeds))]) := hD
  refine lv_if_ne (tgt := 11) hx hb dX9_payer_5 (by decide) (fun c3 => ?_) (fun c3 => ?_)
  · replace hres := og_f c3 hres
    refine lv_aload_n hx hb dX9_payer_11 rfl (lv_at hl 0 rfl) ?_
    refine va_get (D := D) (ci := 9) (v := .ref mo_stA) (C := RX9) (T := TX9) (N := 21) hx hb hts iw9 hown hK.1 hP 0 rfl rfl 1 (by decide) k0 (fun _ h9 => h9) rfl dX9_payer_12 ?_
    refine lv_bipush (v := 6) hx hb dX9_payer_15 (by decide) ?_
    refine lv_iload_n hx hb dX9_payer_17 rfl (lv_at hl 1 rfl) ?_
    refine lv_iadd hx hb dX9_payer_18 ?_
    obtain ⟨g4, hres⟩ := og_no hres
    refine kr_iald (f := mo_st) (j := (6 + x1).toNatClampNeg) hx hb hK hP 2 rfl g4 rfl dX9_payer_19 ?_
    obtain ⟨y5, ey5, hres⟩ := kl_s hres
    refine kr_tope ey5 ?_
    refine lv_istore_n (lv' := [(3, .int y5), (0, .ref moo), (1, .int x1), (2, .int x2)]) hx hb dX9_payer_20 rfl hl (by decide) rfl (fun ls hl => ?_)
    refine lv_iload_n hx hb dX9_payer_21 rfl (lv_at hl 3 rfl) ?_
    by_cases u0 : x2 = 0
    · refine lv_tableIn (off := 38) (tgt := 60) hx hb dX9_payer_22 (by rw [u0]; decide) (by rw [u0]; decide) (by rw [u0]; rfl) (by decide) ?_
      replace hres := og_t u0 hres
      refine lv_aload_n hx hb dX9_payer_60 rfl (lv_at hl 1 rfl) ?_
      refine va_get (D := D) (ci := 9) (v := .ref mo_stA) (C := RX9) (T := TX9) (N := 21) hx hb hts iw9 hown hK.1 hP 0 rfl rfl 1 (by decide) k0 (fun _ h9 => h9) rfl dX9_payer_61 ?_
      refine lv_iconst (v := 0) hx hb dX9_payer_64 (by decide) ?_
      refine lv_iload_n hx hb dX9_payer_65 rfl (lv_at hl 2 rfl) ?_
      refine lv_iadd hx hb dX9_payer_66 ?_
      obtain ⟨g6, hres⟩ := og_no hres
      refine kr_iald (f := mo_st) (j := (0 + x1).toNatClampNeg) hx hb hK hP 2 rfl g6 rfl dX9_payer_67 ?_
      have hres := Option.some.inj hres
      have h0 := hres
      subst h0
      exact hret _ _ _ _ (vp_nar_int _) hP hD hS dX9_payer_68
    replace hres := og_f u0 hres
    by_cases u1 : x2 = 1
    · refine lv_tableIn (off := 47) (tgt := 69) hx hb dX9_payer_22 (by rw [u1]; decide) (by rw [u1]; decide) (by rw [u1]; rfl) (by decide) ?_
      replace hres := og_t u1 hres
      refine lv_aload_n hx hb dX9_payer_69 rfl (lv_at hl 1 rfl) ?_
      refine va_get (D := D) (ci := 9) (v := .ref mo_toldA) (C := RX9) (T := TX9) (N := 21) hx hb hts iw9 hown hK.1 hP 0 rfl rfl 0 (by decide) k1 (fun _ h9 => h9) rfl dX9_payer_70 ?_
      refine lv_bipush (v := 13) hx hb dX9_payer_73 (by decide) ?_
      refine lv_iload_n hx hb dX9_payer_75 rfl (lv_at hl 2 rfl) ?_
      refine lv_iadd hx hb dX9_payer_76 ?_
      obtain ⟨g7, hres⟩ := og_no hres
      refine kr_iald (f := mo_told) (j := (13 + x1).toNatClampNeg) hx hb hK hP 1 rfl g7 rfl dX9_payer_77 ?_
      have hres := Option.some.inj hres
      have h0 := hres
      subst h0
      exact hret _ _ _ _ (vp_nar_int _) hP hD hS dX9_payer_78
    replace hres := og_f u1 hres
    by_cases u2 : x2 = 2
    · refine lv_tableIn (off := 57) (tgt := 79) hx hb dX9_payer_22 (by rw [u2]; decide) (by rw [u2]; decide) (by rw [u2]; rfl) (by decide) ?_
      replace hres := og_t u2 hres
      refine lv_iload_n hx hb dX9_payer_79 rfl (lv_at hl 0 rfl) ?_
      have hres := Option.some.inj hres
      have h0 := hres
      subst h0
      exact hret _ _ _ _ (vp_nar_int _) hP hD hS dX9_payer_80
    replace hres := og_f u2 hres
    by_cases u3 : x2 = 3
    · refine lv_tableIn (off := 59) (tgt := 81) hx hb dX9_payer_22 (by rw [u3]; decide) (by rw [u3]; decide) (by rw [u3]; rfl) (by decide) ?_
      replace hres := og_t u3 hres
      refine lv_aload_n hx hb dX9_payer_81 rfl (lv_at hl 1 rfl) ?_
      refine lv_iload_n hx hb dX9_payer_82 rfl (lv_at hl 2 rfl) ?_
      refine lv_iload_n hx hb dX9_payer_83 rfl (lv_at hl 0 rfl) ?_
      obtain ⟨r8, hc9, hres⟩ := kb1_s hres
      refine krI_V (As := [.int x1, .int y5]) (rest := []) (wr := []) ⟨hx, hb, hml, hown, hts⟩ hK (tX9_tellsBy l D κ moo mo_toldA mo_stA mo_textA mo_readA mo_aheadA mo_asideA mo_weighingsA mo_bookA mo_isKeptA mo_keptA mo_seedsA mo_told mo_st mo_isThere mo_seed mo_text mo_typed mo_faultAt mo_place mo_wrong mo_value mo_read mo_ahead mo_undoMany mo_aside mo_weighings mo_weighed mo_book mo_entries mo_isKept mo_kept mo_seeds x1 y5 r8 hc9) (cwV 2 hts gX9_payer_X9_tellsBy rfl rfl rfl (by decide +kernel) ⟨(Nat.le_of_ble_eq_true rfl), (Nat.le_of_ble_eq_true rfl)⟩) rfl rfl rfl hP hD hS hA [0, 1, 2, 3, 4, 5, 6, 7, 8, 9, 10, 11] [] rfl rfl rfl rfl (by decide) rfl hl.1 rfl (Nat.le_of_ble_eq_true rfl) dX9_payer_84 ⟨Nat.zero_le _, Nat.zero_le _⟩ (fun H locs hP hD hS => ?_)
      have hP : va_P D vwCl ([(moo, .inr (9, [.ref mo_toldA, .ref mo_stA, .int mo_isThere, .int mo_seed, .ref mo_textA, .int mo_typed, .int mo_faultAt, .int mo_place, .int mo_wrong, .int mo_value, .ref mo_readA, .ref mo_aheadA, .int mo_undoMany, .ref mo_asideA, .ref mo_weighingsA, .int mo_weighed, .ref mo_bookA, .int mo_entries, .ref mo_isKeptA, .ref mo_keptA, .ref mo_seedsA])), (mo_toldA, .inl (κ 0, 37, .inl mo_told)), (mo_stA, .inl (κ 0, 17, .inl mo_st)), (mo_textA, .inl (κ 0, 240, .inl mo_text)), (mo_readA, .inl (κ 0, 37, .inl mo_read)), (mo_aheadA, .inl (κ 0, 340, .inl mo_ahead)), (mo_asideA, .inl (κ 0, 17, .inl mo_aside)), (mo_weighingsA, .inl (κ 0, 12, .inl mo_weighings)), (mo_bookA, .inl (κ 0, 30, .inl mo_book)), (mo_isKeptA, .inl (κ 1, 2, .inl mo_isKept)), (mo_keptA, .inl (κ 0, 34, .inl mo_kept)), (mo_seedsA, .inl (κ 0, 2, .inl mo_seeds))]) H := hP
      have hD : va_D A ([(moo, .inr (9, [.ref mo_toldA, .ref mo_stA, .int mo_isThere, .int mo_seed, .ref mo_textA, .int mo_typed, .int mo_faultAt, .int mo_place, .int mo_wrong, .int mo_value, .ref mo_readA, .ref mo_aheadA, .int mo_undoMany, .ref mo_asideA, .ref mo_weighingsA, .int mo_weighed, .ref mo_bookA, .int mo_entries, .ref mo_isKeptA, .ref mo_keptA, .ref mo_seedsA])), (mo_toldA, .inl (κ 0, 37, .inl mo_told)), (mo_stA, .inl (κ 0, 17, .inl mo_st)), (mo_textA, .inl (κ 0, 240, .inl mo_text)), (mo_readA, .inl (κ 0, 37, .inl mo_read)), (mo_aheadA, .inl (κ 0, 340, .inl mo_ahead)), (mo_asideA, .inl (κ 0, 17, .inl mo_aside)), (mo_weighingsA, .inl (κ 0, 12, .inl mo_weighings)), (mo_bookA, .inl (κ 0, 30, .inl mo_book)), (mo_isKeptA, .inl (κ 1, 2, .inl mo_isKept)), (mo_keptA, .inl (κ 0, 34, .inl mo_kept)), (mo_seedsA, .inl (κ 0, 2, .inl mo_seeds))]) := hD
      have hres := Option.some.inj hres
      have h0 := hres
      subst h0
      exact hret _ _ _ _ (vp_nar_int _) hP hD hS dX9_payer_87
    replace hres := og_f u3 hres
    by_cases u4 : x2 = 4
    · refine lv_tableIn (off := 66) (tgt := 88) hx hb dX9_payer_22 (by rw [u4]; decide) (by rw [u4]; decide) (by rw [u4]; rfl) (by decide) ?_
      replace hres := og_t u4 hres
      refine lv_aload_n hx hb dX9_payer_88 rfl (lv_at hl 1 rfl) ?_
      refine lv_iload_n hx hb dX9_payer_89 rfl (lv_at hl 2 rfl) ?_
      refine lv_iload_n hx hb dX9_payer_90 rfl (lv_at hl 0 rfl) ?_
      obtain ⟨r10, hc11, hres⟩ := kb1_s hres
      refine krI_V (As := [.int x1, .int y5]) (rest := []) (wr := []) ⟨hx, hb, hml, hown, hts⟩ hK (tX9_hiddenBy l D κ moo mo_toldA mo_stA mo_textA mo_readA mo_aheadA mo_asideA mo_weighingsA mo_bookA mo_isKeptA mo_keptA mo_seedsA mo_told mo_st mo_isThere mo_seed mo_text mo_typed mo_faultAt mo_place mo_wrong mo_value mo_read mo_ahead mo_undoMany mo_aside mo_weighings mo_weighed mo_book mo_entries mo_isKept mo_kept mo_seeds x1 y5 r10 hc11) (cwV 2 hts gX9_payer_X9_hiddenBy rfl rfl rfl (by decide +kernel) ⟨(Nat.le_of_ble_eq_true rfl), (Nat.le_of_ble_eq_true rfl)⟩) rfl rfl rfl hP hD hS hA [0, 1, 2, 3, 4, 5, 6, 7, 8, 9, 10, 11] [] rfl rfl rfl rfl (by decide) rfl hl.1 rfl (Nat.le_of_ble_eq_true rfl) dX9_payer_91 ⟨Nat.zero_le _, Nat.zero_le _⟩ (fun H locs hP hD hS => ?_)
      have hP : va_P D vwCl ([(moo, .inr (9, [.ref mo_toldA, .ref mo_stA, .int mo_isThere, .int mo_seed, .ref mo_textA, .int mo_typed, .int mo_faultAt, .int mo_place, .int mo_wrong, .int mo_value, .ref mo_readA, .ref mo_aheadA, .int mo_undoMany, .ref mo_asideA, .ref mo_weighingsA, .int mo_weighed, .ref mo_bookA, .int mo_entries, .ref mo_isKeptA, .ref mo_keptA, .ref mo_seedsA])), (mo_toldA, .inl (κ 0, 37, .inl mo_told)), (mo_stA, .inl (κ 0, 17, .inl mo_st)), (mo_textA, .inl (κ 0, 240, .inl mo_text)), (mo_readA, .inl (κ 0, 37, .inl mo_read)), (mo_aheadA, .inl (κ 0, 340, .inl mo_ahead)), (mo_asideA, .inl (κ 0, 17, .inl mo_aside)), (mo_weighingsA, .inl (κ 0, 12, .inl mo_weighings)), (mo_bookA, .inl (κ 0, 30, .inl mo_book)), (mo_isKeptA, .inl (κ 1, 2, .inl mo_isKept)), (mo_keptA, .inl (κ 0, 34, .inl mo_kept)), (mo_seedsA, .inl (κ 0, 2, .inl mo_seeds))]) H := hP
      have hD : va_D A ([(moo, .inr (9, [.ref mo_toldA, .ref mo_stA, .int mo_isThere, .int mo_seed, .ref mo_textA, .int mo_typed, .int mo_faultAt, .int mo_place, .int mo_wrong, .int mo_value, .ref mo_readA, .ref mo_aheadA, .int mo_undoMany, .ref mo_asideA, .ref mo_weighingsA, .int mo_weighed, .ref mo_bookA, .int mo_entries, .ref mo_isKeptA, .ref mo_keptA, .ref mo_seedsA])), (mo_toldA, .inl (κ 0, 37, .inl mo_told)), (mo_stA, .inl (κ 0, 17, .inl mo_st)), (mo_textA, .inl (κ 0, 240, .inl mo_text)), (mo_readA, .inl (κ 0, 37, .inl mo_read)), (mo_aheadA, .inl (κ 0, 340, .inl mo_ahead)), (mo_asideA, .inl (κ 0, 17, .inl mo_aside)), (mo_weighingsA, .inl (κ 0, 12, .inl mo_weighings)), (mo_bookA, .inl (κ 0, 30, .inl mo_book)), (mo_isKeptA, .inl (κ 1, 2, .inl mo_isKept)), (mo_keptA, .inl (κ 0, 34, .inl mo_kept)), (mo_seedsA, .inl (κ 0, 2, .inl mo_seeds))]) := hD
      have hres := Option.some.inj hres
      have h0 := hres
      subst h0
      exact hret _ _ _ _ (vp_nar_int _) hP hD hS dX9_payer_94
    replace hres := og_f u4 hres
    by_cases u5 : x2 = 5
    · refine lv_tableIn (off := 73) (tgt := 95) hx hb dX9_payer_22 (by rw [u5]; decide) (by rw [u5]; decide) (by rw [u5]; rfl) (by decide) ?_
      replace hres := og_t u5 hres
      refine lv_aload_n hx hb dX9_payer_95 rfl (lv_at hl 1 rfl) ?_
      refine lv_iload_n hx hb dX9_payer_96 rfl (lv_at hl 2 rfl) ?_
      refine lv_iload_n hx hb dX9_payer_97 rfl (lv_at hl 0 rfl) ?_
      obtain ⟨r12, hc13, hres⟩ := kb1_s hres
      refine krI_V (As := [.int x1, .int y5]) (rest := []) (wr := []) ⟨hx, hb, hml, hown, hts⟩ hK (tX9_paysBy l D κ moo mo_toldA mo_stA mo_textA mo_readA mo_aheadA mo_asideA mo_weighingsA mo_bookA mo_isKeptA mo_keptA mo_seedsA mo_told mo_st mo_isThere mo_seed mo_text mo_typed mo_faultAt mo_place mo_wrong mo_value mo_read mo_ahead mo_undoMany mo_aside mo_weighings mo_weighed mo_book mo_entries mo_isKept mo_kept mo_seeds x1 y5 r12 hc13) (cwV 2 hts gX9_payer_X9_paysBy rfl rfl rfl (by decide +kernel) ⟨(Nat.le_of_ble_eq_true rfl), (Nat.le_of_ble_eq_true rfl)⟩) rfl rfl rfl hP hD hS hA [0, 1, 2, 3, 4, 5, 6, 7, 8, 9, 10, 11] [] rfl rfl rfl rfl (by decide) rfl hl.1 rfl (Nat.le_of_ble_eq_true rfl) dX9_payer_98 ⟨Nat.zero_le _, Nat.zero_le _⟩ (fun H locs hP hD hS => ?_)
      have hP : va_P D vwCl ([(moo, .inr (9, [.ref mo_toldA, .ref mo_stA, .int mo_isThere, .int mo_seed, .ref mo_textA, .int mo_typed, .int mo_faultAt, .int mo_place, .int mo_wrong, .int mo_value, .ref mo_readA, .ref mo_aheadA, .int mo_undoMany, .ref mo_asideA, .ref mo_weighingsA, .int mo_weighed, .ref mo_bookA, .int mo_entries, .ref mo_isKeptA, .ref mo_keptA, .ref mo_seedsA])), (mo_toldA, .inl (κ 0, 37, .inl mo_told)), (mo_stA, .inl (κ 0, 17, .inl mo_st)), (mo_textA, .inl (κ 0, 240, .inl mo_text)), (mo_readA, .inl (κ 0, 37, .inl mo_read)), (mo_aheadA, .inl (κ 0, 340, .inl mo_ahead)), (mo_asideA, .inl (κ 0, 17, .inl mo_aside)), (mo_weighingsA, .inl (κ 0, 12, .inl mo_weighings)), (mo_bookA, .inl (κ 0, 30, .inl mo_book)), (mo_isKeptA, .inl (κ 1, 2, .inl mo_isKept)), (mo_keptA, .inl (κ 0, 34, .inl mo_kept)), (mo_seedsA, .inl (κ 0, 2, .inl mo_seeds))]) H := hP
      have hD : va_D A ([(moo, .inr (9, [.ref mo_toldA, .ref mo_stA, .int mo_isThere, .int mo_seed, .ref mo_textA, .int mo_typed, .int mo_faultAt, .int mo_place, .int mo_wrong, .int mo_value, .ref mo_readA, .ref mo_aheadA, .int mo_undoMany, .ref mo_asideA, .ref mo_weighingsA, .int mo_weighed, .ref mo_bookA, .int mo_entries, .ref mo_isKeptA, .ref mo_keptA, .ref mo_seedsA])), (mo_toldA, .inl (κ 0, 37, .inl mo_told)), (mo_stA, .inl (κ 0, 17, .inl mo_st)), (mo_textA, .inl (κ 0, 240, .inl mo_text)), (mo_readA, .inl (κ 0, 37, .inl mo_read)), (mo_aheadA, .inl (κ 0, 340, .inl mo_ahead)), (mo_asideA, .inl (κ 0, 17, .inl mo_aside)), (mo_weighingsA, .inl (κ 0, 12, .inl mo_weighings)), (mo_bookA, .inl (κ 0, 30, .inl mo_book)), (mo_isKeptA, .inl (κ 1, 2, .inl mo_isKept)), (mo_keptA, .inl (κ 0, 34, .inl mo_kept)), (mo_seedsA, .inl (κ 0, 2, .inl mo_seeds))]) := hD
      have hres := Option.some.inj hres
      have h0 := hres
      subst h0
      exact hret _ _ _ _ (vp_nar_int _) hP hD hS dX9_payer_101
    replace hres := og_f u5 hres
    have v0 := lv_neT u0 (a := 0) (by decide)
    have v1 := lv_neT u1 (a := 1) (by decide)
    have v2 := lv_neT u2 (a := 2) (by decide)
    have v3 := lv_neT u3 (a := 3) (by decide)
    have v4 := lv_neT u4 (a := 4) (by decide)
    have v5 := lv_neT u5 (a := 5) (by decide)
    refine lv_tableOut (tgt := 102) hx hb dX9_payer_22 (by omega) (by decide) ?_
    refine lv_ldc (v := (-1000000002)) hx hb hown k2 dX9_payer_102 ?_
    have hres := Option.some.inj hres
    have h0 := hres
    subst h0
    exact hret _ _ _ _ (vp_nar_int _) hP hD hS dX9_payer_104
  · replace hres := og_t c3 hres
    refine lv_ldc (v := (-1000000001)) hx hb hown k3 dX9_payer_8 ?_
    have hres := Option.some.inj hres
    have h0 := hres
    subst h0
    exact hret _ _ _ _ (vp_nar_int _) hP hD hS dX9_payer_10

def pX9_bid (x1 : Int32) (mo_told : Nat → Int32) : Option (Int32) :=
    kb1 (pX9_in (x1.toInt64) 0 (((mo_told 3) - 1).toInt64)) fun r1 =>
    (if r1 = 0 then
    some ((-1))
    else
    if (19 + x1) < 0 ∨ 37 ≤ (19 + x1).toNatClampNeg then none else
    some ((mo_told ((19 + x1).toNatClampNeg))))
set_option maxHeartbeats 8000000 in
set_option maxRecDepth 100000 in
theorem tX9_bid (l : Launch) (D : va_G) (κ : Nat → ClassId) (moo : Nat) (mo_toldA : Nat) (mo_stA : Nat) (mo_textA : Nat) (mo_readA : Nat) (mo_aheadA : Nat) (mo_asideA : Nat) (mo_weighingsA : Nat) (mo_bookA : Nat) (mo_isKeptA : Nat) (mo_keptA : Nat) (mo_seedsA : Nat) (mo_told : Nat → Int32) (mo_st : Nat → Int32) (mo_isThere : Int32) (mo_seed : Int32) (mo_text : Nat → Int32) (mo_typed : Int32) (mo_faultAt : Int32) (mo_place : Int32) (mo_wrong : Int32) (mo_value : Int32) (mo_read : Nat → Int32) (mo_ahead : Nat → Int32) (mo_undoMany : Int32) (mo_aside : Nat → Int32) (mo_weighings : Nat → Int32) (mo_weighed : Int32) (mo_book : Nat → Int32) (mo_entries : Int32) (mo_isKept : Nat → Int32) (mo_kept : Nat → Int32) (mo_seeds : Nat → Int32) (x1 : Int32) (r0 : Int32) (hres : pX9_bid x1 mo_told = some (r0)) : krI l yX9_bid wsX9_bid { frames := 1, cells := 0, slots := 0, locals := 100 } D κ [.ref moo, .int x1] ([(moo, .inr (9, [.ref mo_toldA, .ref mo_stA, .int mo_isThere, .int mo_seed, .ref mo_textA, .int mo_typed, .int mo_faultAt, .int mo_place, .int mo_wrong, .int mo_value, .ref mo_readA, .ref mo_aheadA, .int mo_undoMany, .ref mo_asideA, .ref mo_weighingsA, .int mo_weighed, .ref mo_bookA, .int mo_entries, .ref mo_isKeptA, .ref mo_keptA, .ref mo_seedsA])), (mo_toldA, .inl (κ 0, 37, .inl mo_told)), (mo_stA, .inl (κ 0, 17, .inl mo_st)), (mo_textA, .inl (κ 0, 240, .inl mo_text)), (mo_readA, .inl (κ 0, 37, .inl mo_read)), (mo_aheadA, .inl (κ 0, 340, .inl mo_ahead)), (mo_asideA, .inl (κ 0, 17, .inl mo_aside)), (mo_weighingsA, .inl (κ 0, 12, .inl mo_weighings)), (mo_bookA, .inl (κ 0, 30, .inl mo_book)), (mo_isKeptA, .inl (κ 1, 2, .inl mo_isKept)), (mo_keptA, .inl (κ 0, 34, .inl mo_kept)), (mo_seedsA, .inl (κ 0, 2, .inl mo_seeds))]) ([(moo, .inr (9, [.ref mo_toldA, .ref mo_stA, .int mo_isThere, .int mo_seed, .ref mo_textA, .int mo_typed, .int mo_faultAt, .int mo_place, .int mo_wrong, .int mo_value, .ref mo_readA, .ref mo_aheadA, .int mo_undoMany, .ref mo_asideA, .ref mo_weighingsA, .int mo_weighed, .ref mo_bookA, .int mo_entries, .ref mo_isKeptA, .ref mo_keptA, .ref mo_seedsA])), (mo_toldA, .inl (κ 0, 37, .inl mo_told)), (mo_stA, .inl (κ 0, 17, .inl mo_st)), (mo_textA, .inl (κ 0, 240, .inl mo_text)), (mo_readA, .inl (κ 0, 37, .inl mo_read)), (mo_aheadA, .inl (κ 0, 340, .inl mo_ahead)), (mo_asideA, .inl (κ 0, 17, .inl mo_aside)), (mo_weighingsA, .inl (κ 0, 12, .inl mo_weighings)), (mo_bookA, .inl (κ 0, 30, .inl mo_book)), (mo_isKeptA, .inl (κ 1, 2, .inl mo_isKept)), (mo_keptA, .inl (κ 0, 34, .inl mo_kept)), (mo_seedsA, .inl (κ 0, 2, .inl mo_seeds))]) r0 := by
  refine krI_of (cc := cX9_bid) (maxL := 2) (rt := .int) (by decide) rfl (Nat.le_of_ble_eq_true rfl) ?_
  intro p e s m args below meth c A Q ls hx hb hml hown hts hK hA hret hP hD hS hl
  have hown : s.vm.findClass RX9 = some m.cls := hown
  have hl : lv_has ls 2 [(0, .ref moo), (1, .int x1)] := hl
  have iw9 : ∀ w ∈ u_ws RX9 TX9 21, w ∈ wsX9_bid := (fun _ h => List.mem_cons_of_mem _ (List.mem_append_right _ h))
  have k0 : (Cond.fieldLink RX9 7 "KingRansomModel" "told" "[I").before args s = true := hts _ (List.mem_of_getElem? (i := 1) rfl)
  unfold pX9_bid at hres
  refine lv_iload_n hx hb dX9_bid_0 rfl (lv_at hl 1 rfl) ?_
  refine lv_i2l (v := x1.toInt64) hx hb dX9_bid_1 rfl ?_
  refine lv_lconst (v := 0) hx hb dX9_bid_2 (by decide) ?_
  refine lv_aload_n hx hb dX9_bid_3 rfl (lv_at hl 0 rfl) ?_
  refine va_get (D := D) (ci := 9) (v := .ref mo_toldA) (C := RX9) (T := TX9) (N := 21) hx hb hts iw9 hown hK.1 hP 0 rfl rfl 0 (by decide) k0 (fun _ h9 => h9) rfl dX9_bid_4 ?_
  refine lv_iconst (v := 3) hx hb dX9_bid_7 (by decide) ?_
  refine kr_iald (f := mo_told) (j := 3) hx hb hK hP 1 rfl (by decide) (by decide) dX9_bid_8 ?_
  refine lv_iconst (v := 1) hx hb dX9_bid_9 (by decide) ?_
  refine lv_isub hx hb dX9_bid_10 ?_
  refine lv_i2l (v := ((mo_told 3) - 1).toInt64) hx hb dX9_bid_11 rfl ?_
  obtain ⟨r1, hc2, hres⟩ := kb1_s hres
  refine krI_S0 (As := [.long (x1.toInt64), .long 0, .long (((mo_told 3) - 1).toInt64)]) (rest := []) ⟨hx, hb, hml, hown, hts⟩ hK (tX9_in l D κ (x1.toInt64) 0 (((mo_told 3) - 1).toInt64) r1 hc2) (va_cwS 3 hts gX9_bid_X9_in rfl rfl rfl (by decide +kernel) ⟨(Nat.le_of_ble_eq_true rfl), (Nat.le_of_ble_eq_true rfl)⟩) hP hD hS hA rfl hl.1 rfl (Nat.le_of_ble_eq_true rfl) dX9_bid_12 ⟨Nat.zero_le _, Nat.zero_le _⟩ (fun H locs hP hD hS => ?_)
  refine lv_if_eq (tgt := 30) hx hb dX9_bid_15 (by decide) (fun c3 => ?_) (fun c3 => ?_)
  · replace hres := og_t c3 hres
    refine lv_iconst (v := (-1)) hx hb dX9_bid_30 (by decide) ?_
    have hres := Option.some.inj hres
    have h0 := hres
    subst h0
    exact hret _ _ _ _ (vp_nar_int _) hP hD hS dX9_bid_31
  · replace hres := og_f c3 hres
    refine lv_aload_n hx hb dX9_bid_18 rfl (lv_at hl 0 rfl) ?_
    refine va_get (D := D) (ci := 9) (v := .ref mo_toldA) (C := RX9) (T := TX9) (N := 21) hx hb hts iw9 hown hK.1 hP 0 rfl rfl 0 (by decide) k0 (fun _ h9 => h9) rfl dX9_bid_19 ?_
    refine lv_bipush (v := 19) hx hb dX9_bid_22 (by decide) ?_
    refine lv_iload_n hx hb dX9_bid_24 rfl (lv_at hl 1 rfl) ?_
    refine lv_iadd hx hb dX9_bid_25 ?_
    obtain ⟨g4, hres⟩ := og_no hres
    refine kr_iald (f := mo_told) (j := (19 + x1).toNatClampNeg) hx hb hK hP 1 rfl g4 rfl dX9_bid_26 ?_
    refine lv_goto (tgt := 31) hx hb dX9_bid_27 (by decide) ?_
    have hres := Option.some.inj hres
    have h0 := hres
    subst h0
    exact hret _ _ _ _ (vp_nar_int _) hP hD hS dX9_bid_31
