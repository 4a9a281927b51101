def pX9_oneMonth_L2 (mo_told : Nat → Int32) : Nat → Int32 → (Nat → Int32) → Option ((Nat → Int32))
  | 0, _, _ => none
  | n2 + 1, v1, w_mo_st =>
    (if (mo_told 2) ≤ v1 then
    some ((upd w_mo_st 13 ((w_mo_st 13) + 1)))
    else
    if (6 + v1) < 0 ∨ 17 ≤ (6 + v1).toNatClampNeg then none else
    kb1 (pX9_paysBy v1 (w_mo_st ((6 + v1).toNatClampNeg)) mo_told w_mo_st) fun r3 =>
    if (0 + v1) < 0 ∨ 17 ≤ (0 + v1).toNatClampNeg then none else
    kl ((w_mo_st ((0 + v1).toNatClampNeg)) - r3) fun y6 =>
    kl (((upd w_mo_st ((0 + v1).toNatClampNeg) y6) 12) + r3) fun y7 =>
    pX9_oneMonth_L2 mo_told n2 (v1 + 1) (upd (upd w_mo_st ((0 + v1).toNatClampNeg) y6) 12 y7))
def pX9_oneMonth (N : Nat) (mo_told : Nat → Int32) (mo_st : Nat → Int32) : Option ((Nat → Int32)) :=
    pX9_oneMonth_L2 mo_told N 0 mo_st
set_option maxHeartbeats 8000000 in
set_option maxRecDepth 100000 in
theorem tX9_oneMonth (l : Launch) (D : va_G) (κ : Nat → ClassId) (moo : Nat) (mo_toldA : Nat) (mo_stA : Nat) (mo_textA : Nat) (mo_readA : Nat) (mo_aheadA : Nat) (mo_asideA : Nat) (mo_weighingsA : Nat) (mo_bookA : Nat) (mo_isKeptA : Nat) (mo_keptA : Nat) (mo_seedsA : Nat) (N : Nat) (mo_told : Nat → Int32) (mo_st : Nat → Int32) (mo_isThere : Int32) (mo_seed : Int32) (mo_text : Nat → Int32) (mo_typed : Int32) (mo_faultAt : Int32) (mo_place : Int32) (mo_wrong : Int32) (mo_value : Int32) (mo_read : Nat → Int32) (mo_ahead : Nat → Int32) (mo_undoMany : Int32) (mo_aside : Nat → Int32) (mo_weighings : Nat → Int32) (mo_weighed : Int32) (mo_book : Nat → Int32) (mo_entries : Int32) (mo_isKept : Nat → Int32) (mo_kept : Nat → Int32) (mo_seeds : Nat → Int32) (z_mo_st : Nat → Int32) (hres : pX9_oneMonth N mo_told mo_st = some (z_mo_st)) : krV l yX9_oneMonth wsX9_oneMonth { frames := 2, cells := 0, slots := 0, locals := 200 } D κ [.ref moo] ([(moo, .inr (9, [.ref mo_toldA, .ref mo_stA, .int mo_isThere, .int mo_seed, .ref mo_textA, .int mo_typed, .int mo_faultAt, .int mo_place, .int mo_wrong, .int mo_value, .ref mo_readA, .ref mo_aheadA, .int mo_undoMany, .ref mo_asideA, .ref mo_weighingsA, .int mo_weighed, .ref mo_bookA, .int mo_entries, .ref mo_isKeptA, .ref mo_keptA, .ref mo_seedsA])), (mo_toldA, .inl (κ 0, 37, .inl mo_told)), (mo_stA, .inl (κ 0, 17, .inl mo_st)), (mo_textA, .inl (κ 0, 240, .inl mo_text)), (mo_readA, .inl (κ 0, 37, .inl mo_read)), (mo_aheadA, .inl (κ 0, 340, .inl mo_ahead)), (mo_asideA, .inl (κ 0, 17, .inl mo_aside)), (mo_weighingsA, .inl (κ 0, 12, .inl mo_weighings)), (mo_bookA, .inl (κ 0, 30, .inl mo_book)), (mo_isKeptA, .inl (κ 1, 2, .inl mo_isKept)), (mo_keptA, .inl (κ 0, 34, .inl mo_kept)), (mo_seedsA, .inl (κ 0, 2, .inl mo_seeds))]) ([(moo, .inr (9, [.ref mo_toldA, .ref mo_stA, .int mo_isThere, .int mo_seed, .ref mo_textA, .int mo_typed, .int mo_faultAt, .int mo_place, .int mo_wrong, .int mo_value, .ref mo_readA, .ref mo_aheadA, .int mo_undoMany, .ref mo_asideA, .ref mo_weighingsA, .int mo_weighed, .ref mo_bookA, .int mo_entries, .ref mo_isKeptA, .ref mo_keptA, .ref mo_seedsA])), (mo_toldA, .inl (κ 0, 37, .inl mo_told)), (mo_stA, .inl (κ 0, 17, .inl z_mo_st)), (mo_textA, .inl (κ 0, 240, .inl mo_text)), (mo_readA, .inl (κ 0, 37, .inl mo_read)), (mo_aheadA, .inl (κ 0, 340, .inl mo_ahead)), (mo_asideA, .inl (κ 0, 17, .inl mo_aside)), (mo_weighingsA, .inl (κ 0, 12, .inl mo_weighings)), (mo_bookA, .inl (κ 0, 30, .inl mo_book)), (mo_isKeptA, .inl (κ 1, 2, .inl mo_isKept)), (mo_keptA, .inl (κ 0, 34, .inl mo_kept)), (mo_seedsA, .inl (κ 0, 2, .inl mo_seeds))]) := by
  refine krV_of (cc := cX9_oneMonth) (maxL := 3) (by decide) rfl (Nat.le_of_ble_eq_true rfl) ?_
  intro p e s m args below meth c A Q ls hx hb hml hown hts hK hA hret hP hD hS hl
  have hown : s.vm.findClass RX9 = some m.cls := hown
  have hl : lv_has ls 3 [(0, .ref moo)] := hl
  have iw9 : ∀ w ∈ u_ws RX9 TX9 21, w ∈ wsX9_oneMonth := (fun _ h => List.mem_cons_of_mem _ (List.mem_append_right _ h))
  have k0 : (Cond.fieldLink RX9 7 "KingRansomModel" "told" "[I").before args s = true := hts _ (List.mem_of_getElem? (i := 1) rfl)
  have k1 : (Cond.fieldLink RX9 13 "KingRansomModel" "st" "[I").before args s = true := hts _ (List.mem_of_getElem? (i := 2) rfl)
  have L2 : ∀ (n2 : Nat) (v1 : Int32) (w_mo_st : Nat → Int32) (H : Heap) (locs : List Loc) (ls : Array Slot), va_P D vwCl ([(moo, .inr (9, [.ref mo_toldA, .ref mo_stA, .int mo_isThere, .int mo_seed, .ref mo_textA, .int mo_typed, .int mo_faultAt, .int mo_place, .int mo_wrong, .int mo_value, .ref mo_readA, .ref mo_aheadA, .int mo_undoMany, .ref mo_asideA, .ref mo_weighingsA, .int mo_weighed, .ref mo_bookA, .int mo_entries, .ref mo_isKeptA, .ref mo_keptA, .ref mo_seedsA])), (mo_toldA, .inl (κ 0, 37, .inl mo_told)), (mo_stA, .inl (κ 0, 17, .inl w_mo_st)), (mo_textA, .inl (κ 0, 240, .inl mo_text)), (mo_readA, .inl (κ 0, 37, .inl mo_read)), (mo_aheadA, .inl (κ 0, 340, .inl mo_ahead)), (mo_asideA, .inl (κ 0, 17, .inl mo_aside)), (mo_weighingsA, .inl (κ 0, 12, .inl mo_weighings)), (mo_bookA, .inl (κ 0, 30, .inl mo_book)), (mo_isKeptA, .inl (κ 1, 2, .inl mo_isKept)), (mo_keptA, .inl (κ 0, 34, .inl mo_kept)), (mo_seedsA, .inl (κ 0, 2, .inl mo_seeds))]) H → va_D A ([(moo, .inr (9, [.ref mo_toldA, .ref mo_stA, .int mo_isThere, .int mo_seed, .ref mo_textA, .int mo_typed, .int mo_faultAt, .int mo_place, .int mo_wrong, .int mo_value, .ref mo_readA, .ref mo_aheadA, .int mo_undoMany, .ref mo_asideA, .ref mo_weighingsA, .int mo_weighed, .ref mo_bookA, .int mo_entries, .ref mo_isKeptA, .ref mo_keptA, .ref mo_seedsA])), (mo_toldA, .inl (κ 0, 37, .inl mo_told)), (mo_stA, .inl (κ 0, 17, .inl w_mo_st)), (mo_textA, .inl (κ 0, 240, .inl mo_text)), (mo_readA, .inl (κ 0, 37, .inl mo_read)), (mo_aheadA, .inl (κ 0, 340, .inl mo_ahead)), (mo_asideA, .inl (κ 0, 17, .inl mo_aside)), (mo_weighingsA, .inl (κ 0, 12, .inl mo_weighings)), (mo_bookA, .inl (κ 0, 30, .inl mo_book)), (mo_isKeptA, .inl (κ 1, 2, .inl mo_isKept)), (mo_keptA, .inl (κ 0, 34, .inl mo_kept)), (mo_seedsA, .inl (κ 0, 2, .inl mo_seeds))]) → va_S A s.heap H locs → lv_has ls 3 [(0, .ref moo), (1, .int v1)] → pX9_oneMonth_L2 mo_told n2 v1 w_mo_st = some (z_mo_st) → W p l e { frames := 2, cells := 0, slots := 0, locals := 200 } s m args below meth c H locs 0 0 Q (F0 m 2 ls []) := by
    intro n2
    induction n2 with
    | zero =>
      intro v1 w_mo_st H locs ls hP hD hS hl hres
      exact absurd (show none = some _ from hres) (by simp)
    | succ n2 ih2 =>
      intro v1 w_mo_st H locs ls hP hD hS hl hres
      rw [pX9_oneMonth_L2] at hres
      refine lv_iload_n hx hb dX9_oneMonth_2 rfl (lv_at hl 1 rfl) ?_
      refine lv_aload_n hx hb dX9_oneMonth_3 rfl (lv_at hl 0 rfl) ?_
      refine va_get (D := D) (ci := 9) (v := .ref mo_toldA) (C := RX9) (T := TX9) (N := 21) hx hb hts iw9 hown hK.1 hP 0 rfl rfl 0 (by decide) k0 (fun _ h9 => h9) rfl dX9_oneMonth_4 ?_
      refine lv_iconst (v := 2) hx hb dX9_oneMonth_7 (by decide) ?_
      refine kr_iald (f := mo_told) (j := 2) hx hb hK hP 1 rfl (by decide) (by decide) dX9_oneMonth_8 ?_
      refine lv_icmp_ge (tgt := 56) hx hb dX9_oneMonth_9 (by decide) (fun c1 => ?_) (fun c1 => ?_)
      · replace hres := og_t c1 hres
        refine lv_aload_n hx hb dX9_oneMonth_56 rfl (lv_at hl 0 rfl) ?_
        refine va_get (D := D) (ci := 9) (v := .ref mo_stA) (C := RX9) (T := TX9) (N := 21) hx hb hts iw9 hown hK.1 hP 0 rfl rfl 1 (by decide) k1 (fun _ h9 => h9) rfl dX9_oneMonth_57 ?_
        refine lv_bipush (v := 13) hx hb dX9_oneMonth_60 (by decide) ?_
        refine lv_dup2_11 hx hb dX9_oneMonth_62 rfl rfl ?_
        refine kr_iald (f := w_mo_st) (j := 13) hx hb hK hP 2 rfl (by decide) (by decide) dX9_oneMonth_63 ?_
        refine lv_iconst (v := 1) hx hb dX9_oneMonth_64 (by decide) ?_
        refine lv_iadd hx hb dX9_oneMonth_65 ?_
        refine kr_iast (f := w_mo_st) (j := 13) (x := ((w_mo_st 13) + 1)) hx hb hK hP hD hS 2 rfl (by decide) (by decide) dX9_oneMonth_66 (fun H locs hP hD hS => ?_)
        have hP : va_P D vwCl ([(moo, .inr (9, [.ref mo_toldA, .ref mo_stA, .int mo_isThere, .int mo_seed, .ref mo_textA, .int mo_typed, .int mo_faultAt, .int mo_place, .int mo_wrong, .int mo_value, .ref mo_readA, .ref mo_aheadA, .int mo_undoMany, .ref mo_asideA, .ref mo_weighingsA, .int mo_weighed, .ref mo_bookA, .int mo_entries, .ref mo_isKeptA, .ref mo_keptA, .ref mo_seedsA])), (mo_toldA, .inl (κ 0, 37, .inl mo_told)), (mo_stA, .inl (κ 0, 17, .inl (upd w_mo_st 13 ((w_mo_st 13) + 1)))), (mo_textA, .inl (κ 0, 240, .inl mo_text)), (mo_readA, .inl (κ 0, 37, .inl mo_read)), (mo_aheadA, .inl (κ 0, 340, .inl mo_ahead)), (mo_asideA, .inl (κ 0, 17, .inl mo_aside)), (mo_weighingsA, .inl (κ 0, 12, .inl mo_weighings)), (mo_bookA, .inl (κ 0, 30, .inl mo_book)), (mo_isKeptA, .inl (κ 1, 2, .inl mo_isKept)), (mo_keptA, .inl (κ 0, 34, .inl mo_kept)), (mo_seedsA, .inl (κ 0, 2, .inl mo_seeds))]) H := hP
        have hD : va_D A ([(moo, .inr (9, [.ref mo_toldA, .ref mo_stA, .int mo_isThere, .int mo_seed, .ref mo_textA, .int mo_typed, .int mo_faultAt, .int mo_place, .int mo_wrong, .int mo_value, .ref mo_readA, .ref mo_aheadA, .int mo_undoMany, .ref mo_asideA, .ref mo_weighingsA, .int mo_weighed, .ref mo_bookA, .int mo_entries, .ref mo_isKeptA, .ref mo_keptA, .ref mo_seedsA])), (mo_toldA, .inl (κ 0, 37, .inl mo_told)), (mo_stA, .inl (κ 0, 17, .inl (upd w_mo_st 13 ((w_mo_st 13) + 1)))), (mo_textA, .inl (κ 0, 240, .inl mo_text)), (mo_readA, .inl (κ 0, 37, .inl mo_read)), (mo_aheadA, .inl (κ 0, 340, .inl mo_ahead)), (mo_asideA, .inl (κ 0, 17, .inl mo_aside)), (mo_weighingsA, .inl (κ 0, 12, .inl mo_weighings)), (mo_bookA, .inl (κ 0, 30, .inl mo_book)), (mo_isKeptA, .inl (κ 1, 2, .inl mo_isKept)), (mo_keptA, .inl (κ 0, 34, .inl mo_kept)), (mo_seedsA, .inl (κ 0, 2, .inl mo_seeds))]) := hD
        have hres := Option.some.inj hres
        have h0 := hres
        subst h0
        exact hret _ _ _ _ hP hD hS dX9_oneMonth_67
      · replace hres := og_f c1 hres
        refine lv_aload_n hx hb dX9_oneMonth_12 rfl (lv_at hl 0 rfl) ?_
        refine lv_iload_n hx hb dX9_oneMonth_13 rfl (lv_at hl 1 rfl) ?_
        refine lv_aload_n hx hb dX9_oneMonth_14 rfl (lv_at hl 0 rfl) ?_
        refine va_get (D := D) (ci := 9) (v := .ref mo_stA) (C := RX9) (T := TX9) (N := 21) hx hb hts iw9 hown hK.1 hP 0 rfl rfl 1 (by decide) k1 (fun _ h9 => h9) rfl dX9_oneMonth_15 ?_
        refine lv_bipush (v := 6) hx hb dX9_oneMonth_18 (by decide) ?_
        refine lv_iload_n hx hb dX9_oneMonth_20 rfl (lv_at hl 1 rfl) ?_
        refine lv_iadd hx hb dX9_oneMonth_21 ?_
        obtain ⟨g2, hres⟩ := og_no hres
        refine kr_iald (f := w_mo_st) (j := (6 + v1).toNatClampNeg) hx hb hK hP 2 rfl g2 rfl dX9_oneMonth_22 ?_
        obtain ⟨r3, hc4, hres⟩ := kb1_s hres
        refine krI_V (As := [.int v1, .int (w_mo_st ((6 + v1).toNatClampNeg))]) (rest := []) (wr := []) ⟨hx, hb, hml, hown, hts⟩ hK (tX9_paysBy l D κ moo mo_toldA mo_stA mo_textA mo_readA mo_aheadA mo_asideA mo_weighingsA mo_bookA mo_isKeptA mo_keptA mo_seedsA mo_told w_mo_st mo_isThere mo_seed mo_text mo_typed mo_faultAt mo_place mo_wrong mo_value mo_read mo_ahead mo_undoMany mo_aside mo_weighings mo_weighed mo_book mo_entries mo_isKept mo_kept mo_seeds v1 (w_mo_st ((6 + v1).toNatClampNeg)) r3 hc4) (cwV 2 hts gX9_oneMonth_X9_paysBy rfl rfl rfl (by decide +kernel) ⟨(Nat.le_of_ble_eq_true rfl), (Nat.le_of_ble_eq_true rfl)⟩) rfl rfl rfl hP hD hS hA [0, 1, 2, 3, 4, 5, 6, 7, 8, 9, 10, 11] [] rfl rfl rfl rfl (by decide) rfl hl.1 rfl (Nat.le_of_ble_eq_true rfl) dX9_oneMonth_23 ⟨Nat.zero_le _, Nat.zero_le _⟩ (fun H locs hP hD hS => ?_)
        have hP : va_P D vwCl ([(moo, .inr (9, [.ref mo_toldA, .ref mo_stA, .int mo_isThere, .int mo_seed, .ref mo_textA, .int mo_typed, .int mo_faultAt, .int mo_place, .int mo_wrong, .int mo_value, .ref mo_readA, .ref mo_aheadA, .int mo_undoMany, .ref mo_asideA, .ref mo_weighingsA, .int mo_weighed, .ref mo_bookA, .int mo_entries, .ref mo_isKeptA, .ref mo_keptA, .ref mo_seedsA])), (mo_toldA, .inl (κ 0, 37, .inl mo_told)), (mo_stA, .inl (κ 0, 17, .inl w_mo_st)), (mo_textA, .inl (κ 0, 240, .inl mo_text)), (mo_readA, .inl (κ 0, 37, .inl mo_read)), (mo_aheadA, .inl (κ 0, 340, .inl mo_ahead)), (mo_asideA, .inl (κ 0, 17, .inl mo_aside)), (mo_weighingsA, .inl (κ 0, 12, .inl mo_weighings)), (mo_bookA, .inl (κ 0, 30, .inl mo_book)), (mo_isKeptA, .inl (κ 1, 2, .inl mo_isKept)), (mo_keptA, .inl (κ 0, 34, .inl mo_kept)), (mo_seedsA, .inl (κ 0, 2, .inl mo_seeds))]) H := hP
        have hD : va_D A ([(moo, .inr (9, [.ref mo_toldA, .ref mo_stA, .int mo_isThere, .int mo_seed, .ref mo_textA, .int mo_typed, .int mo_faultAt, .int mo_place, .int mo_wrong, .int mo_value, .ref mo_readA, .ref mo_aheadA, .int mo_undoMany, .ref mo_asideA, .ref mo_weighingsA, .int mo_weighed, .ref mo_bookA, .int mo_entries, .ref mo_isKeptA, .ref mo_keptA, .ref mo_seedsA])), (mo_toldA, .inl (κ 0, 37, .inl mo_told)), (mo_stA, .inl (κ 0, 17, .inl w_mo_st)), (mo_textA, .inl (κ 0, 240, .inl mo_text)), (mo_readA, .inl (κ 0, 37, .inl mo_read)), (mo_aheadA, .inl (κ 0, 340, .inl mo_ahead)), (mo_asideA, .inl (κ 0, 17, .inl mo_aside)), (mo_weighingsA, .inl (κ 0, 12, .inl mo_weighings)), (mo_bookA, .inl (κ 0, 30, .inl mo_book)), (mo_isKeptA, .inl (κ 1, 2, .inl mo_isKept)), (mo_keptA, .inl (κ 0, 34, .inl mo_kept)), (mo_seedsA, .inl (κ 0, 2, .inl mo_seeds))]) := hD
        refine lv_istore_n (lv' := [(2, .int r3), (0, .ref moo), (1, .int v1)]) hx hb dX9_oneMonth_26 rfl hl (by decide) rfl (fun ls hl => ?_)
        refine lv_aload_n hx hb dX9_oneMonth_27 rfl (lv_at hl 1 rfl) ?_
        refine va_get (D := D) (ci := 9) (v := .ref mo_stA) (C := RX9) (T := TX9) (N := 21) hx hb hts iw9 hown hK.1 hP 0 rfl rfl 1 (by decide) k1 (fun _ h9 => h9) rfl dX9_oneMonth_28 ?_
        refine lv_iconst (v := 0) hx hb dX9_oneMonth_31 (by decide) ?_
        refine lv_iload_n hx hb dX9_oneMonth_32 rfl (lv_at hl 2 rfl) ?_
        refine lv_iadd hx hb dX9_oneMonth_33 ?_
        refine lv_dup2_11 hx hb dX9_oneMonth_34 rfl rfl ?_
        obtain ⟨g5, hres⟩ := og_no hres
        refine kr_iald (f := w_mo_st) (j := (0 + v1).toNatClampNeg) hx hb hK hP 2 rfl g5 rfl dX9_oneMonth_35 ?_
        refine lv_iload_n hx hb dX9_oneMonth_36 rfl (lv_at hl 0 rfl) ?_
        refine lv_isub hx hb dX9_oneMonth_37 ?_
        obtain ⟨y6, ey6, hres⟩ := kl_s hres
        refine kr_tope ey6 ?_
        refine kr_iast (f := w_mo_st) (j := (0 + v1).toNatClampNeg) (x := y6) hx hb hK hP hD hS 2 rfl g5 rfl dX9_oneMonth_38 (fun H locs hP hD hS => ?_)
        have hP : va_P D vwCl ([(moo, .inr (9, [.ref mo_toldA, .ref mo_stA, .int mo_isThere, .int mo_seed, .ref mo_textA, .int mo_typed, .int mo_faultAt, .int mo_place, .int mo_wrong, .int mo_value, .ref mo_readA, .ref mo_aheadA, .int mo_undoMany, .ref mo_asideA, .ref mo_weighingsA, .int mo_weighed, .ref mo_bookA, .int mo_entries, .ref mo_isKeptA, .ref mo_keptA, .ref mo_seedsA])), (mo_toldA, .inl (κ 0, 37, .inl mo_told)), (mo_stA, .inl (κ 0, 17, .inl (upd w_mo_st ((0 + v1).toNatClampNeg) y6))), (mo_textA, .inl (κ 0, 240, .inl mo_text)), (mo_readA, .inl (κ 0, 37, .inl mo_read)), (mo_aheadA, .inl (κ 0, 340, .inl mo_ahead)), (mo_asideA, .inl (κ 0, 17, .inl mo_aside)), (mo_weighingsA, .inl (κ 0, 12, .inl mo_weighings)), (mo_bookA, .inl (κ 0, 30, .inl mo_book)), (mo_isKeptA, .inl (κ 1, 2, .inl mo_isKept)), (mo_keptA, .inl (κ 0, 34, .inl mo_kept)), (mo_seedsA, .inl (κ 0, 2, .inl mo_seeds))]) H := hP
        have hD : va_D A ([(moo, .inr (9, [.ref mo_toldA, .ref mo_stA, .int mo_isThere, .int mo_seed, .ref mo_textA, .int mo_typed, .int mo_faultAt, .int mo_place, .int mo_wrong, .int mo_value, .ref mo_readA, .ref mo_aheadA, .int mo_undoMany, .ref mo_asideA, .ref mo_weighingsA, .int mo_weighed, .ref mo_bookA, .int mo_entries, .ref mo_isKeptA, .ref mo_keptA, .ref mo_seedsA])), (mo_toldA, .inl (κ 0, 37, .inl mo_told)), (mo_stA, .inl (κ 0, 17, .inl (upd w_mo_st ((0 + v1).toNatClampNeg) y6))), (mo_textA, .inl (κ 0, 240, .inl mo_text)), (mo_readA, .inl (κ 0, 37, .inl mo_read)), (mo_aheadA, .inl (κ 0, 340, .inl mo_ahead)), (mo_asideA, .inl (κ 0, 17, .inl mo_aside)), (mo_weighingsA, .inl (κ 0, 12, .inl mo_weighings)), (mo_bookA, .inl (κ 0, 30, .inl mo_book)), (mo_isKeptA, .inl (κ 1, 2, .inl mo_isKept)), (mo_keptA, .inl (κ 0, 34, .inl mo_kept)), (mo_seedsA, .inl (κ 0, 2, .inl mo_seeds))]) := hD
        refine lv_aload_n hx hb dX9_oneMonth_39 rfl (lv_at hl 1 rfl) ?_
        refine va_get (D := D) (ci := 9) (v := .ref mo_stA) (C := RX9) (T := TX9) (N := 21) hx hb hts iw9 hown hK.1 hP 0 rfl rfl 1 (by decide) k1 (fun _ h9 => h9) rfl dX9_oneMonth_40 ?_
        refine lv_bipush (v := 12) hx hb dX9_oneMonth_43 (by decide) ?_
        refine lv_dup2_11 hx hb dX9_oneMonth_45 rfl rfl ?_
        refine kr_iald (f := (upd w_mo_st ((0 + v1).toNatClampNeg) y6)) (j := 12) hx hb hK hP 2 rfl (by decide) (by decide) dX9_oneMonth_46 ?_
        refine lv_iload_n hx hb dX9_oneMonth_47 rfl (lv_at hl 0 rfl) ?_
        refine lv_iadd hx hb dX9_oneMonth_48 ?_
        obtain ⟨y7, ey7, hres⟩ := kl_s hres
        refine kr_tope ey7 ?_
        refine kr_iast (f := (upd w_mo_st ((0 + v1).toNatClampNeg) y6)) (j := 12) (x := y7) hx hb hK hP hD hS 2 rfl (by decide) (by decide) dX9_oneMonth_49 (fun H locs hP hD hS => ?_)
        have hP : va_P D vwCl ([(moo, .inr (9, [.ref mo_toldA, .ref mo_stA, .int mo_isThere, .int mo_seed, .ref mo_textA, .int mo_typed, .int mo_faultAt, .int mo_place, .int mo_wrong, .int mo_value, .ref mo_readA, .ref mo_aheadA, .int mo_undoMany, .ref mo_asideA, .ref mo_weighingsA, .int mo_weighed, .ref mo_bookA, .int mo_entries, .ref mo_isKeptA, .ref mo_keptA, .ref mo_seedsA])), (mo_toldA, .inl (κ 0, 37, .inl mo_told)), (mo_stA, .inl (κ 0, 17, .inl (upd (upd w_mo_st ((0 + v1).toNatClampNeg) y6) 12 y7))), (mo_textA, .inl (κ 0, 240, .inl mo_text)), (mo_readA, .inl (κ 0, 37, .inl mo_read)), (mo_aheadA, .inl (κ 0, 340, .inl mo_ahead)), (mo_asideA, .inl (κ 0, 17, .inl mo_aside)), (mo_weighingsA, .inl (κ 0, 12, .inl mo_weighings)), (mo_bookA, .inl (κ 0, 30, .inl mo_book)), (mo_isKeptA, .inl (κ 1, 2, .inl mo_isKept)), (mo_keptA, .inl (κ 0, 34, .inl mo_kept)), (mo_seedsA, .inl (κ 0, 2, .inl mo_seeds))]) H := hP
        have hD : va_D A ([(moo, .inr (9, [.ref mo_toldA, .ref mo_stA, .int mo_isThere, .int mo_seed, .ref mo_textA, .int mo_typed, .int mo_faultAt, .int mo_place, .int mo_wrong, .int mo_value, .ref mo_readA, .ref mo_aheadA, .int mo_undoMany, .ref mo_asideA, .ref mo_weighingsA, .int mo_weighed, .ref mo_bookA, .int mo_entries, .ref mo_isKeptA, .ref mo_keptA, .ref mo_seedsA])), (mo_toldA, .inl (κ 0, 37, .inl mo_told)), (mo_stA, .inl (κ 0, 17, .inl (upd (upd w_mo_st ((0 + v1).toNatClampNeg) y6) 12 y7))), (mo_textA, .inl (κ 0, 240, .inl mo_text)), (mo_readA, .inl (κ 0, 37, .inl mo_read)), (mo_aheadA, .inl (κ 0, 340, .inl mo_ahead)), (mo_asideA, .inl (κ 0, 17, .inl mo_aside)), (mo_weighingsA, .inl (κ 0, 12, .inl mo_weighings)), (mo_bookA, .inl (κ 0, 30, .inl mo_book)), (mo_isKeptA, .inl (κ 1, 2, .inl mo_isKept)), (mo_keptA, .inl (κ 0, 34, .inl mo_kept)), (mo_seedsA, .inl (κ 0, 2, .inl mo_seeds))]) := hD
        refine lv_iinc (v := (v1 + 1)) (lv' := [(1, .int (v1 + 1)), (2, .int r3), (0, .ref moo)]) hx hb dX9_oneMonth_50 hl (k := 2) rfl rfl (by decide) rfl (fun ls hl => ?_)
        refine lv_goto (tgt := 2) hx hb dX9_oneMonth_53 (by decide) ?_
        exact ih2 (v1 + 1) (upd (upd w_mo_st ((0 + v1).toNatClampNeg) y6) 12 y7) _ _ _ hP hD hS (lv_sub hl [2, 0] rfl) hres
  unfold pX9_oneMonth at hres
  refine lv_iconst (v := 0) hx hb dX9_oneMonth_0 (by decide) ?_
  refine lv_istore_n (lv' := [(1, .int 0), (0, .ref moo)]) hx hb dX9_oneMonth_1 rfl hl (by decide) rfl (fun ls hl => ?_)
  exact L2 N 0 mo_st _ _ _ hP hD hS (lv_sub hl [1, 0] rfl) hres

def pX9_isHeld (mo_st : Nat → Int32) (mo_isThere : Int32) : Option (Int32) :=
    (if mo_isThere = 0 then
    some (0)
    else
    (if (mo_st 16) = 0 then
    some (1)
    else
    some (0)))
set_option maxHeartbeats 8000000 in
set_option maxRecDepth 100000 in
theorem tX9_isHeld (l : Launch) (D : va_G) (κ : Nat → ClassId) (moo : Nat) (mo_toldA : Nat) (mo_stA : Nat) (mo_textA : Nat) (mo_readA : Nat) (mo_aheadA : Nat) (mo_asideA : Nat) (mo_weighingsA : Nat) (mo_bookA : Nat) (mo_isKeptA : Nat) (mo_keptA : Nat) (mo_seedsA : Nat) (mo_told : Nat → Int32) (mo_st : Nat → Int32) (mo_isThere : Int32) (mo_seed : Int32) (mo_text : Nat → Int32) (mo_typed : Int32) (mo_faultAt : Int32) (mo_place : Int32) (mo_wrong : Int32) (mo_value : Int32) (mo_read : Nat → Int32) (mo_ahead : Nat → Int32) (mo_undoMany : Int32) (mo_aside : Nat → Int32) (mo_weighings : Nat → Int32) (mo_weighed : Int32) (mo_book : Nat → Int32) (mo_entries : Int32) (mo_isKept : Nat → Int32) (mo_kept : Nat → Int32) (mo_seeds : Nat → Int32) (r0 : Int32) (hres : pX9_isHeld mo_st mo_isThere = some (r0)) : krI l yX9_isHeld wsX9_isHeld { frames := 0, cells := 0, slots := 0, locals := 0 } D κ [.ref moo] ([(moo, .inr (9, [.ref mo_toldA, .ref mo_stA, .int mo_isThere, .int mo_seed, .ref mo_textA, .int mo_typed, .int mo_faultAt, .int mo_place, .int mo_wrong, .int mo_value, .ref mo_readA, .ref mo_aheadA, .int mo_undoMany, .ref mo_asideA, .ref mo_weighingsA, .int mo_weighed, .ref mo_bookA, .int mo_entries, .ref mo_isKeptA, .ref mo_keptA, .ref mo_seedsA])), (mo_toldA, .inl (κ 0, 37, .inl mo_told)), (mo_stA, .inl (κ 0, 17, .inl mo_st)), (mo_textA, .inl (κ 0, 240, .inl mo_text)), (mo_readA, .inl (κ 0, 37, .inl mo_read)), (mo_aheadA, .inl (κ 0, 340, .inl mo_ahead)), (mo_asideA, .inl (κ 0, 17, .inl mo_aside)), (mo_weighingsA, .inl (κ 0, 12, .inl mo_weighings)), (mo_bookA, .inl (κ 0, 30, .inl mo_book)), (mo_isKeptA, .inl (κ 1, 2, .inl mo_isKept)), (mo_keptA, .inl (κ 0, 34, .inl mo_kept)), (mo_seedsA, .inl (κ 0, 2, .inl mo_seeds))]) ([(moo, .inr (9, [.ref mo_toldA, .ref mo_stA, .int mo_isThere, .int mo_seed, .ref mo_textA, .int mo_typed, .int mo_faultAt, .int mo_place, .int mo_wrong, .int mo_value, .ref mo_readA, .ref mo_aheadA, .int mo_undoMany, .ref mo_asideA, .ref mo_weighingsA, .int mo_weighed, .ref mo_bookA, .int mo_entries, .ref mo_isKeptA, .ref mo_keptA, .ref mo_seedsA])), (mo_toldA, .inl (κ 0, 37, .inl mo_told)), (mo_stA, .inl (κ 0, 17, .inl mo_st)), (mo_textA, .inl (κ 0, 240, .inl mo_text)), (mo_readA, .inl (κ 0, 37, .inl mo_read)), (mo_aheadA, .inl (κ 0, 340, .inl mo_ahead)), (mo_asideA, .inl (κ 0, 17, .inl mo_aside)), (mo_weighingsA, .inl (κ 0, 12, .inl mo_weighings)), (mo_bookA, .inl (κ 0, 30, .inl mo_book)), (mo_isKeptA, .inl (κ 1, 2, .inl mo_isKept)), (mo_keptA, .inl (κ 0, 34, .inl mo_kept)), (mo_seedsA, .inl (κ 0, 2, .inl mo_seeds))]) r0 := by
  refine krI_of (cc := cX9_isHeld) (maxL := 1) (rt := .boolean) (by decide) rfl (Nat.le_of_ble_eq_true rfl) ?_
  intro p e s m args below meth c A Q ls hx hb hml hown hts hK hA hret hP hD hS hl
  have hown : s.vm.findClass RX9 = some m.cls := hown
  have hl : lv_has ls 1 [(0, .ref moo)] := hl
  have iw9 : ∀ w ∈ u_ws RX9 TX9 21, w ∈ wsX9_isHeld := (fun _ h => List.mem_cons_of_mem _ (List.mem_append_right _ h))
  have k0 : (Cond.fieldLink RX9 106 "KingRansomModel" "isThere" "Z").before args s = true := hts _ (List.mem_of_getElem? (i := 1) rfl)
  have k1 : (Cond.fieldLink RX9 13 "KingRansomModel" "st" "[I").before args s = true := hts _ (List.mem_of_getElem? (i := 2) rfl)
  unfold pX9_isHeld at hres
  refine lv_aload_n hx hb dX9_isHeld_0 rfl (lv_at hl 0 rfl) ?_
  refine va_get (D := D) (ci := 9) (v := .int mo_isThere) (C := RX9) (T := TX9) (N := 21) hx hb hts iw9 hown hK.1 hP 0 rfl rfl 2 (by decide) k0 (fun _ h9 => h9) rfl dX9_isHeld_1 ?_
  refine lv_if_eq (tgt := 21) hx hb dX9_isHeld_4 (by decide) (fun c1 => ?_) (fun c1 => ?_)
  · replace hres := og_t c1 hres
    refine lv_iconst (v := 0) hx hb dX9_isHeld_21 (by decide) ?_
    have hres := Option.some.inj hres
    have h0 := hres
    subst h0
    exact hret _ _ _ _ (by decide) hP hD hS dX9_isHeld_22
  · replace hres := og_f c1 hres
    refine lv_aload_n hx hb dX9_isHeld_7 rfl (lv_at hl 0 rfl) ?_
    refine va_get (D := D) (ci := 9) (v := .ref mo_stA) (C := RX9) (T := TX9) (N := 21) hx hb hts iw9 hown hK.1 hP 0 rfl rfl 1 (by decide) k1 (fun _ h9 => h9) rfl dX9_isHeld_8 ?_
    refine lv_bipush (v := 16) hx hb dX9_isHeld_11 (by decide) ?_
    refine kr_iald (f := mo_st) (j := 16) hx hb hK hP 2 rfl (by decide) (by decide) dX9_isHeld_13 ?_
    refine lv_if_ne (tgt := 21) hx hb dX9_isHeld_14 (by decide) (fun c2 => ?_) (fun c2 => ?_)
    · replace hres := og_f c2 hres
      refine lv_iconst (v := 0) hx hb dX9_isHeld_21 (by decide) ?_
      have hres := Option.some.inj hres
      have h0 := hres
      subst h0
      exact hret _ _ _ _ (by decide) hP hD hS dX9_isHeld_22
    · replace hres := og_t c2 hres
      refine lv_iconst (v := 1) hx hb dX9_isHeld_17 (by decide) ?_
      refine lv_goto (tgt := 22) hx hb dX9_isHeld_18 (by decide) ?_
      have hres := Option.some.inj hres
      have h0 := hres
      subst h0
      exact hret _ _ _ _ (by decide) hP hD hS dX9_isHeld_22

def pX9_cost (N : Nat) (mo_st : Nat → Int32) : Option (Int32) :=
    kb1 (pX9_ones N (mo_st 15)) fun r1 =>
    (if 0 ≤ ((mo_st 14) - (10 * r1)) then
    some (((mo_st 14) - (10 * r1)))
    else
    some (0))
set_option maxHeartbeats 8000000 in
set_option maxRecDepth 100000 in
theorem tX9_cost (l : Launch) (D : va_G) (κ : Nat → ClassId) (moo : Nat) (mo_toldA : Nat) (mo_stA : Nat) (mo_textA : Nat) (mo_readA : Nat) (mo_aheadA : Nat) (mo_asideA : Nat) (mo_weighingsA : Nat) (mo_bookA : Nat) (mo_isKeptA : Nat) (mo_keptA : Nat) (mo_seedsA : Nat) (N : Nat) (mo_told : Nat → Int32) (mo_st : Nat → Int32) (mo_isThere : Int32) (mo_seed : Int32) (mo_text : Nat → Int32) (mo_typed : Int32) (mo_faultAt : Int32) (mo_place : Int32) (mo_wrong : Int32) (mo_value : Int32) (mo_read : Nat → Int32) (mo_ahead : Nat → Int32) (mo_undoMany : Int32) (mo_aside : Nat → Int32) (mo_weighings : Nat → Int32) (mo_weighed : Int32) (mo_book : Nat → Int32) (mo_entries : Int32) (mo_isKept : Nat → Int32) (mo_kept : Nat → Int32) (mo_seeds : Nat → Int32) (r0 : Int32) (hres : pX9_cost N mo_st = some (r0)) : krI l yX9_cost wsX9_cost { frames := 1, cells := 0, slots := 0, locals := 100 } D κ [.ref moo] ([(moo, .inr (9, [.ref mo_toldA, .ref mo_stA, .int mo_isThere, .int mo_seed, .ref mo_textA, .int mo_typed, .int mo_faultAt, .int mo_place, .int mo_wrong, .int mo_value, .ref mo_readA, .ref mo_aheadA, .int mo_undoMany, .ref mo_asideA, .ref mo_weighingsA, .int mo_weighed, .ref mo_bookA, .int mo_entries, .ref mo_isKeptA, .ref mo_keptA, .ref mo_seedsA])), (mo_toldA, .inl (κ 0, 37, .inl mo_told)), (mo_stA, .inl (κ 0, 17, .inl mo_st)), (mo_textA, .inl (κ 0, 240, .inl mo_text)), (mo_readA, .inl (κ 0, 37, .inl mo_read)), (mo_aheadA, .inl (κ 0, 340, .inl mo_ahead)), (mo_asideA, .inl (κ 0, 17, .inl mo_aside)), (mo_weighingsA, .inl (κ 0, 12, .inl mo_weighings)), (mo_bookA, .inl (κ 0, 30, .inl mo_book)), (mo_isKeptA, .inl (κ 1, 2, .inl mo_isKept)), (mo_keptA, .inl (κ 0, 34, .inl mo_kept)), (mo_seedsA, .inl (κ 0, 2, .inl mo_seeds))]) ([(moo, .inr (9, [.ref mo_toldA, .ref mo_stA, .int mo_isThere, .int mo_seed, .ref mo_textA, .int mo_typed, .int mo_faultAt, .int mo_place, .int mo_wrong, .int mo_value, .ref mo_readA, .ref mo_aheadA, .int mo_undoMany, .ref mo_asideA, .ref mo_weighingsA, .int mo_weighed, .ref mo_bookA, .int mo_entries, .ref mo_isKeptA, .ref mo_keptA, .ref mo_seedsA])), (mo_toldA, .inl (κ 0, 37, .inl mo_told)), (mo_stA, .inl (κ 0, 17, .inl mo_st)), (mo_textA, .inl (κ 0, 240, .inl mo_text)), (mo_readA, .inl (κ 0, 37, .inl mo_read)), (mo_aheadA, .inl (κ 0, 340, .inl mo_ahead)), (mo_asideA, .inl (κ 0, 17, .inl mo_aside)), (mo_weighingsA, .inl (κ 0, 12, .inl mo_weighings)), (mo_bookA, .inl (κ 0, 30, .inl mo_book)), (mo_isKeptA, .inl (κ 1, 2, .inl mo_isKept)), (mo_keptA, .inl (κ 0, 34, .inl mo_kept)), (mo_seedsA, .inl (κ 0, 2, .inl mo_seeds))]) r0 := by
  refine krI_of (cc := cX9_cost) (maxL := 2) (rt := .int) (by decide) rfl (Nat.le_of_ble_eq_true rfl) ?_
  intro p e s m args below meth c A Q ls hx hb hml hown hts hK hA hret hP hD hS hl
  have hown : s.vm.findClass RX9 = some m.cls := hown
  have hl : lv_has ls 2 [(0, .ref moo)] := hl
  have iw9 : ∀ w ∈ u_ws RX9 TX9 21, w ∈ wsX9_cost := (fun _ h => List.mem_cons_of_mem _ (List.mem_append_right _ h))
  have k0 : (Cond.fieldLink RX9 13 "KingRansomModel" "st" "[I").before args s = true := hts _ (List.mem_of_getElem? (i := 1) rfl)
  unfold pX9_cost at hres
  refine lv_aload_n hx hb dX9_cost_0 rfl (lv_at hl 0 rfl) ?_
  refine va_get (D := D) (ci := 9) (v := .ref mo_stA) (C := RX9) (T := TX9) (N := 21) hx hb hts iw9 hown hK.1 hP 0 rfl rfl 1 (by decide) k0 (fun _ h9 => h9) rfl dX9_cost_1 ?_
  refine lv_bipush (v := 14) hx hb dX9_cost_4 (by decide) ?_
  refine kr_iald (f := mo_st) (j := 14) hx hb hK hP 2 rfl (by decide) (by decide) dX9_cost_6 ?_
  refine lv_bipush (v := 10) hx hb dX9_cost_7 (by decide) ?_
  refine lv_aload_n hx hb dX9_cost_9 rfl (lv_at hl 0 rfl) ?_
  refine va_get (D := D) (ci := 9) (v := .ref mo_stA) (C := RX9) (T := TX9) (N := 21) hx hb hts iw9 hown hK.1 hP 0 rfl rfl 1 (by decide) k0 (fun _ h9 => h9) rfl dX9_cost_10 ?_
  refine lv_bipush (v := 15) hx hb dX9_cost_13 (by decide) ?_
  refine kr_iald (f := mo_st) (j := 15) hx hb hK hP 2 rfl (by decide) (by decide) dX9_cost_15 ?_
  obtain ⟨r1, hc2, hres⟩ := kb1_s hres
  refine krI_S0 (As := [.int (mo_st 15)]) (rest := [.int 10, .int (mo_st 14)]) ⟨hx, hb, hml, hown, hts⟩ hK (tX9_ones l D κ N (mo_st 15) r1 hc2) (va_cwS 1 hts gX9_cost_X9_ones rfl rfl rfl (by decide +kernel) ⟨(Nat.le_of_ble_eq_true rfl), (Nat.le_of_ble_eq_true rfl)⟩) hP hD hS hA rfl hl.1 rfl (Nat.le_of_ble_eq_true rfl) dX9_cost_16 ⟨Nat.zero_le _, Nat.zero_le _⟩ (fun H locs hP hD hS => ?_)
  refine lv_imul hx hb dX9_cost_19 ?_
  refine lv_isub hx hb dX9_cost_20 ?_
  refine lv_istore_n (lv' := [(1, .int ((mo_st 14) - (10 * r1))), (0, .ref moo)]) hx hb dX9_cost_21 rfl hl (by decide) rfl (fun ls hl => ?_)
  refine lv_iload_n hx hb dX9_cost_22 rfl (lv_at hl 0 rfl) ?_
  refine lv_if_ge (tgt := 30) hx hb dX9_cost_23 (by decide) (fun c3 => ?_) (fun c3 => ?_)
  · replace hres := og_t c3 hres
    refine lv_iload_n hx hb dX9_cost_30 rfl (lv_at hl 0 rfl) ?_
    have hres := Option.some.inj hres
    have h0 := hres
    subst h0
    exact hret _ _ _ _ (vp_nar_int _) hP hD hS dX9_cost_31
  · replace hres := og_f c3 hres
    refine lv_iconst (v := 0) hx hb dX9_cost_26 (by decide) ?_
    refine lv_goto (tgt := 31) hx hb dX9_cost_27 (by decide) ?_
    have hres := Option.some.inj hres
    have h0 := hres
    subst h0
    exact hret _ _ _ _ (vp_nar_int _) hP hD hS dX9_cost_31

def pX9_note_L51 (mo_st : Nat → Int32) : Nat → Int32 → (Nat → Int32) → Int32 → Option ((Nat → Int32) × Int32)
  | 0, _, _, _ => none
  | n51 + 1, v1, w_mo_ahead, w_mo_undoMany =>
    (if 17 ≤ v1 then
    some (w_mo_ahead, (w_mo_undoMany + 1))
    else
    if v1 < 0 ∨ 17 ≤ v1.toNatClampNeg then none else
    if ((17 * w_mo_undoMany) + v1) < 0 ∨ 340 ≤ ((17 * w_mo_undoMany) + v1).toNatClampNeg then none else
    pX9_note_L51 mo_st n51 (v1 + 1) (upd w_mo_ahead (((17 * w_mo_undoMany) + v1).toNatClampNeg) (mo_st v1.toNatClampNeg)) w_mo_undoMany)
def pX9_note_L49 (N : Nat) (mo_st : Nat → Int32) (w_mo_ahead : Nat → Int32) (w_mo_undoMany : Int32) : Option ((Nat → Int32) × Int32) :=
    pX9_note_L51 mo_st N 0 w_mo_ahead w_mo_undoMany
def pX9_note_L11 (N : Nat) (mo_st : Nat → Int32) (mo_undoMany : Int32) : Nat → Int32 → (Nat → Int32) → Option ((Nat → Int32) × Int32)
  | 0, _, _ => none
  | n11 + 1, v1, w_mo_ahead =>
    (if 323 ≤ v1 then
    pX9_note_L49 N mo_st w_mo_ahead (mo_undoMany - 1)
    else
    if (v1 + 17) < 0 ∨ 340 ≤ (v1 + 17).toNatClampNeg then none else
    kl (w_mo_ahead ((v1 + 17).toNatClampNeg)) fun y7 =>
    if v1 < 0 ∨ 340 ≤ v1.toNatClampNeg then none else
    pX9_note_L11 N mo_st mo_undoMany n11 (v1 + 1) (upd w_mo_ahead v1.toNatClampNeg y7))
def pX9_note (N : Nat) (mo_st : Nat → Int32) (mo_ahead : Nat → Int32) (mo_undoMany : Int32) : Option ((Nat → Int32) × Int32) :=
    (if mo_undoMany = 20 then
    pX9_note_L11 N mo_st mo_undoMany N 0 mo_ahead
    else
    pX9_note_L49 N mo_st mo_ahead mo_undoMany)
set_option maxHeartbeats 8000000 in
set_option maxRecDepth 100000 in
theorem tX9_note (l : Launch) (D : va_G) (κ : Nat → ClassId) (moo : Nat) (mo_toldA : Nat) (mo_stA : Nat) (mo_textA : Nat) (mo_readA : Nat) (mo_aheadA : Nat) (mo_asideA : Nat) (mo_weighingsA : Nat) (mo_bookA : Nat) (mo_isKeptA : Nat) (mo_keptA : Nat) (mo_seedsA : Nat) (N : Nat) (mo_told : Nat → Int32) (mo_st : Nat → Int32) (mo_isThere : Int32) (mo_seed : Int32) (mo_text : Nat → Int32) (mo_typed : Int32) (mo_faultAt : Int32) (mo_place : Int32) (mo_wrong : Int32) (mo_value : Int32) (mo_read : Nat → Int32) (mo_ahead : Nat → Int32) (mo_undoMany : Int32) (mo_aside : Nat → Int32) (mo_weighings : Nat → Int32) (mo_weighed : Int32) (mo_book : Nat → Int32) (mo_entries : Int32) (mo_isKept : Nat → Int32) (mo_kept : Nat → Int32) (mo_seeds : Nat → Int32) (z_mo_ahead : Nat → Int32) (z_mo_undoMany : Int32) (hres : pX9_note N mo_st mo_ahead mo_undoMany = some (z_mo_ahead, z_mo_undoMany)) : krV l yX9_note wsX9_note { frames := 0, cells := 0, slots := 0, locals := 0 } D κ [.ref moo] ([(moo, .inr (9, [.ref mo_toldA, .ref mo_stA, .int mo_isThere, .int mo_seed, .ref mo_textA, .int mo_typed, .int mo_faultAt, .int mo_place, .int mo_wrong, .int mo_value, .ref mo_readA, .ref mo_aheadA, .int mo_undoMany, .ref mo_asideA, .ref mo_weighingsA, .int mo_weighed, .ref mo_bookA, .int mo_entries, .ref mo_isKeptA, .ref mo_keptA, .ref mo_seedsA])), (mo_toldA, .inl (κ 0, 37, .inl mo_told)), (mo_stA, .inl (κ 0, 17, .inl mo_st)), (mo_textA, .inl (κ 0, 240, .inl mo_text)), (mo_readA, .inl (κ 0, 37, .inl mo_read)), (mo_aheadA, .inl (κ 0, 340, .inl mo_ahead)), (mo_asideA, .inl (κ 0, 17, .inl mo_aside)), (mo_weighingsA, .inl (κ 0, 12, .inl mo_weighings)), (mo_bookA, .inl (κ 0, 30, .inl mo_book)), (mo_isKeptA, .inl (κ 1, 2, .inl mo_isKept)), (mo_keptA, .inl (κ 0, 34, .inl mo_kept)), (mo_seedsA, .inl (κ 0, 2, .inl mo_seeds))]) ([(moo, .inr (9, [.ref mo_toldA, .ref mo_stA, .int mo_isThere, .int mo_seed, .ref mo_textA, .int mo_typed, .int mo_faultAt, .int mo_place, .int mo_wrong, .int mo_value, .ref mo_readA, .ref mo_aheadA, .int z_mo_undoMany, .ref mo_asideA, .ref mo_weighingsA, .int mo_weighed, .ref mo_bookA, .int mo_entries, .ref mo_isKeptA, .ref mo_keptA, .ref mo_seedsA])), (mo_toldA, .inl (κ 0, 37, .inl mo_told)), (mo_stA, .inl (κ 0, 17, .inl mo_st)), (mo_textA, .inl (κ 0, 240, .inl mo_text)), (mo_readA, .inl (κ 0, 37, .inl mo_read)), (mo_aheadA, .inl (κ 0, 340, .inl z_mo_ahead)), (mo_asideA, .inl (κ 0, 17, .inl mo_aside)), (mo_weighingsA, .inl (κ 0, 12, .inl mo_weighings)), (mo_bookA, .inl (κ 0, 30, .inl mo_book)), (mo_isKeptA, .inl (κ 1, 2, .inl mo_isKept)), (mo_keptA, .inl (κ 0, 34, .inl mo_kept)), (mo_seedsA, .inl (κ 0, 2, .inl mo_seeds))]) := by
  refine krV_of (cc := cX9_note) (maxL := 2) (by decide) rfl (Nat.le_of_ble_eq_true rfl) ?_
  intro p e s m args below meth c A Q ls hx hb hml hown hts hK hA hret hP hD hS hl
  have hown : s.vm.findClass RX9 = some m.cls := hown
  have hl : lv_has ls 2 [(0, .ref moo)] := hl
  have iw9 : ∀ w ∈ u_ws RX9 TX9 21, w ∈ wsX9_note := (fun _ h => List.mem_cons_of_mem _ (List.mem_append_right _ h))
  have k0 : (Cond.fieldLink RX9 110 "KingRansomModel" "undoMany" "I").before args s = true := hts _ (List.mem_of_getElem? (i := 1) rfl)
  have k1 : (Cond.fieldLink RX9 26 "KingRansomModel" "ahead" "[I").before args s = true := hts _ (List.mem_of_getElem? (i := 2) rfl)
  have k2 : (Cond.fieldLink RX9 13 "KingRansomModel" "st" "[I").before args s = true := hts _ (List.mem_of_getElem? (i := 3) rfl)
  have L51 : ∀ (n51 : Nat) (v1 : Int32) (w_mo_ahead : Nat → Int32) (w_mo_undoMany : Int32) (H : Heap) (locs : List Loc) (ls : Array Slot), va_P D vwCl ([(moo, .inr (9, [.ref mo_toldA, .ref mo_stA, .int mo_isThere, .int mo_seed, .ref mo_textA, .int mo_typed, .int mo_faultAt, .int mo_place, .int mo_wrong, .int mo_value, .ref mo_readA, .ref mo_aheadA, .int w_mo_undoMany, .ref mo_asideA, .ref mo_weighingsA, .int mo_weighed, .ref mo_bookA, .int mo_entries, .ref mo_isKeptA, .ref mo_keptA, .ref mo_seedsA])), (mo_toldA, .inl (κ 0, 37, .inl mo_told)), (mo_stA, .inl (κ 0, 17, .inl mo_st)), (mo_textA, .inl (κ 0, 240, .inl mo_text)), (mo_readA, .inl (κ 0, 37, .inl mo_read)), (mo_aheadA, .inl (κ 0, 340, .inl w_mo_ahead)), (mo_asideA, .inl (κ 0, 17, .inl mo_aside)), (mo_weighingsA, .inl (κ 0, 12, .inl mo_weighings)), (mo_bookA, .inl (κ 0, 30, .inl mo_book)), (mo_isKeptA, .inl (κ 1, 2, .inl mo_isKept)), (mo_keptA, .inl (κ 0, 34, .inl mo_kept)), (mo_seedsA, .inl (κ 0, 2, .inl mo_seeds))]) H → va_D A ([(moo, .inr (9, [.ref mo_toldA, .ref mo_stA, .int mo_isThere, .int mo_seed, .ref mo_textA, .int mo_typed, .int mo_faultAt, .int mo_place, .int mo_wrong, .int mo_value, .ref mo_readA, .ref mo_aheadA, .int w_mo_undoMany, .ref mo_asideA, .ref mo_weighingsA, .int mo_weighed, .ref mo_bookA, .int mo_entries, .ref mo_isKeptA, .ref mo_keptA, .ref mo_seedsA])), (mo_toldA, .inl (κ 0, 37, .inl mo_told)), (mo_stA, .inl (κ 0, 17, .inl mo_st)), (mo_textA, .inl (κ 0, 240, .inl mo_text)), (mo_readA, .inl (κ 0, 37, .inl mo_read)), (mo_aheadA, .inl (κ 0, 340, .inl w_mo_ahead)), (mo_asideA, .inl (κ 0, 17, .inl mo_aside)), (mo_weighingsA, .inl (κ 0, 12, .inl mo_weighings)), (mo_bookA, .inl (κ 0, 30, .inl mo_book)), (mo_isKeptA, .inl (κ 1, 2, .inl mo_isKept)), (mo_keptA, .inl (κ 0, 34, .inl mo_kept)), (mo_seedsA, .inl (κ 0, 2, .inl mo_seeds))]) → va_S A s.heap H locs → lv_has ls 2 [(0, .ref moo), (1, .int v1)] → pX9_note_L51 mo_st n51 v1 w_mo_ahead w_mo_undoMany = some (z_mo_ahead, z_mo_undoMany) → W p l e { frames := 0, cells := 0, slots := 0, locals := 0 } s m args below meth c H locs 0 0 Q (F0 m 51 ls []) := by
    intro n51
    induction n51 with
    | zero =>
      intro v1 w_mo_ahead w_mo_undoMany H locs ls hP hD hS hl hres
      exact absurd (show none = some _ from hres) (by simp)
    | succ n51 ih51 =>
      intro v1 w_mo_ahead w_mo_undoMany H locs ls hP hD hS hl hres
      rw [pX9_note_L51] at hres
      refine lv_iload_n hx hb dX9_note_51 rfl (lv_at hl 1 rfl) ?_
      refine lv_bipush (v := 17) hx hb dX9_note_52 (by decide) ?_
      refine lv_icmp_ge (tgt := 83) hx hb dX9_note_54 (by decide) (fun c2 => ?_) (fun c2 => ?_)
      · replace hres := og_t c2 hres
        refine lv_aload_n hx hb dX9_note_83 rfl (lv_at hl 0 rfl) ?_
        refine lv_dup hx hb dX9_note_84 rfl ?_
        refine va_get (D := D) (ci := 9) (v := .int w_mo_undoMany) (C := RX9) (T := TX9) (N := 21) hx hb hts iw9 hown hK.1 hP 0 rfl rfl 12 (by decide) k0 (fun _ h9 => h9) rfl dX9_note_85 ?_
        refine lv_iconst (v := 1) hx hb dX9_note_88 (by decide) ?_
        refine lv_iadd hx hb dX9_note_89 ?_
        refine va_put (D := D) (ci := 9) (v := .int (w_mo_undoMany + 1)) (ty := .int) (C := RX9) (T := TX9) (N := 21) hx hb hts iw9 tyX9 tyX9_ok nmX9 hown hK.1 hP hD hS 0 rfl rfl 12 (by decide) k0 (fun _ h9 => h9) rfl (tyX9_ok 12 (by decide)) rfl rfl (Nat.le_of_ble_eq_true rfl) dX9_note_90 (fun H locs hP hD hS => ?_)
        have hP : va_P D vwCl ([(moo, .inr (9, [.ref mo_toldA, .ref mo_stA, .int mo_isThere, .int mo_seed, .ref mo_textA, .int mo_typed, .int mo_faultAt, .int mo_place, .int mo_wrong, .int mo_value, .ref mo_readA, .ref mo_aheadA, .int (w_mo_undoMany + 1), .ref mo_asideA, .ref mo_weighingsA, .int mo_weighed, .ref mo_bookA, .int mo_entries, .ref mo_isKeptA, .ref mo_keptA, .ref mo_seedsA])), (mo_toldA, .inl (κ 0, 37, .inl mo_told)), (mo_stA, .inl (κ 0, 17, .inl mo_st)), (mo_textA, .inl (κ 0, 240, .inl mo_text)), (mo_readA, .inl (κ 0, 37, .inl mo_read)), (mo_aheadA, .inl (κ 0, 340, .inl w_mo_ahead)), (mo_asideA, .inl (κ 0, 17, .inl mo_aside)), (mo_weighingsA, .inl (κ 0, 12, .inl mo_weighings)), (mo_bookA, .inl (κ 0, 30, .inl mo_book)), (mo_isKeptA, .inl (κ 1, 2, .inl mo_isKept)), (mo_keptA, .inl (κ 0, 34, .inl mo_kept)), (mo_seedsA, .inl (κ 0, 2, .inl mo_seeds))]) H := hP
        have hD : va_D A ([(moo, .inr (9, [.ref mo_toldA, .ref mo_stA, .int mo_isThere, .int mo_seed, .ref mo_textA, .int mo_typed, .int mo_faultAt, .int mo_place, .int mo_wrong, .int mo_value, .ref mo_readA, .ref mo_aheadA, .int (w_mo_undoMany + 1), .ref mo_asideA, .ref mo_weighingsA, .int mo_weighed, .ref mo_bookA, .int mo_entries, .ref mo_isKeptA, .ref mo_keptA, .ref mo_seedsA])), (mo_toldA, .inl (κ 0, 37, .inl mo_told)), (mo_stA, .inl (κ 0, 17, .inl mo_st)), (mo_textA, .inl (κ 0, 240, .inl mo_text)), (mo_readA, .inl (κ 0, 37, .inl mo_read)), (mo_aheadA, .inl (κ 0, 340, .inl w_mo_ahead)), (mo_asideA, .inl (κ 0, 17, .inl mo_aside)), (mo_weighingsA, .inl (κ 0, 12, .inl mo_weighings)), (mo_bookA, .inl (κ 0, 30, .inl mo_book)), (mo_isKeptA, .inl (κ 1, 2, .inl mo_isKept)), (mo_keptA, .inl (κ 0, 34, .inl mo_kept)), (mo_seedsA, .inl (κ 0, 2, .inl mo_seeds))]) := hD
        have hres := Option.some.inj hres
        have h0 := (Prod.mk.inj hres).1
        replace hres := (Prod.mk.inj hres).2
        have h1 := hres
        subst h0
        subst h1
        exact hret _ _ _ _ hP hD hS dX9_note_93
      · replace hres := og_f c2 hres
        refine lv_aload_n hx hb dX9_note_57 rfl (lv_at hl 0 rfl) ?_
        refine va_get (D := D) (ci := 9) (v := .ref mo_aheadA) (C := RX9) (T := TX9) (N := 21) hx hb hts iw9 hown hK.1 hP 0 rfl rfl 11 (by decide) k1 (fun _ h9 => h9) rfl dX9_note_58 ?_
        refine lv_bipush (v := 17) hx hb dX9_note_61 (by decide) ?_
        refine lv_aload_n hx hb dX9_note_63 rfl (lv_at hl 0 rfl) ?_
        refine va_get (D := D) (ci := 9) (v := .int w_mo_undoMany) (C := RX9) (T := TX9) (N := 21) hx hb hts iw9 hown hK.1 hP 0 rfl rfl 12 (by decide) k0 (fun _ h9 => h9) rfl dX9_note_64 ?_
        refine lv_imul hx hb dX9_note_67 ?_
        refine lv_iload_n hx hb dX9_note_68 rfl (lv_at hl 1 rfl) ?_
        refine lv_iadd hx hb dX9_note_69 ?_
        refine lv_aload_n hx hb dX9_note_70 rfl (lv_at hl 0 rfl) ?_
        refine va_get (D := D) (ci := 9) (v := .ref mo_stA) (C := RX9) (T := TX9) (N := 21) hx hb hts iw9 hown hK.1 hP 0 rfl rfl 1 (by decide) k2 (fun _ h9 => h9) rfl dX9_note_71 ?_
        refine lv_iload_n hx hb dX9_note_74 rfl (lv_at hl 1 rfl) ?_
        obtain ⟨g3, hres⟩ := og_no hres
        refine kr_iald (f := mo_st) (j := v1.toNatClampNeg) hx hb hK hP 2 rfl g3 rfl dX9_note_75 ?_
        obtain ⟨g4, hres⟩ := og_no hres
        refine kr_iast (f := w_mo_ahead) (j := ((17 * w_mo_undoMany) + v1).toNatClampNeg) (x := (mo_st v1.toNatClampNeg)) hx hb hK hP hD hS 5 rfl g4 rfl dX9_note_76 (fun H locs hP hD hS => ?_)
        have hP : va_P D vwCl ([(moo, .inr (9, [.ref mo_toldA, .ref mo_stA, .int mo_isThere, .int mo_seed, .ref mo_textA, .int mo_typed, .int mo_faultAt, .int mo_place, .int mo_wrong, .int mo_value, .ref mo_readA, .ref mo_aheadA, .int w_mo_undoMany, .ref mo_asideA, .ref mo_weighingsA, .int mo_weighed, .ref mo_bookA, .int mo_entries, .ref mo_isKeptA, .ref mo_keptA, .ref mo_seedsA])), (mo_toldA, .inl (κ 0, 37, .inl mo_told)), (mo_stA, .inl (κ 0, 17, .inl mo_st)), (mo_textA, .inl (κ 0, 240, .inl mo_text)), (mo_readA, .inl (κ 0, 37, .inl mo_read)), (mo_aheadA, .inl (κ 0, 340, .inl (upd w_mo_ahead (((17 * w_mo_undoMany) + v1).toNatClampNeg) (mo_st v1.toNatClampNeg)))), (mo_asideA, .inl (κ 0, 17, .inl mo_aside)), (mo_weighingsA, .inl (κ 0, 12, .inl mo_weighings)), (mo_bookA, .inl (κ 0, 30, .inl mo_book)), (mo_isKeptA, .inl (κ 1, 2, .inl mo_isKept)), (mo_keptA, .inl (κ 0, 34, .inl mo_kept)), (mo_seedsA, .inl (κ 0, 2, .inl mo_seeds))]) H := hP
        have hD : va_D A ([(moo, .inr (9, [.ref mo_toldA, .ref mo_stA, .int mo_isThere, .int mo_seed, .ref mo_textA, .int mo_typed, .int mo_faultAt, .int mo_place, .int mo_wrong, .int mo_value, .ref mo_readA, .ref mo_aheadA, .int w_mo_undoMany, .ref mo_asideA, .ref mo_weighingsA, .int mo_weighed, .ref mo_bookA, .int mo_entries, .ref mo_isKeptA, .ref mo_keptA, .ref mo_seedsA])), (mo_toldA, .inl (κ 0, 37, .inl mo_told)), (mo_stA, .inl (κ 0, 17, .inl mo_st)), (mo_textA, .inl (κ 0, 240, .inl mo_text)), (mo_readA, .inl (κ 0, 37, .inl mo_read)), (mo_aheadA, .inl (κ 0, 340, .inl (upd w_mo_ahead (((17 * w_mo_undoMany) + v1).toNatClampNeg) (mo_st v1.toNatClampNeg)))), (mo_asideA, .inl (κ 0, 17, .inl mo_aside)), (mo_weighingsA, .inl (κ 0, 12, .inl mo_weighings)), (mo_bookA, .inl (κ 0, 30, .inl mo_book)), (mo_isKeptA, .inl (κ 1, 2, .inl mo_isKept)), (mo_keptA, .inl (κ 0, 34, .inl mo_kept)), (mo_seedsA, .inl (κ 0, 2, .inl mo_seeds))]) := hD
        refine lv_iinc (v := (v1 + 1)) (lv' := [(1, .int (v1 + 1)), (0, .ref moo)]) hx hb dX9_note_77 hl (k := 1) rfl rfl (by decide) rfl (fun ls hl => ?_)
        refine lv_goto (tgt := 51) hx hb dX9_note_80 (by decide) ?_
        exact ih51 (v1 + 1) (upd w_mo_ahead (((17 * w_mo_undoMany) + v1).toNatClampNeg) (mo_st v1.toNatClampNeg)) w_mo_undoMany _ _ _ hP hD hS (lv_sub hl [1, 0] rfl) hres
  have L49 : ∀ (w_mo_ahead : Nat → Int32) (w_mo_undoMany : Int32) (H : Heap) (locs : List Loc) (ls : Array Slot), va_P D vwCl ([(moo, .inr (9, [.ref mo_toldA, .ref mo_stA, .int mo_isThere, .int mo_seed, .ref mo_textA, .int mo_typed, .int mo_faultAt, .int mo_place, .int mo_wrong, .int mo_value, .ref mo_readA, .ref mo_aheadA, .int w_mo_undoMany, .ref mo_asideA, .ref mo_weighingsA, .int mo_weighed, .ref mo_bookA, .int mo_entries, .ref mo_isKeptA, .ref mo_keptA, .ref mo_seedsA])), (mo_toldA, .inl (κ 0, 37, .inl mo_told)), (mo_stA, .inl (κ 0, 17, .inl mo_st)), (mo_textA, .inl (κ 0, 240, .inl mo_text)), (mo_readA, .inl (κ 0, 37, .inl mo_read)), (mo_aheadA, .inl (κ 0, 340, .inl w_mo_ahead)), (mo_asideA, .inl (κ 0, 17, .inl mo_aside)), (mo_weighingsA, .inl (κ 0, 12, .inl mo_weighings)), (mo_bookA, .inl (κ 0, 30, .inl mo_book)), (mo_isKeptA, .inl (κ 1, 2, .inl mo_isKept)), (mo_keptA, .inl (κ 0, 34, .inl mo_kept)), (mo_seedsA, .inl (κ 0, 2, .inl mo_seeds))]) H → va_D A ([(moo, .inr (9, [.ref mo_toldA, .ref mo_stA, .int mo_isThere, .int mo_seed, .ref mo_textA, .int mo_typed, .int mo_faultAt, .int mo_place, .int mo_wrong, .int mo_value, .ref mo_readA, .ref mo_aheadA, .int w_mo_undoMany, .ref mo_asideA, .ref mo_weighingsA, .int mo_weighed, .ref mo_bookA, .int mo_entries, .ref mo_isKeptA, .ref mo_keptA, .ref mo_seedsA])), (mo_toldA, .inl (κ 0, 37, .inl mo_told)), (mo_stA, .inl (κ 0, 17, .inl mo_st)), (mo_textA, .inl (κ 0, 240, .inl mo_text)), (mo_readA, .inl (κ 0, 37, .inl mo_read)), (mo_aheadA, .inl (κ 0, 340, .inl w_mo_ahead)), (mo_asideA, .inl (κ 0, 17, .inl mo_aside)), (mo_weighingsA, .inl (κ 0, 12, .inl mo_weighings)), (mo_bookA, .inl (κ 0, 30, .inl mo_book)), (mo_isKeptA, .inl (κ 1, 2, .inl mo_isKept)), (mo_keptA, .inl (κ 0, 34, .inl mo_kept)), (mo_seedsA, .inl (κ 0, 2, .inl mo_seeds))]) → va_S A s.heap H locs → lv_has ls 2 [(0, .ref moo)] → pX9_note_L49 N mo_st w_mo_ahead w_mo_undoMany = some (z_mo_ahead, z_mo_undoMany) → W p l e { frames := 0, cells := 0, slots := 0, locals := 0 } s m args below meth c H locs 0 0 Q (F0 m 49 ls []) := by
    intro w_mo_ahead w_mo_undoMany H locs ls hP hD hS hl hres
    unfold pX9_note_L49 at hres
    refine lv_iconst (v := 0) hx hb dX9_note_49 (by decide) ?_
    refine lv_istore_n (lv' := [(1, .int 0), (0, .ref moo)]) hx hb dX9_note_50 rfl hl (by decide) rfl (fun ls hl => ?_)
    exact L51 N 0 w_mo_ahead w_mo_undoMany _ _ _ hP hD hS (lv_sub hl [1, 0] rfl) hres
  have L11 : ∀ (n11 : Nat) (v1 : Int32) (w_mo_ahead : Nat → Int32) (H : Heap) (locs : List Loc) (ls : Array Slot), va_P D vwCl ([(moo, .inr (9, [.ref mo_toldA, .ref mo_stA, .int mo_isThere, .int mo_seed, .ref mo_textA, .int mo_typed, .int mo_faultAt, .int mo_place, .int mo_wrong, .int mo_value, .ref mo_readA, .ref mo_aheadA, .int mo_undoMany, .ref mo_asideA, .ref mo_weighingsA, .int mo_weighed, .ref mo_bookA, .int mo_entries, .ref mo_isKeptA, .ref mo_keptA, .ref mo_seedsA])), (mo_toldA, .inl (κ 0, 37, .inl mo_told)), (mo_stA, .inl (κ 0, 17, .inl mo_st)), (mo_textA, .inl (κ 0, 240, .inl mo_text)), (mo_readA, .inl (κ 0, 37, .inl mo_read)), (mo_aheadA, .inl (κ 0, 340, .inl w_mo_ahead)), (mo_asideA, .inl (κ 0, 17, .inl mo_aside)), (mo_weighingsA, .inl (κ 0, 12, .inl mo_weighings)), (mo_bookA, .inl (κ 0, 30, .inl mo_book)), (mo_isKeptA, .inl (κ 1, 2, .inl mo_isKept)), (mo_keptA, .inl (κ 0, 34, .inl mo_kept)), (mo_seedsA, .inl (κ 0, 2, .inl mo_seeds))]) H → va_D A ([(moo, .inr (9, [.ref mo_toldA, .ref mo_stA, .int mo_isThere, .int mo_seed, .ref mo_textA, .int mo_typed, .int mo_faultAt, .int mo_place, .int mo_wrong, .int mo_value, .ref mo_readA, .ref mo_aheadA, .int mo_undoMany, .ref mo_asideA, .ref mo_weighingsA, .int mo_weighed, .ref mo_bookA, .int mo_entries, .ref mo_isKeptA, .ref mo_keptA, .ref mo_seedsA])), (mo_toldA, .inl (κ 0, 37, .inl mo_told)), (mo_stA, .inl (κ 0, 17, .inl mo_st)), (mo_textA, .inl (κ 0, 240, .inl mo_text)), (mo_readA, .inl (κ 0, 37, .inl mo_read)), (mo_aheadA, .inl (κ 0, 340, .inl w_mo_ahead)), (mo_asideA, .inl (κ 0, 17, .inl mo_aside)), (mo_weighingsA, .inl (κ 0, 12, .inl mo_weighings)), (mo_bookA, .inl (κ 0, 30, .inl mo_book)), (mo_isKeptA, .inl (κ 1, 2, .inl mo_isKept)), (mo_keptA, .inl (κ 0, 34, .inl mo_kept)), (mo_seedsA, .inl (κ 0, 2, .inl mo_seeds))]) → va_S A s.heap H locs → lv_has ls 2 [(0, .ref moo), (1, .int v1)] → pX9_note_L11 N mo_st mo_undoMany n11 v1 w_mo_ahead = some (z_mo_ahead, z_mo_undoMany) → W p l e { frames := 0, cells := 0, slots := 0, locals := 0 } s m args below meth c H locs 0 0 Q (F0 m 11 ls []) := by
    intro n11
    induction n11 with
    | zero =>
      intro v1 w_mo_ahead H locs ls hP hD hS hl hres
      exact absurd (show none = some _ from hres) (by simp)
    | succ n11 ih11 =>
      intro v1 w_mo_ahead H locs ls hP hD hS hl hres
      rw [pX9_note_L11] at hres
      refine lv_iload_n hx hb dX9_note_11 rfl (lv_at hl 1 rfl) ?_
      refine lv_sipush (v := 323) hx hb dX9_note_12 (by decide) ?_
      refine lv_icmp_ge (tgt := 39) hx hb dX9_note_15 (by decide) (fun c5 => ?_) (fun c5 => ?_)
      · replace hres := og_t c5 hres
        refine lv_aload_n hx hb dX9_note_39 rfl (lv_at hl 0 rfl) ?_
        refine lv_dup hx hb dX9_note_40 rfl ?_
        refine va_get (D := D) (ci := 9) (v := .int mo_undoMany) (C := RX9) (T := TX9) (N := 21) hx hb hts iw9 hown hK.1 hP 0 rfl rfl 12 (by decide) k0 (fun _ h9 => h9) rfl dX9_note_41 ?_
        refine lv_iconst (v := 1) hx hb dX9_note_44 (by decide) ?_
        refine lv_isub hx hb dX9_note_45 ?_
        refine va_put (D := D) (ci := 9) (v := .int (mo_undoMany - 1)) (ty := .int) (C := RX9) (T := TX9) (N := 21) hx hb hts iw9 tyX9 tyX9_ok nmX9 hown hK.1 hP hD hS 0 rfl rfl 12 (by decide) k0 (fun _ h9 => h9) rfl (tyX9_ok 12 (by decide)) rfl rfl (Nat.le_of_ble_eq_true rfl) dX9_note_46 (fun H locs hP hD hS => ?_)
        have hP : va_P D vwCl ([(moo, .inr (9, [.ref mo_toldA, .ref mo_stA, .int mo_isThere, .int mo_seed, .ref mo_textA, .int mo_typed, .int mo_faultAt, .int mo_place, .int mo_wrong, .int mo_value, .ref mo_readA, .ref mo_aheadA, .int (mo_undoMany - 1), .ref mo_asideA, .ref mo_weighingsA, .int mo_weighed, .ref mo_bookA, .int mo_entries, .ref mo_isKeptA, .ref mo_keptA, .ref mo_seedsA])), (mo_toldA, .inl (κ 0, 37, .inl mo_told)), (mo_stA, .inl (κ 0, 17, .inl mo_st)), (mo_textA, .inl (κ 0, 240, .inl mo_text)), (mo_readA, .inl (κ 0, 37, .inl mo_read)), (mo_aheadA, .inl (κ 0, 340, .inl w_mo_ahead)), (mo_asideA, .inl (κ 0, 17, .inl mo_aside)), (mo_weighingsA, .inl (κ 0, 12, .inl mo_weighings)), (mo_bookA, .inl (κ 0, 30, .inl mo_book)), (mo_isKeptA, .inl (κ 1, 2, .inl mo_isKept)), (mo_keptA, .inl (κ 0, 34, .inl mo_kept)), (mo_seedsA, .inl (κ 0, 2, .inl mo_seeds))]) H := hP
        have hD : va_D A ([(moo, .inr (9, [.ref mo_toldA, .ref mo_stA, .int mo_isThere, .int mo_seed, .ref mo_textA, .int mo_typed, .int mo_faultAt, .int mo_place, .int mo_wrong, .int mo_value, .ref mo_readA, .ref mo_aheadA, .int (mo_undoMany - 1), .ref mo_asideA, .ref mo_weighingsA, .int mo_weighed, .ref mo_bookA, .int mo_entries, .ref mo_isKeptA, .ref mo_keptA, .ref mo_seedsA])), (mo_toldA, .inl (κ 0, 37, .inl mo_told)), (mo_stA, .inl (κ 0, 17, .inl mo_st)), (mo_textA, .inl (κ 0, 240, .inl mo_text)), (mo_readA, .inl (κ 0, 37, .inl mo_read)), (mo_aheadA, .inl (κ 0, 340, .inl w_mo_ahead)), (mo_asideA, .inl (κ 0, 17, .inl mo_aside)), (mo_weighingsA, .inl (κ 0, 12, .inl mo_weighings)), (mo_bookA, .inl (κ 0, 30, .inl mo_book)), (mo_isKeptA, .inl (κ 1, 2, .inl mo_isKept)), (mo_keptA, .inl (κ 0, 34, .inl mo_kept)), (mo_seedsA, .inl (κ 0, 2, .inl mo_seeds))]) := hD
        exact L49 w_mo_ahead (mo_undoMany - 1) _ _ _ hP hD hS (lv_sub hl [0] rfl) hres
      · replace hres := og_f c5 hres
        refine lv_aload_n hx hb dX9_note_18 rfl (lv_at hl 0 rfl) ?_
        refine va_get (D := D) (ci := 9) (v := .ref mo_aheadA) (C := RX9) (T := TX9) (N := 21) hx hb hts iw9 hown hK.1 hP 0 rfl rfl 11 (by decide) k1 (fun _ h9 => h9) rfl dX9_note_19 ?_
        refine lv_iload_n hx hb dX9_note_22 rfl (lv_at hl 1 rfl) ?_
        refine lv_aload_n hx hb dX9_note_23 rfl (lv_at hl 0 rfl) ?_
        refine va_get (D := D) (ci := 9) (v := .ref mo_aheadA) (C := RX9) (T := TX9) (N := 21) hx hb hts iw9 hown hK.1 hP 0 rfl rfl 11 (by decide) k1 (fun _ h9 => h9) rfl dX9_note_24 ?_
        refine lv_iload_n hx hb dX9_note_27 rfl (lv_at hl 1 rfl) ?_
        refine lv_bipush (v := 17) hx hb dX9_note_28 (by decide) ?_
        refine lv_iadd hx hb dX9_note_30 ?_
        obtain ⟨g6, hres⟩ := og_no hres
        refine kr_iald (f := w_mo_ahead) (j := (v1 + 17).toNatClampNeg) hx hb hK hP 5 rfl g6 rfl dX9_note_31 ?_
        obtain ⟨y7, ey7, hres⟩ := kl_s hres
        refine kr_tope ey7 ?_
        obtain ⟨g8, hres⟩ := og_no hres
        refine kr_iast (f := w_mo_ahead) (j := v1.toNatClampNeg) (x := y7) hx hb hK hP hD hS 5 rfl g8 rfl dX9_note_32 (fun H locs hP hD hS => ?_)
        have hP : va_P D vwCl ([(moo, .inr (9, [.ref mo_toldA, .ref mo_stA, .int mo_isThere, .int mo_seed, .ref mo_textA, .int mo_typed, .int mo_faultAt, .int mo_place, .int mo_wrong, .int mo_value, .ref mo_readA, .ref mo_aheadA, .int mo_undoMany, .ref mo_asideA, .ref mo_weighingsA, .int mo_weighed, .ref mo_bookA, .int mo_entries, .ref mo_isKeptA, .ref mo_keptA, .ref mo_seedsA])), (mo_toldA, .inl (κ 0, 37, .inl mo_told)), (mo_stA, .inl (κ 0, 17, .inl mo_st)), (mo_textA, .inl (κ 0, 240, .inl mo_text)), (mo_readA, .inl (κ 0, 37, .inl mo_read)), (mo_aheadA, .inl (κ 0, 340, .inl (upd w_mo_ahead v1.toNatClampNeg y7))), (mo_asideA, .inl (κ 0, 17, .inl mo_aside)), (mo_weighingsA, .inl (κ 0, 12, .inl mo_weighings)), (mo_bookA, .inl (κ 0, 30, .inl mo_book)), (mo_isKeptA, .inl (κ 1, 2, .inl mo_isKept)), (mo_keptA, .inl (κ 0, 34, .inl mo_kept)), (mo_seedsA, .inl (κ 0, 2, .inl mo_seeds))]) H := hP
        have hD : va_D A ([(moo, .inr (9, [.ref mo_toldA, .ref mo_stA, .int mo_isThere, .int mo_seed, .ref mo_textA, .int mo_typed, .int mo_faultAt, .int mo_place, .int mo_wrong, .int mo_value, .ref mo_readA, .ref mo_aheadA, .int mo_undoMany, .ref mo_asideA, .ref mo_weighingsA, .int mo_weighed, .ref mo_bookA, .int mo_entries, .ref mo_isKeptA, .ref mo_keptA, .ref mo_seedsA])), (mo_toldA, .inl (κ 0, 37, .inl mo_told)), (mo_stA, .inl (κ 0, 17, .inl mo_st)), (mo_textA, .inl (κ 0, 240, .inl mo_text)), (mo_readA, .inl (κ 0, 37, .inl mo_read)), (mo_aheadA, .inl (κ 0, 340, .inl (upd w_mo_ahead v1.toNatClampNeg y7))), (mo_asideA, .inl (κ 0, 17, .inl mo_aside)), (mo_weighingsA, .inl (κ 0, 12, .inl mo_weighings)), (mo_bookA, .inl (κ 0, 30, .inl mo_book)), (mo_isKeptA, .inl (κ 1, 2, .inl mo_isKept)), (mo_keptA, .inl (κ 0, 34, .inl mo_kept)), (mo_seedsA, .inl (κ 0, 2, .inl mo_seeds))]) := hD
        refine lv_iinc (v := (v1 + 1)) (lv' := [(1, .int (v1 + 1)), (0, .ref moo)]) hx hb dX9_note_33 hl (k := 1) rfl rfl (by decide) rfl (fun ls hl => ?_)
        refine lv_goto (tgt := 11) hx hb dX9_note_36 (by decide) ?_
        exact ih11 (v1 + 1) (upd w_mo_ahead v1.toNatClampNeg y7) _ _ _ hP hD hS (lv_sub hl [1, 0] rfl) hres
  unfold pX9_note at hres
  refine lv_aload_n hx hb dX9_note_0 rfl (lv_at hl 0 rfl) ?_
  refine va_get (D := D) (ci := 9) (v := .int mo_undoMany) (C := RX9) (T := TX9) (N := 21) hx hb hts iw9 hown hK.1 hP 0 rfl rfl 12 (by decide) k0 (fun _ h9 => h9) rfl dX9_note_1 ?_
  refine lv_bipush (v := 20) hx hb dX9_note_4 (by decide) ?_
  refine lv_icmp_ne (tgt := 49) hx hb dX9_note_6 (by decide) (fun c1 => ?_) (fun c1 => ?_)
  · replace hres := og_f c1 hres
    exact L49 mo_ahead mo_undoMany _ _ _ hP hD hS (lv_sub hl [0] rfl) hres
  · replace hres := og_t c1 hres
    refine lv_iconst (v := 0) hx hb dX9_note_9 (by decide) ?_
    refine lv_istore_n (lv' := [(1, .int 0), (0, .ref moo)]) hx hb dX9_note_10 rfl hl (by decide) rfl (fun ls hl => ?_)
    exact L11 N 0 mo_ahead _ _ _ hP hD hS (lv_sub hl [1, 0] rfl) hres

def pX9_rate (N : Nat) (x1 : Int32) (x2 : Int32) (mo_told : Nat → Int32) (mo_st : Nat → Int32) (mo_ahead : Nat → Int32) (mo_undoMany : Int32) : Option (Int32 × (Nat → Int32) × (Nat → Int32) × Int32) :=
    kb1 (pX9_isPayer x1 mo_told) fun r1 =>
    (if r1 = 0 then
    some ((-1000000001), mo_st, mo_ahead, mo_undoMany)
    else
    kb1 (pX9_in (x2.toInt64) 0 100) fun r4 =>
    (if r4 = 0 then
    some ((-1000000002), mo_st, mo_ahead, mo_undoMany)
    else
    kb2 (pX9_note N mo_st mo_ahead mo_undoMany) fun w7 w8 =>
    if (6 + x1) < 0 ∨ 17 ≤ (6 + x1).toNatClampNeg then none else
    kl (mo_st ((6 + x1).toNatClampNeg)) fun y11 =>
    some (y11, (upd mo_st ((6 + x1).toNatClampNeg) x2), w7, w8)))
set_option maxHeartbeats 8000000 in
set_option maxRecDepth 100000 in
theorem tX9_rate (l : Launch) (D : va_G) (κ : Nat → ClassId) (moo : Nat) (mo_toldA : Nat) (mo_stA : Nat) (mo_textA : Nat) (mo_readA : Nat) (mo_aheadA : Nat) (mo_asideA : Nat) (mo_weighingsA : Nat) (mo_bookA : Nat) (mo_isKeptA : Nat) (mo_keptA : Nat) (mo_seedsA : Nat) (N : Nat) (mo_told : Nat → Int32) (mo_st : Nat → Int32) (mo_isThere : Int32) (mo_seed : Int32) (mo_text : Nat → Int32) (mo_typed : Int32) (mo_faultAt : Int32) (mo_place : Int32) (mo_wrong : Int32) (mo_value : Int32) (mo_read : Nat → Int32) (mo_ahead : Nat → Int32) (mo_undoMany : Int32) (mo_aside : Nat → Int32) (mo_weighings : Nat → Int32) (mo_weighed : Int32) (mo_book : Nat → Int32) (mo_entries : Int32) (mo_isKept : Nat → Int32) (mo_kept : Nat → Int32) (mo_seeds : Nat → Int32) (x1 : Int32) (x2 : Int32) (r0 : Int32) (z_mo_st : Nat → Int32) (z_mo_ahead : Nat → Int32) (z_mo_undoMany : Int32) (hres : pX9_rate N x1 x2 mo_told mo_st mo_ahead mo_undoMany = some (r0, z_mo_st, z_mo_ahead, z_mo_undoMany)) : krI l yX9_rate wsX9_rate { frames := 2, cells := 0, slots := 0, locals := 200 } D κ [.ref moo, .int x1, .int x2] ([(moo, .inr (9, [.ref mo_toldA, .ref mo_stA, .int mo_isThere, .int mo_seed, .ref mo_textA, .int mo_typed, .int mo_faultAt, .int mo_place, .int mo_wrong, .int mo_value, .ref mo_readA, .ref mo_aheadA, .int mo_undoMany, .ref mo_asideA, .ref mo_weighingsA, .int mo_weighed, .ref mo_bookA, .int mo_entries, .ref mo_isKeptA, .ref mo_keptA, .ref mo_seedsA])), (mo_toldA, .inl (κ 0, 37, .inl mo_told)), (mo_stA, .inl (κ 0, 17, .inl mo_st)), (mo_textA, .inl (κ 0, 240, .inl mo_text)), (mo_readA, .inl (κ 0, 37, .inl mo_read)), (mo_aheadA, .inl (κ 0, 340, .inl mo_ahead)), (mo_asideA, .inl (κ 0, 17, .inl mo_aside)), (mo_weighingsA, .inl (κ 0, 12, .inl mo_weighings)), (mo_bookA, .inl (κ 0, 30, .inl mo_book)), (mo_isKeptA, .inl (κ 1, 2, .inl mo_isKept)), (mo_keptA, .inl (κ 0, 34, .inl mo_kept)), (mo_seedsA, .inl (κ 0, 2, .inl mo_seeds))]) ([(moo, .inr (9, [.ref mo_toldA, .ref mo_stA, .int mo_isThere, .int mo_seed, .ref mo_textA, .int mo_typed, .int mo_faultAt, .int mo_place, .int mo_wrong, .int mo_value, .ref mo_readA, .ref mo_aheadA, .int z_mo_undoMany, .ref mo_asideA, .ref mo_weighingsA, .int mo_weighed, .ref mo_bookA, .int mo_entries, .ref mo_isKeptA, .ref mo_keptA, .ref mo_seedsA])), (mo_toldA, .inl (κ 0, 37, .inl mo_told)), (mo_stA, .inl (κ 0, 17, .inl z_mo_st)), (mo_textA, .inl (κ 0, 240, .inl mo_text)), (mo_readA, .inl (κ 0, 37, .inl mo_read)), (mo_aheadA, .inl (κ 0, 340, .inl z_mo_ahead)), (mo_asideA, .inl (κ 0, 17, .inl mo_aside)), (mo_weighingsA, .inl (κ 0, 12, .inl mo_weighings)), (mo_bookA, .inl (κ 0, 30, .inl mo_book)), (mo_isKeptA, .inl (κ 1, 2, .inl mo_isKept)), (mo_keptA, .inl (κ 0, 34, .inl mo_kept)), (mo_seedsA, .inl (κ 0, 2, .inl mo_seeds))]) r0 := by
  refine krI_of (cc := cX9_rate) (maxL := 4) (rt := .int) (by decide) rfl (Nat.le_of_ble_eq_true rfl) ?_
  intro p e s m args below meth c A Q ls hx hb hml hown hts hK hA hret hP hD hS hl
  have hown : s.vm.findClass RX9 = some m.cls := hown
  have hl : lv_has ls 4 [(0, .ref moo), (1, .int x1), (2, .int x2)] := hl
  have iw9 : ∀ w ∈ u_ws RX9 TX9 21, w ∈ wsX9_rate := (fun _ h => List.mem_cons_of_mem _ (List.mem_append_right _ h))
  have k0 : (Cond.constantLong RX9 137 (100)).before args s = true := hts _ (List.mem_of_getElem? (i := 2) rfl)
  have k1 : (Cond.fieldLink RX9 13 "KingRansomModel" "st" "[I").before args s = true := hts _ (List.mem_of_getElem? (i := 4) rfl)
  have k2 : (Cond.constant RX9 54 (-1000000002)).before args s = true := hts _ (List.mem_of_getElem? (i := 3) rfl)
  have k3 : (Cond.constant RX9 126 (-1000000001)).before args s = true := hts _ (List.mem_of_getElem? (i := 1) rfl)
  unfold pX9_rate at hres
  refine lv_aload_n hx hb dX9_rate_0 rfl (lv_at hl 0 rfl) ?_
  refine lv_iload_n hx hb dX9_rate_1 rfl (lv_at hl 1 rfl) ?_
  obtain ⟨r1, hc2, hres⟩ := kb1_s hres
  refine krI_V (As := [.int x1]) (rest := []) (wr := []) ⟨hx, hb, hml, hown, hts⟩ hK (tX9_isPayer l D κ moo mo_toldA mo_stA mo_textA mo_readA mo_aheadA mo_asideA mo_weighingsA mo_bookA mo_isKeptA mo_keptA mo_seedsA mo_told mo_st mo_isThere mo_seed mo_text mo_typed mo_faultAt mo_place mo_wrong mo_value mo_read mo_ahead mo_undoMany mo_aside mo_weighings mo_weighed mo_book mo_entries mo_isKept mo_kept mo_seeds x1 r1 hc2) (cwV 1 hts gX9_rate_X9_isPayer rfl rfl rfl (by decide +kernel) ⟨(Nat.le_of_ble_eq_true rfl), (Nat.le_of_ble_eq_true rfl)⟩) rfl rfl rfl hP hD hS hA [0, 1, 2, 3, 4, 5, 6, 7, 8, 9, 10, 11] [] rfl rfl rfl rfl (by decide) rfl hl.1 rfl (Nat.le_of_ble_eq_true rfl) dX9_rate_2 ⟨Nat.zero_le _, Nat.zero_le _⟩ (fun H locs hP hD hS => ?_)
  have hP : va_P D vwCl ([(moo, .inr (9, [.ref mo_toldA, .ref mo_stA, .int mo_isThere, .int mo_seed, .ref mo_textA, .int mo_typed, .int mo_faultAt, .int mo_place, .int mo_wrong, .int mo_value, .ref mo_readA, .ref mo_aheadA, .int mo_undoMany, .ref mo_asideA, .ref mo_weighingsA, .int mo_weighed, .ref mo_bookA, .int mo_entries, .ref mo_isKeptA, .ref mo_keptA, .ref mo_seedsA])), (mo_toldA, .inl (κ 0, 37, .inl mo_told)), (mo_stA, .inl (κ 0, 17, .inl mo_st)), (mo_textA, .inl (κ 0, 240, .inl mo_text)), (mo_readA, .inl (κ 0, 37, .inl mo_read)), (mo_aheadA, .inl (κ 0, 340, .inl mo_ahead)), (mo_asideA, .inl (κ 0, 17, .inl mo_aside)), (mo_weighingsA, .inl (κ 0, 12, .inl mo_weighings)), (mo_bookA, .inl (κ 0, 30, .inl mo_book)), (mo_isKeptA, .inl (κ 1, 2, .inl mo_isKept)), (mo_keptA, .inl (κ 0, 34, .inl mo_kept)), (mo_seedsA, .inl (κ 0, 2, .inl mo_seeds))]) H := hP
  have hD : va_D A ([(moo, .inr (9, [.ref mo_toldA, .ref mo_stA, .int mo_isThere, .int mo_seed, .ref mo_textA, .int mo_typed, .int mo_faultAt, .int mo_place, .int mo_wrong, .int mo_value, .ref mo_readA, .ref mo_aheadA, .int mo_undoMany, .ref mo_asideA, .ref mo_weighingsA, .int mo_weighed, .ref mo_bookA, .int mo_entries, .ref mo_isKeptA, .ref mo_keptA, .ref mo_seedsA])), (mo_toldA, .inl (κ 0, 37, .inl mo_told)), (mo_stA, .inl (κ 0, 17, .inl mo_st)), (mo_textA, .inl (κ 0, 240, .inl mo_text)), (mo_readA, .inl (κ 0, 37, .inl mo_read)), (mo_aheadA, .inl (κ 0, 340, .inl mo_ahead)), (mo_asideA, .inl (κ 0, 17, .inl mo_aside)), (mo_weighingsA, .inl (κ 0, 12, .inl mo_weighings)), (mo_bookA, .inl (κ 0, 30, .inl mo_book)), (mo_isKeptA, .inl (κ 1, 2, .inl mo_isKept)), (mo_keptA, .inl (κ 0, 34, .inl mo_kept)), (mo_seedsA, .inl (κ 0, 2, .inl mo_seeds))]) := hD
  refine lv_if_ne (tgt := 11) hx hb dX9_rate_5 (by decide) (fun c3 => ?_) (fun c3 => ?_)
  · replace hres := og_f c3 hres
    refine lv_iload_n hx hb dX9_rate_11 rfl (lv_at hl 2 rfl) ?_
    refine lv_i2l (v := x2.toInt64) hx hb dX9_rate_12 rfl ?_
    refine lv_lconst (v := 0) hx hb dX9_rate_13 (by decide) ?_
    refine lv_ldc2 (v := 100) hx hb hown k0 dX9_rate_14 ?_
    obtain ⟨r4, hc5, hres⟩ := kb1_s hres
    refine krI_S0 (As := [.long (x2.toInt64), .long 0, .long 100]) (rest := []) ⟨hx, hb, hml, hown, hts⟩ hK (tX9_in l D κ (x2.toInt64) 0 100 r4 hc5) (va_cwS 3 hts gX9_rate_X9_in rfl rfl rfl (by decide +kernel) ⟨(Nat.le_of_ble_eq_true rfl), (Nat.le_of_ble_eq_true rfl)⟩) hP hD hS hA rfl hl.1 rfl (Nat.le_of_ble_eq_true rfl) dX9_rate_17 ⟨Nat.zero_le _, Nat.zero_le _⟩ (fun H locs hP hD hS => ?_)
    refine lv_if_ne (tgt := 26) hx hb dX9_rate_20 (by decide) (fun c6 => ?_) (fun c6 => ?_)
    · replace hres := og_f c6 hres
      refine lv_aload_n hx hb dX9_rate_26 rfl (lv_at hl 0 rfl) ?_
      obtain ⟨w7, w8, hc9, hres⟩ := kb2_s hres
      refine krV_V (As := []) (rest := []) (wr := []) ⟨hx, hb, hml, hown, hts⟩ hK (tX9_note l D κ moo mo_toldA mo_stA mo_textA mo_readA mo_aheadA mo_asideA mo_weighingsA mo_bookA mo_isKeptA mo_keptA mo_seedsA N mo_told mo_st mo_isThere mo_seed mo_text mo_typed mo_faultAt mo_place mo_wrong mo_value mo_read mo_ahead mo_undoMany mo_aside mo_weighings mo_weighed mo_book mo_entries mo_isKept mo_kept mo_seeds w7 w8 hc9) (cwV 0 hts gX9_rate_X9_note rfl rfl rfl (by decide +kernel) ⟨(Nat.le_of_ble_eq_true rfl), (Nat.le_of_ble_eq_true rfl)⟩) rfl rfl rfl hP hD hS hA [0, 1, 2, 3, 4, 5, 6, 7, 8, 9, 10, 11] [] rfl rfl rfl rfl (by decide) rfl hl.1 rfl (Nat.le_of_ble_eq_true rfl) dX9_rate_27 ⟨Nat.zero_le _, Nat.zero_le _⟩ (fun H locs hP hD hS => ?_)
      have hP : va_P D vwCl ([(moo, .inr (9, [.ref mo_toldA, .ref mo_stA, .int mo_isThere, .int mo_seed, .ref mo_textA, .int mo_typed, .int mo_faultAt, .int mo_place, .int mo_wrong, .int mo_value, .ref mo_readA, .ref mo_aheadA, .int w8, .ref mo_asideA, .ref mo_weighingsA, .int mo_weighed, .ref mo_bookA, .int mo_entries, .ref mo_isKeptA, .ref mo_keptA, .ref mo_seedsA])), (mo_toldA, .inl (κ 0, 37, .inl mo_told)), (mo_stA, .inl (κ 0, 17, .inl mo_st)), (mo_textA, .inl (κ 0, 240, .inl mo_text)), (mo_readA, .inl (κ 0, 37, .inl mo_read)), (mo_aheadA, .inl (κ 0, 340, .inl w7)), (mo_asideA, .inl (κ 0, 17, .inl mo_aside)), (mo_weighingsA, .inl (κ 0, 12, .inl mo_weighings)), (mo_bookA, .inl (κ 0, 30, .inl mo_book)), (mo_isKeptA, .inl (κ 1, 2, .inl mo_isKept)), (mo_keptA, .inl (κ 0, 34, .inl mo_kept)), (mo_seedsA, .inl (κ 0, 2, .inl mo_seeds))]) H := hP
      have hD : va_D A ([(moo, .inr (9, [.ref mo_toldA, .ref mo_stA, .int mo_isThere, .int mo_seed, .ref mo_textA, .int mo_typed, .int mo_faultAt, .int mo_place, .int mo_wrong, .int mo_value, .ref mo_readA, .ref mo_aheadA, .int w8, .ref mo_asideA, .ref mo_weighingsA, .int mo_weighed, .ref mo_bookA, .int mo_entries, .ref mo_isKeptA, .ref mo_keptA, .ref mo_seedsA])), (mo_toldA, .inl (κ 0, 37, .inl mo_told)), (mo_stA, .inl (κ 0, 17, .inl mo_st)), (mo_textA, .inl (κ 0, 240, .inl mo_text)), (mo_readA, .inl (κ 0, 37, .inl mo_read)), (mo_aheadA, .inl (κ 0, 340, .inl w7)), (mo_asideA, .inl (κ 0, 17, .inl mo_aside)), (mo_weighingsA, .inl (κ 0, 12, .inl mo_weighings)), (mo_bookA, .inl (κ 0, 30, .inl mo_book)), (mo_isKeptA, .inl (κ 1, 2, .inl mo_isKept)), (mo_keptA, .inl (κ 0, 34, .inl mo_kept)), (mo_seedsA, .inl (κ 0, 2, .inl mo_seeds))]) := hD
      refine lv_aload_n hx hb dX9_rate_30 rfl (lv_at hl 0 rfl) ?_
      refine va_get (D := D) (ci := 9) (v := .ref mo_stA) (C := RX9) (T := TX9) (N := 21) hx hb hts iw9 hown hK.1 hP 0 rfl rfl 1 (by decide) k1 (fun _ h9 => h9) rfl dX9_rate_31 ?_
      refine lv_bipush (v := 6) hx hb dX9_rate_34 (by decide) ?_
      refine lv_iload_n hx hb dX9_rate_36 rfl (lv_at hl 1 rfl) ?_
      refine lv_iadd hx hb dX9_rate_37 ?_
      obtain ⟨g10, hres⟩ := og_no hres
      refine kr_iald (f := mo_st) (j := (6 + x1).toNatClampNeg) hx hb hK hP 2 rfl g10 rfl dX9_rate_38 ?_
      obtain ⟨y11, ey11, hres⟩ := kl_s hres
      refine kr_tope ey11 ?_
      refine lv_istore_n (lv' := [(3, .int y11), (0, .ref moo), (1, .int x1), (2, .int x2)]) hx hb dX9_rate_39 rfl hl (by decide) rfl (fun ls hl => ?_)
      refine lv_aload_n hx hb dX9_rate_40 rfl (lv_at hl 1 rfl) ?_
      refine va_get (D := D) (ci := 9) (v := .ref mo_stA) (C := RX9) (T := TX9) (N := 21) hx hb hts iw9 hown hK.1 hP 0 rfl rfl 1 (by decide) k1 (fun _ h9 => h9) rfl dX9_rate_41 ?_
      refine lv_bipush (v := 6) hx hb dX9_rate_44 (by decide) ?_
      refine lv_iload_n hx hb dX9_rate_46 rfl (lv_at hl 2 rfl) ?_
      refine lv_iadd hx hb dX9_rate_47 ?_
      refine lv_iload_n hx hb dX9_rate_48 rfl (lv_at hl 3 rfl) ?_
      refine kr_iast (f := mo_st) (j := (6 + x1).toNatClampNeg) (x := x2) hx hb hK hP hD hS 2 rfl g10 rfl dX9_rate_49 (fun H locs hP hD hS => ?_)
      have hP : va_P D vwCl ([(moo, .inr (9, [.ref mo_toldA, .ref mo_stA, .int mo_isThere, .int mo_seed, .ref mo_textA, .int mo_typed, .int mo_faultAt, .int mo_place, .int mo_wrong, .int mo_value, .ref mo_readA, .ref mo_aheadA, .int w8, .ref mo_asideA, .ref mo_weighingsA, .int mo_weighed, .ref mo_bookA, .int mo_entries, .ref mo_isKeptA, .ref mo_keptA, .ref mo_seedsA])), (mo_toldA, .inl (κ 0, 37, .inl mo_told)), (mo_stA, .inl (κ 0, 17, .inl (upd mo_st ((6 + x1).toNatClampNeg) x2))), (mo_textA, .inl (κ 0, 240, .inl mo_text)), (mo_readA, .inl (κ 0, 37, .inl mo_read)), (mo_aheadA, .inl (κ 0, 340, .inl w7)), (mo_asideA, .inl (κ 0, 17, .inl mo_aside)), (mo_weighingsA, .inl (κ 0, 12, .inl mo_weighings)), (mo_bookA, .inl (κ 0, 30, .inl mo_book)), (mo_isKeptA, .inl (κ 1, 2, .inl mo_isKept)), (mo_keptA, .inl (κ 0, 34, .inl mo_kept)), (mo_seedsA, .inl (κ 0, 2, .inl mo_seeds))]) H := hP
      have hD : va_D A ([(moo, .inr (9, [.ref mo_toldA, .ref mo_stA, .int mo_isThere, .int mo_seed, .ref mo_textA, .int mo_typed, .int mo_faultAt, .int mo_place, .int mo_wrong, .int mo_value, .ref mo_readA, .ref mo_aheadA, .int w8, .ref mo_asideA, .ref mo_weighingsA, .int mo_weighed, .ref mo_bookA, .int mo_entries, .ref mo_isKeptA, .ref mo_keptA, .ref mo_seedsA])), (mo_toldA, .inl (κ 0, 37, .inl mo_told)), (mo_stA, .inl (κ 0, 17, .inl (upd mo_st ((6 + x1).toNatClampNeg) x2))), (mo_textA, .inl (κ 0, 240, .inl mo_text)), (mo_readA, .inl (κ 0, 37, .inl mo_read)), (mo_aheadA, .inl (κ 0, 340, .inl w7)), (mo_asideA, .inl (κ 0, 17, .inl mo_aside)), (mo_weighingsA, .inl (κ 0, 12, .inl mo_weighings)), (mo_bookA, .inl (κ 0, 30, .inl mo_book)), (mo_isKeptA, .inl (κ 1, 2, .inl mo_isKept)), (mo_keptA, .inl (κ 0, 34, .inl mo_kept)), (mo_seedsA, .inl (κ 0, 2, .inl mo_seeds))]) := hD
      refine lv_iload_n hx hb dX9_rate_50 rfl (lv_at hl 0 rfl) ?_
      have hres := Option.some.inj hres
      have h0 := (Prod.mk.inj hres).1
      replace hres := (Prod.mk.inj hres).2
      have h1 := (Prod.mk.inj hres).1
      replace hres := (Prod.mk.inj hres).2
      have h2 := (Prod.mk.inj hres).1
      replace hres := (Prod.mk.inj hres).2
      have h3 := hres
      subst h0
      subst h1
      subst h2
      subst h3
      exact hret _ _ _ _ (vp_nar_int _) hP hD hS dX9_rate_51
    · replace hres := og_t c6 hres
      refine lv_ldc (v := (-1000000002)) hx hb hown k2 dX9_rate_23 ?_
      have hres := Option.some.inj hres
      have h0 := (Prod.mk.inj hres).1
      replace hres := (Prod.mk.inj hres).2
      have h1 := (Prod.mk.inj hres).1
      replace hres := (Prod.mk.inj hres).2
      have h2 := (Prod.mk.inj hres).1
      replace hres := (Prod.mk.inj hres).2
      have h3 := hres
      subst h0
      subst h1
      subst h2
      subst h3
      exact hret _ _ _ _ (vp_nar_int _) hP hD hS dX9_rate_25
  · replace hres := og_t c3 hres
    refine lv_ldc (v := (-1000000001)) hx hb hown k3 dX9_rate_8 ?_
    have hres := Option.some.inj hres
    have h0 := (Prod.mk.inj hres).1
    replace hres := (Prod.mk.inj hres).2
    have h1 := (Prod.mk.inj hres).1
    replace hres := (Prod.mk.inj hres).2
    have h2 := (Prod.mk.inj hres).1
    replace hres := (Prod.mk.inj hres).2
    have h3 := hres
    subst h0
    subst h1
    subst h2
    subst h3
    exact hret _ _ _ _ (vp_nar_int _) hP hD hS dX9_rate_10

def pX9_lacksTime (x1 : Int32) (mo_st : Nat → Int32) (mo_isThere : Int32) : Option (Int32) :=
    kb1 (pX9_in (x1.toInt64) 1 24) fun r1 =>
    (if r1 = 0 then
    some ((-1000000002))
    else
    kb1 (pX9_isHeld mo_st mo_isThere) fun r4 =>
    (if r4 = 0 then
    some ((-1000000003))
    else
    (if (mo_st 13) ≤ 9000 then
    some (0)
    else
    some ((-1000000004)))))
set_option maxHeartbeats 8000000 in
set_option maxRecDepth 100000 in
theorem tX9_lacksTime (l : Launch) (D : va_G) (κ : Nat → ClassId) (moo : Nat) (mo_toldA : Nat) (mo_stA : Nat) (mo_textA : Nat) (mo_readA : Nat) (mo_aheadA : Nat) (mo_asideA : Nat) (mo_weighingsA : Nat) (mo_bookA : Nat) (mo_isKeptA : Nat) (mo_keptA : Nat) (mo_seedsA : Nat) (mo_told : Nat → Int32) (mo_st : Nat → Int32) (mo_isThere : Int32) (mo_seed : Int32) (mo_text : Nat → Int32) (mo_typed : Int32) (mo_faultAt : Int32) (mo_place : Int32) (mo_wrong : Int32) (mo_value : Int32) (mo_read : Nat → Int32) (mo_ahead : Nat → Int32) (mo_undoMany : Int32) (mo_aside : Nat → Int32) (mo_weighings : Nat → Int32) (mo_weighed : Int32) (mo_book : Nat → Int32) (mo_entries : Int32) (mo_isKept : Nat → Int32) (mo_kept : Nat → Int32) (mo_seeds : Nat → Int32) (x1 : Int32) (r0 : Int32) (hres : pX9_lacksTime x1 mo_st mo_isThere = some (r0)) : krI l yX9_lacksTime wsX9_lacksTime { frames := 1, cells := 0, slots := 0, locals := 100 } D κ [.ref moo, .int x1] ([(moo, .inr (9, [.ref mo_toldA, .ref mo_stA, .int mo_isThere, .int mo_seed, .ref mo_textA, .int mo_typed, .int mo_faultAt, .int mo_place, .int mo_wrong, .int mo_value, .ref mo_readA, .ref mo_aheadA, .int mo_undoMany, .ref mo_asideA, .ref mo_weighingsA, .int mo_weighed, .ref mo_bookA, .int mo_entries, .ref mo_isKeptA, .ref mo_keptA, .ref mo_seedsA])), (mo_toldA, .inl (κ 0, 37, .inl mo_told)), (mo_stA, .inl (κ 0, 17, .inl mo_st)), (mo_textA, .inl (κ 0, 240, .inl mo_text)), (mo_readA, .inl (κ 0, 37, .inl mo_read)), (mo_aheadA, .inl (κ 0, 340, .inl mo_ahead)), (mo_asideA, .inl (κ 0, 17, .inl mo_aside)), (mo_weighingsA, .inl (κ 0, 12, .inl mo_weighings)), (mo_bookA, .inl (κ 0, 30, .inl mo_book)), (mo_isKeptA, .inl (κ 1, 2, .inl mo_isKept)), (mo_keptA, .inl (κ 0, 34, .inl mo_kept)), (mo_seedsA, .inl (κ 0, 2, .inl mo_seeds))]) ([(moo, .inr (9, [.ref mo_toldA, .ref mo_stA, .int mo_isThere, .int mo_seed, .ref mo_textA, .int mo_typed, .int mo_faultAt, .int mo_place, .int mo_wrong, .int mo_value, .ref mo_readA, .ref mo_aheadA, .int mo_undoMany, .ref mo_asideA, .ref mo_weighingsA, .int mo_weighed, .ref mo_bookA, .int mo_entries, .ref mo_isKeptA, .ref mo_keptA, .ref mo_seedsA])), (mo_toldA, .inl (κ 0, 37, .inl mo_told)), (mo_stA, .inl (κ 0, 17, .inl mo_st)), (mo_textA, .inl (κ 0, 240, .inl mo_text)), (mo_readA, .inl (κ 0, 37, .inl mo_read)), (mo_aheadA, .inl (κ 0, 340, .inl mo_ahead)), (mo_asideA, .inl (κ 0, 17, .inl mo_aside)), (mo_weighingsA, .inl (κ 0, 12, .inl mo_weighings)), (mo_bookA, .inl (κ 0, 30, .inl mo_book)), (mo_isKeptA, .inl (κ 1, 2, .inl mo_isKept)), (mo_keptA, .inl (κ 0, 34, .inl mo_kept)), (mo_seedsA, .inl (κ 0, 2, .inl mo_seeds))]) r0 := by
  refine krI_of (cc := cX9_lacksTime) (maxL := 2) (rt := .int) (by decide) rfl (Nat.le_of_ble_eq_true rfl) ?_
  intro p e s m args below meth c A Q ls hx hb hml hown hts hK hA hret hP hD hS hl
  have hown : s.vm.findClass RX9 = some m.cls := hown
  have hl : lv_has ls 2 [(0, .ref moo), (1, .int x1)] := hl
  have iw9 : ∀ w ∈ u_ws RX9 TX9 21, w ∈ wsX9_lacksTime := (fun _ h => List.mem_cons_of_mem _ (List.mem_append_right _ h))
  have k0 : (Cond.constantLong RX9 142 (24)).before args s = true := hts _ (List.mem_of_getElem? (i := 1) rfl)
  have k1 : (Cond.fieldLink RX9 13 "KingRansomModel" "st" "[I").before args s = true := hts _ (List.mem_of_getElem? (i := 4) rfl)
  have k2 : (Cond.constant RX9 58 (-1000000004)).before args s = true := hts _ (List.mem_of_getElem? (i := 5) rfl)
  have k3 : (Cond.constant RX9 147 (-1000000003)).before args s = true := hts _ (List.mem_of_getElem? (i := 3) rfl)
  have k4 : (Cond.constant RX9 54 (-1000000002)).before args s = true := hts _ (List.mem_of_getElem? (i := 2) rfl)
  unfold pX9_lacksTime at hres
  refine lv_iload_n hx hb dX9_lacksTime_0 rfl (lv_at hl 1 rfl) ?_
  refine lv_i2l (v := x1.toInt64) hx hb dX9_lacksTime_1 rfl ?_
  refine lv_lconst (v := 1) hx hb dX9_lacksTime_2 (by decide) ?_
  refine lv_ldc2 (v := 24) hx hb hown k0 dX9_lacksTime_3 ?_
  obtain ⟨r1, hc2, hres⟩ := kb1_s hres
  refine krI_S0 (As := [.long (x1.toInt64), .long 1, .long 24]) (rest := []) ⟨hx, hb, hml, hown, hts⟩ hK (tX9_in l D κ (x1.toInt64) 1 24 r1 hc2) (va_cwS 3 hts gX9_lacksTime_X9_in rfl rfl rfl (by decide +kernel) ⟨(Nat.le_of_ble_eq_true rfl), (Nat.le_of_ble_eq_true rfl)⟩) hP hD hS hA rfl hl.1 rfl (Nat.le_of_ble_eq_true rfl) dX9_lacksTime_6 ⟨Nat.zero_le _, Nat.zero_le _⟩ (fun H locs hP hD hS => ?_)
  refine lv_if_ne (tgt := 17) hx hb dX9_lacksTime_9 (by decide) (fun c3 => ?_) (fun c3 => ?_)
  · replace hres := og_f c3 hres
    refine lv_aload_n hx hb dX9_lacksTime_17 rfl (lv_at hl 0 rfl) ?_
    obtain ⟨r4, hc5, hres⟩ := kb1_s hres
    refine krI_V (As := []) (rest := []) (wr := []) ⟨hx, hb, hml, hown, hts⟩ hK (tX9_isHeld l D κ moo mo_toldA mo_stA mo_textA mo_readA mo_aheadA mo_asideA mo_weighingsA mo_bookA mo_isKeptA mo_keptA mo_seedsA mo_told mo_st mo_isThere mo_seed mo_text mo_typed mo_faultAt mo_place mo_wrong mo_value mo_read mo_ahead mo_undoMany mo_aside mo_weighings mo_weighed mo_book mo_entries mo_isKept mo_kept mo_seeds r4 hc5) (cwV 0 hts gX9_lacksTime_X9_isHeld rfl rfl rfl (by decide +kernel) ⟨(Nat.le_of_ble_eq_true rfl), (Nat.le_of_ble_eq_true rfl)⟩) rfl rfl rfl hP hD hS hA [0, 1, 2, 3, 4, 5, 6, 7, 8, 9, 10, 11] [] rfl rfl rfl rfl (by decide) rfl hl.1 rfl (Nat.le_of_ble_eq_true rfl) dX9_lacksTime_18 ⟨Nat.zero_le _, Nat.zero_le _⟩ (fun H locs hP hD hS => ?_)
    have hP : va_P D vwCl ([(moo, .inr (9, [.ref mo_toldA, .ref mo_stA, .int mo_isThere, .int mo_seed, .ref mo_textA, .int mo_typed, .int mo_faultAt, .int mo_place, .int mo_wrong, .int mo_value, .ref mo_readA, .ref mo_aheadA, .int mo_undoMany, .ref mo_asideA, .ref mo_weighingsA, .int mo_weighed, .ref mo_bookA, .int mo_entries, .ref mo_isKeptA, .ref mo_keptA, .ref mo_seedsA])), (mo_toldA, .inl (κ 0, 37, .inl mo_told)), (mo_stA, .inl (κ 0, 17, .inl mo_st)), (mo_textA, .inl (κ 0, 240, .inl mo_text)), (mo_readA, .inl (κ 0, 37, .inl mo_read)), (mo_aheadA, .inl (κ 0, 340, .inl mo_ahead)), (mo_asideA, .inl (κ 0, 17, .inl mo_aside)), (mo_weighingsA, .inl (κ 0, 12, .inl mo_weighings)), (mo_bookA, .inl (κ 0, 30, .inl mo_book)), (mo_isKeptA, .inl (κ 1, 2, .inl mo_isKept)), (mo_keptA, .inl (κ 0, 34, .inl mo_kept)), (mo_seedsA, .inl (κ 0, 2, .inl mo_seeds))]) H := hP
    have hD : va_D A ([(moo, .inr (9, [.ref mo_toldA, .ref mo_stA, .int mo_isThere, .int mo_seed, .ref mo_textA, .int mo_typed, .int mo_faultAt, .int mo_place, .int mo_wrong, .int mo_value, .ref mo_readA, .ref mo_aheadA, .int mo_undoMany, .ref mo_asideA, .ref mo_weighingsA, .int mo_weighed, .ref mo_bookA, .int mo_entries, .ref mo_isKeptA, .ref mo_keptA, .ref mo_seedsA])), (mo_toldA, .inl (κ 0, 37, .inl mo_told)), (mo_stA, .inl (κ 0, 17, .inl mo_st)), (mo_textA, .inl (κ 0, 240, .inl mo_text)), (mo_readA, .inl (κ 0, 37, .inl mo_read)), (mo_aheadA, .inl (κ 0, 340, .inl mo_ahead)), (mo_asideA, .inl (κ 0, 17, .inl mo_aside)), (mo_weighingsA, .inl (κ 0, 12, .inl mo_weighings)), (mo_bookA, .inl (κ 0, 30, .inl mo_book)), (mo_isKeptA, .inl (κ 1, 2, .inl mo_isKept)), (mo_keptA, .inl (κ 0, 34, .inl mo_kept)), (mo_seedsA, .inl (κ 0, 2, .inl mo_seeds))]) := hD
    refine lv_if_ne (tgt := 29) hx hb dX9_lacksTime_21 (by decide) (fun c6 => ?_) (fun c6 => ?_)
    · replace hres := og_f c6 hres
      refine lv_aload_n hx hb dX9_lacksTime_29 rfl (lv_at hl 0 rfl) ?_
      refine va_get (D := D) (ci := 9) (v := .ref mo_stA) (C := RX9) (T := TX9) (N := 21) hx hb hts iw9 hown hK.1 hP 0 rfl rfl 1 (by decide) k1 (fun _ h9 => h9) rfl dX9_lacksTime_30 ?_
      refine lv_bipush (v := 13) hx hb dX9_lacksTime_33 (by decide) ?_
      refine kr_iald (f := mo_st) (j := 13) hx hb hK hP 2 rfl (by decide) (by decide) dX9_lacksTime_35 ?_
      refine lv_sipush (v := 9000) hx hb dX9_lacksTime_36 (by decide) ?_
      refine lv_icmp_le (tgt := 47) hx hb dX9_lacksTime_39 (by decide) (fun c7 => ?_) (fun c7 => ?_)
      · replace hres := og_t c7 hres
        refine lv_iconst (v := 0) hx hb dX9_lacksTime_47 (by decide) ?_
        have hres := Option.some.inj hres
        have h0 := hres
        subst h0
        exact hret _ _ _ _ (vp_nar_int _) hP hD hS dX9_lacksTime_48
      · replace hres := og_f c7 hres
        refine lv_ldc (v := (-1000000004)) hx hb hown k2 dX9_lacksTime_42 ?_
        refine lv_goto (tgt := 48) hx hb dX9_lacksTime_44 (by decide) ?_
        have hres := Option.some.inj hres
        have h0 := hres
        subst h0
        exact hret _ _ _ _ (vp_nar_int _) hP hD hS dX9_lacksTime_48
    · replace hres := og_t c6 hres
      refine lv_ldc (v := (-1000000003)) hx hb hown k3 dX9_lacksTime_24 ?_
      refine lv_goto (tgt := 48) hx hb dX9_lacksTime_26 (by decide) ?_
      have hres := Option.some.inj hres
      have h0 := hres
      subst h0
      exact hret _ _ _ _ (vp_nar_int _) hP hD hS dX9_lacksTime_48
  · replace hres := og_t c3 hres
    refine lv_ldc (v := (-1000000002)) hx hb hown k4 dX9_lacksTime_12 ?_
    refine lv_goto (tgt := 48) hx hb dX9_lacksTime_14 (by decide) ?_
    have hres := Option.some.inj hres
    have h0 := hres
    subst h0
    exact hret _ _ _ _ (vp_nar_int _) hP hD hS dX9_lacksTime_48

def pX9_month_L18 (N : Nat) (x1 : Int32) (mo_told : Nat → Int32) : Nat → Int32 → (Nat → Int32) → (Nat → Int32) → Int32 → Option (Int32 × (Nat → Int32) × (Nat → Int32) × Int32)
  | 0, _, _, _, _ => none
  | n18 + 1, v3, w_mo_st, w_mo_ahead, w_mo_undoMany =>
    (if x1 ≤ v3 then
    some ((w_mo_st 12), w_mo_st, w_mo_ahead, w_mo_undoMany)
    else
    kb1 (pX9_oneMonth N mo_told w_mo_st) fun w8 =>
    pX9_month_L18 N x1 mo_told n18 (v3 + 1) w8 w_mo_ahead w_mo_undoMany)
def pX9_month (N : Nat) (x1 : Int32) (mo_told : Nat → Int32) (mo_st : Nat → Int32) (mo_isThere : Int32) (mo_ahead : Nat → Int32) (mo_undoMany : Int32) : Option (Int32 × (Nat → Int32) × (Nat → Int32) × Int32) :=
    kb1 (pX9_lacksTime x1 mo_st mo_isThere) fun r1 =>
    (if 0 ≤ r1 then
    kb2 (pX9_note N mo_st mo_ahead mo_undoMany) fun w4 w5 =>
    pX9_month_L18 N x1 mo_told N 0 mo_st w4 w5
    else
    some (r1, mo_st, mo_ahead, mo_undoMany))
set_option maxHeartbeats 8000000 in
set_option maxRecDepth 100000 in
theorem tX9_month (l : Launch) (D : va_G) (κ : Nat → ClassId) (moo : Nat) (mo_toldA : Nat) (mo_stA : Nat) (mo_textA : Nat) (mo_readA : Nat) (mo_aheadA : Nat) (mo_asideA : Nat) (mo_weighingsA : Nat) (mo_bookA : Nat) (mo_isKeptA : Nat) (mo_keptA : Nat) (mo_seedsA : Nat) (N : Nat) (mo_told : Nat → Int32) (mo_st : Nat → Int32) (mo_isThere : Int32) (mo_seed : Int32) (mo_text : Nat → Int32) (mo_typed : Int32) (mo_faultAt : Int32) (mo_place : Int32) (mo_wrong : Int32) (mo_value : Int32) (mo_read : Nat → Int32) (mo_ahead : Nat → Int32) (mo_undoMany : Int32) (mo_aside : Nat → Int32) (mo_weighings : Nat → Int32) (mo_weighed : Int32) (mo_book : Nat → Int32) (mo_entries : Int32) (mo_isKept : Nat → Int32) (mo_kept : Nat → Int32) (mo_seeds : Nat → Int32) (x1 : Int32) (r0 : Int32) (z_mo_st : Nat → Int32) (z_mo_ahead : Nat → Int32) (z_mo_undoMany : Int32) (hres : pX9_month N x1 mo_told mo_st mo_isThere mo_ahead mo_undoMany = some (r0, z_mo_st, z_mo_ahead, z_mo_undoMany)) : krI l yX9_month wsX9_month { frames := 3, cells := 0, slots := 0, locals := 300 } D κ [.ref moo, .int x1] ([(moo, .inr (9, [.ref mo_toldA, .ref mo_stA, .int mo_isThere, .int mo_seed, .ref mo_textA, .int mo_typed, .int mo_faultAt, .int mo_place, .int mo_wrong, .int mo_value, .ref mo_readA, .ref mo_aheadA, .int mo_undoMany, .ref mo_asideA, .ref mo_weighingsA, .int mo_weighed, .ref mo_bookA, .int mo_entries, .ref mo_isKeptA, .ref mo_keptA, .ref mo_seedsA])), (mo_toldA, .inl (κ 0, 37, .inl mo_told)), (mo_stA, .inl (κ 0, 17, .inl mo_st)), (mo_textA, .inl (κ 0, 240, .inl mo_text)), (mo_readA, .inl (κ 0, 37, .inl mo_read)), (mo_aheadA, .inl (κ 0, 340, .inl mo_ahead)), (mo_asideA, .inl (κ 0, 17, .inl mo_aside)), (mo_weighingsA, .inl (κ 0, 12, .inl mo_weighings)), (mo_bookA, .inl (κ 0, 30, .inl mo_book)), (mo_isKeptA, .inl (κ 1, 2, .inl mo_isKept)), (mo_keptA, .inl (κ 0, 34, .inl mo_kept)), (mo_seedsA, .inl (κ 0, 2, .inl mo_seeds))]) ([(moo, .inr (9, [.ref mo_toldA, .ref mo_stA, .int mo_isThere, .int mo_seed, .ref mo_textA, .int mo_typed, .int mo_faultAt, .int mo_place, .int mo_wrong, .int mo_value, .ref mo_readA, .ref mo_aheadA, .int z_mo_undoMany, .ref mo_asideA, .ref mo_weighingsA, .int mo_weighed, .ref mo_bookA, .int mo_entries, .ref mo_isKeptA, .ref mo_keptA, .ref mo_seedsA])), (mo_toldA, .inl (κ 0, 37, .inl mo_told)), (mo_stA, .inl (κ 0, 17, .inl z_mo_st)), (mo_textA, .inl (κ 0, 240, .inl mo_text)), (mo_readA, .inl (κ 0, 37, .inl mo_read)), (mo_aheadA, .inl (κ 0, 340, .inl z_mo_ahead)), (mo_asideA, .inl (κ 0, 17, .inl mo_aside)), (mo_weighingsA, .inl (κ 0, 12, .inl mo_weighings)), (mo_bookA, .inl (κ 0, 30, .inl mo_book)), (mo_isKeptA, .inl (κ 1, 2, .inl mo_isKept)), (mo_keptA, .inl (κ 0, 34, .inl mo_kept)), (mo_seedsA, .inl (κ 0, 2, .inl mo_seeds))]) r0 := by
  refine krI_of (cc := cX9_month) (maxL := 4) (rt := .int) (by decide) rfl (Nat.le_of_ble_eq_true rfl) ?_
  intro p e s m args below meth c A Q ls hx hb hml hown hts hK hA hret hP hD hS hl
  have hown : s.vm.findClass RX9 = some m.cls := hown
  have hl : lv_has ls 4 [(0, .ref moo), (1, .int x1)] := hl
  have iw9 : ∀ w ∈ u_ws RX9 TX9 21, w ∈ wsX9_month := (fun _ h => List.mem_cons_of_mem _ (List.mem_append_right _ h))
  have k0 : (Cond.fieldLink RX9 13 "KingRansomModel" "st" "[I").before args s = true := hts _ (List.mem_of_getElem? (i := 1) rfl)
  have L18 : ∀ (n18 : Nat) (v3 : Int32) (w_mo_st : Nat → Int32) (w_mo_ahead : Nat → Int32) (w_mo_undoMany : Int32) (H : Heap) (locs : List Loc) (ls : Array Slot), va_P D vwCl ([(moo, .inr (9, [.ref mo_toldA, .ref mo_stA, .int mo_isThere, .int mo_seed, .ref mo_textA, .int mo_typed, .int mo_faultAt, .int mo_place, .int mo_wrong, .int mo_value, .ref mo_readA, .ref mo_aheadA, .int w_mo_undoMany, .ref mo_asideA, .ref mo_weighingsA, .int mo_weighed, .ref mo_bookA, .int mo_entries, .ref mo_isKeptA, .ref mo_keptA, .ref mo_seedsA])), (mo_toldA, .inl (κ 0, 37, .inl mo_told)), (mo_stA, .inl (κ 0, 17, .inl w_mo_st)), (mo_textA, .inl (κ 0, 240, .inl mo_text)), (mo_readA, .inl (κ 0, 37, .inl mo_read)), (mo_aheadA, .inl (κ 0, 340, .inl w_mo_ahead)), (mo_asideA, .inl (κ 0, 17, .inl mo_aside)), (mo_weighingsA, .inl (κ 0, 12, .inl mo_weighings)), (mo_bookA, .inl (κ 0, 30, .inl mo_book)), (mo_isKeptA, .inl (κ 1, 2, .inl mo_isKept)), (mo_keptA, .inl (κ 0, 34, .inl mo_kept)), (mo_seedsA, .inl (κ 0, 2, .inl mo_seeds))]) H → va_D A ([(moo, .inr (9, [.ref mo_toldA, .ref mo_stA, .int mo_isThere, .int mo_seed, .ref mo_textA, .int mo_typed, .int mo_faultAt, .int mo_place, .int mo_wrong, .int mo_value, .ref mo_readA, .ref mo_aheadA, .int w_mo_undoMany, .ref mo_asideA, .ref mo_weighingsA, .int mo_weighed, .ref mo_bookA, .int mo_entries, .ref mo_isKeptA, .ref mo_keptA, .ref mo_seedsA])), (mo_toldA, .inl (κ 0, 37, .inl mo_told)), (mo_stA, .inl (κ 0, 17, .inl w_mo_st)), (mo_textA, .inl (κ 0, 240, .inl mo_text)), (mo_readA, .inl (κ 0, 37, .inl mo_read)), (mo_aheadA, .inl (κ 0, 340, .inl w_mo_ahead)), (mo_asideA, .inl (κ 0, 17, .inl mo_aside)), (mo_weighingsA, .inl (κ 0, 12, .inl mo_weighings)), (mo_bookA, .inl (κ 0, 30, .inl mo_book)), (mo_isKeptA, .inl (κ 1, 2, .inl mo_isKept)), (mo_keptA, .inl (κ 0, 34, .inl mo_kept)), (mo_seedsA, .inl (κ 0, 2, .inl mo_seeds))]) → va_S A s.heap H locs → lv_has ls 4 [(0, .ref moo), (1, .int x1), (3, .int v3)] → pX9_month_L18 N x1 mo_told n18 v3 w_mo_st w_mo_ahead w_mo_undoMany = some (r0, z_mo_st, z_mo_ahead, z_mo_undoMany) → W p l e { frames := 3, cells := 0, slots := 0, locals := 300 } s m args below meth c H locs 0 0 Q (F0 m 18 ls []) := by
    intro n18
    induction n18 with
    | zero =>
      intro v3 w_mo_st w_mo_ahead w_mo_undoMany H locs ls hP hD hS hl hres
      exact absurd (show none = some _ from hres) (by simp)
    | succ n18 ih18 =>
      intro v3 w_mo_st w_mo_ahead w_mo_undoMany H locs ls hP hD hS hl hres
      rw [pX9_month_L18] at hres
      refine lv_iload_n hx hb dX9_month_18 rfl (lv_at hl 2 rfl) ?_
      refine lv_iload_n hx hb dX9_month_19 rfl (lv_at hl 1 rfl) ?_
      refine lv_icmp_ge (tgt := 33) hx hb dX9_month_20 (by decide) (fun c7 => ?_) (fun c7 => ?_)
      · replace hres := og_t c7 hres
        refine lv_aload_n hx hb dX9_month_33 rfl (lv_at hl 0 rfl) ?_
        refine va_get (D := D) (ci := 9) (v := .ref mo_stA) (C := RX9) (T := TX9) (N := 21) hx hb hts iw9 hown hK.1 hP 0 rfl rfl 1 (by decide) k0 (fun _ h9 => h9) rfl dX9_month_34 ?_
        refine lv_bipush (v := 12) hx hb dX9_month_37 (by decide) ?_
        refine kr_iald (f := w_mo_st) (j := 12) hx hb hK hP 2 rfl (by decide) (by decide) dX9_month_39 ?_
        have hres := Option.some.inj hres
        have h0 := (Prod.mk.inj hres).1
        replace hres := (Prod.mk.inj hres).2
        have h1 := (Prod.mk.inj hres).1
        replace hres := (Prod.mk.inj hres).2
        have h2 := (Prod.mk.inj hres).1
        replace hres := (Prod.mk.inj hres).2
        have h3 := hres
        subst h0
        subst h1
        subst h2
        subst h3
        exact hret _ _ _ _ (vp_nar_int _) hP hD hS dX9_month_40
      · replace hres := og_f c7 hres
        refine lv_aload_n hx hb dX9_month_23 rfl (lv_at hl 0 rfl) ?_
        obtain ⟨w8, hc9, hres⟩ := kb1_s hres
        refine krV_V (As := []) (rest := []) (wr := []) ⟨hx, hb, hml, hown, hts⟩ hK (tX9_oneMonth l D κ moo mo_toldA mo_stA mo_textA mo_readA mo_aheadA mo_asideA mo_weighingsA mo_bookA mo_isKeptA mo_keptA mo_seedsA N mo_told w_mo_st mo_isThere mo_seed mo_text mo_typed mo_faultAt mo_place mo_wrong mo_value mo_read w_mo_ahead w_mo_undoMany mo_aside mo_weighings mo_weighed mo_book mo_entries mo_isKept mo_kept mo_seeds w8 hc9) (cwV 0 hts gX9_month_X9_oneMonth rfl rfl rfl (by decide +kernel) ⟨(Nat.le_of_ble_eq_true rfl), (Nat.le_of_ble_eq_true rfl)⟩) rfl rfl rfl hP hD hS hA [0, 1, 2, 3, 4, 5, 6, 7, 8, 9, 10, 11] [] rfl rfl rfl rfl (by decide) rfl hl.1 rfl (Nat.le_of_ble_eq_true rfl) dX9_month_24 ⟨Nat.zero_le _, Nat.zero_le _⟩ (fun H locs hP hD hS => ?_)
        have hP : va_P D vwCl ([(moo, .inr (9, [.ref mo_toldA, .ref mo_stA, .int mo_isThere, .int mo_seed, .ref mo_textA, .int mo_typed, .int mo_faultAt, .int mo_place, .int mo_wrong, .int mo_value, .ref mo_readA, .ref mo_aheadA, .int w_mo_undoMany, .ref mo_asideA, .ref mo_weighingsA, .int mo_weighed, .ref mo_bookA, .int mo_entries, .ref mo_isKeptA, .ref mo_keptA, .ref mo_seedsA])), (mo_toldA, .inl (κ 0, 37, .inl mo_told)), (mo_stA, .inl (κ 0, 17, .inl w8)), (mo_textA, .inl (κ 0, 240, .inl mo_text)), (mo_readA, .inl (κ 0, 37, .inl mo_read)), (mo_aheadA, .inl (κ 0, 340, .inl w_mo_ahead)), (mo_asideA, .inl (κ 0, 17, .inl mo_aside)), (mo_weighingsA, .inl (κ 0, 12, .inl mo_weighings)), (mo_bookA, .inl (κ 0, 30, .inl mo_book)), (mo_isKeptA, .inl (κ 1, 2, .inl mo_isKept)), (mo_keptA, .inl (κ 0, 34, .inl mo_kept)), (mo_seedsA, .inl (κ 0, 2, .inl mo_seeds))]) H := hP
        have hD : va_D A ([(moo, .inr (9, [.ref mo_toldA, .ref mo_stA, .int mo_isThere, .int mo_seed, .ref mo_textA, .int mo_typed, .int mo_faultAt, .int mo_place, .int mo_wrong, .int mo_value, .ref mo_readA, .ref mo_aheadA, .int w_mo_undoMany, .ref mo_asideA, .ref mo_weighingsA, .int mo_weighed, .ref mo_bookA, .int mo_entries, .ref mo_isKeptA, .ref mo_keptA, .ref mo_seedsA])), (mo_toldA, .inl (κ 0, 37, .inl mo_told)), (mo_stA, .inl (κ 0, 17, .inl w8)), (mo_textA, .inl (κ 0, 240, .inl mo_text)), (mo_readA, .inl (κ 0, 37, .inl mo_read)), (mo_aheadA, .inl (κ 0, 340, .inl w_mo_ahead)), (mo_asideA, .inl (κ 0, 17, .inl mo_aside)), (mo_weighingsA, .inl (κ 0, 12, .inl mo_weighings)), (mo_bookA, .inl (κ 0, 30, .inl mo_book)), (mo_isKeptA, .inl (κ 1, 2, .inl mo_isKept)), (mo_keptA, .inl (κ 0, 34, .inl mo_kept)), (mo_seedsA, .inl (κ 0, 2, .inl mo_seeds))]) := hD
        refine lv_iinc (v := (v3 + 1)) (lv' := [(3, .int (v3 + 1)), (0, .ref moo), (1, .int x1)]) hx hb dX9_month_27 hl (k := 2) rfl rfl (by decide) rfl (fun ls hl => ?_)
        refine lv_goto (tgt := 18) hx hb dX9_month_30 (by decide) ?_
        exact ih18 (v3 + 1) w8 w_mo_ahead w_mo_undoMany _ _ _ hP hD hS (lv_sub hl [1, 2, 0] rfl) hres
  unfold pX9_month at hres
  refine lv_aload_n hx hb dX9_month_0 rfl (lv_at hl 0 rfl) ?_
  refine lv_iload_n hx hb dX9_month_1 rfl (lv_at hl 1 rfl) ?_
  obtain ⟨r1, hc2, hres⟩ := kb1_s hres
  refine krI_V (As := [.int x1]) (rest := []) (wr := []) ⟨hx, hb, hml, hown, hts⟩ hK (tX9_lacksTime l D κ moo mo_toldA mo_stA mo_textA mo_readA mo_aheadA mo_asideA mo_weighingsA mo_bookA mo_isKeptA mo_keptA mo_seedsA mo_told mo_st mo_isThere mo_seed mo_text mo_typed mo_faultAt mo_place mo_wrong mo_value mo_read mo_ahead mo_undoMany mo_aside mo_weighings mo_weighed mo_book mo_entries mo_isKept mo_kept mo_seeds x1 r1 hc2) (cwV 1 hts gX9_month_X9_lacksTime rfl rfl rfl (by decide +kernel) ⟨(Nat.le_of_ble_eq_true rfl), (Nat.le_of_ble_eq_true rfl)⟩) rfl rfl rfl hP hD hS hA [0, 1, 2, 3, 4, 5, 6, 7, 8, 9, 10, 11] [] rfl rfl rfl rfl (by decide) rfl hl.1 rfl (Nat.le_of_ble_eq_true rfl) dX9_month_2 ⟨Nat.zero_le _, Nat.zero_le _⟩ (fun H locs hP hD hS => ?_)
  have hP : va_P D vwCl ([(moo, .inr (9, [.ref mo_toldA, .ref mo_stA, .int mo_isThere, .int mo_seed, .ref mo_textA, .int mo_typed, .int mo_faultAt, .int mo_place, .int mo_wrong, .int mo_value, .ref mo_readA, .ref mo_aheadA, .int mo_undoMany, .ref mo_asideA, .ref mo_weighingsA, .int mo_weighed, .ref mo_bookA, .int mo_entries, .ref mo_isKeptA, .ref mo_keptA, .ref mo_seedsA])), (mo_toldA, .inl (κ 0, 37, .inl mo_told)), (mo_stA, .inl (κ 0, 17, .inl mo_st)), (mo_textA, .inl (κ 0, 240, .inl mo_text)), (mo_readA, .inl (κ 0, 37, .inl mo_read)), (mo_aheadA, .inl (κ 0, 340, .inl mo_ahead)), (mo_asideA, .inl (κ 0, 17, .inl mo_aside)), (mo_weighingsA, .inl (κ 0, 12, .inl mo_weighings)), (mo_bookA, .inl (κ 0, 30, .inl mo_book)), (mo_isKeptA, .inl (κ 1, 2, .inl mo_isKept)), (mo_keptA, .inl (κ 0, 34, .inl mo_kept)), (mo_seedsA, .inl (κ 0, 2, .inl mo_seeds))]) H := hP
  have hD : va_D A ([(moo, .inr (9, [.ref mo_toldA, .ref mo_stA, .int mo_isThere, .int mo_seed, .ref mo_textA, .int mo_typed, .int mo_faultAt, .int mo_place, .int mo_wrong, .int mo_value, .ref mo_readA, .ref mo_aheadA, .int mo_undoMany, .ref mo_asideA, .ref mo_weighingsA, .int mo_weighed, .ref mo_bookA, .int mo_entries, .ref mo_isKeptA, .ref mo_keptA, .ref mo_seedsA])), (mo_toldA, .inl (κ 0, 37, .inl mo_told)), (mo_stA, .inl (κ 0, 17, .inl mo_st)), (mo_textA, .inl (κ 0, 240, .inl mo_text)), (mo_readA, .inl (κ 0, 37, .inl mo_read)), (mo_aheadA, .inl (κ 0, 340, .inl mo_ahead)), (mo_asideA, .inl (κ 0, 17, .inl mo_aside)), (mo_weighingsA, .inl (κ 0, 12, .inl mo_weighings)), (mo_bookA, .inl (κ 0, 30, .inl mo_book)), (mo_isKeptA, .inl (κ 1, 2, .inl mo_isKept)), (mo_keptA, .inl (κ 0, 34, .inl mo_kept)), (mo_seedsA, .inl (κ 0, 2, .inl mo_seeds))]) := hD
  refine lv_istore_n (lv' := [(2, .int r1), (0, .ref moo), (1, .int x1)]) hx hb dX9_month_5 rfl hl (by decide) rfl (fun ls hl => ?_)
  refine lv_iload_n hx hb dX9_month_6 rfl (lv_at hl 0 rfl) ?_
  refine lv_if_ge (tgt := 12) hx hb dX9_month_7 (by decide) (fun c3 => ?_) (fun c3 => ?_)
  · replace hres := og_t c3 hres
    refine lv_aload_n hx hb dX9_month_12 rfl (lv_at hl 1 rfl) ?_
    obtain ⟨w4, w5, hc6, hres⟩ := kb2_s hres
    refine krV_V (As := []) (rest := []) (wr := []) ⟨hx, hb, hml, hown, hts⟩ hK (tX9_note l D κ moo mo_toldA mo_stA mo_textA mo_readA mo_aheadA mo_asideA mo_weighingsA mo_bookA mo_isKeptA mo_keptA mo_seedsA N mo_told mo_st mo_isThere mo_seed mo_text mo_typed mo_faultAt mo_place mo_wrong mo_value mo_read mo_ahead mo_undoMany mo_aside mo_weighings mo_weighed mo_book mo_entries mo_isKept mo_kept mo_seeds w4 w5 hc6) (cwV 0 hts gX9_month_X9_note rfl rfl rfl (by decide +kernel) ⟨(Nat.le_of_ble_eq_true rfl), (Nat.le_of_ble_eq_true rfl)⟩) rfl rfl rfl hP hD hS hA [0, 1, 2, 3, 4, 5, 6, 7, 8, 9, 10, 11] [] rfl rfl rfl rfl (by decide) rfl hl.1 rfl (Nat.le_of_ble_eq_true rfl) dX9_month_13 ⟨Nat.zero_le _, Nat.zero_le _⟩ (fun H locs hP hD hS => ?_)
    have hP : va_P D vwCl ([(moo, .inr (9, [.ref mo_toldA, .ref mo_stA, .int mo_isThere, .int mo_seed, .ref mo_textA, .int mo_typed, .int mo_faultAt, .int mo_place, .int mo_wrong, .int mo_value, .ref mo_readA, .ref mo_aheadA, .int w5, .ref mo_asideA, .ref mo_weighingsA, .int mo_weighed, .ref mo_bookA, .int mo_entries, .ref mo_isKeptA, .ref mo_keptA, .ref mo_seedsA])), (mo_toldA, .inl (κ 0, 37, .inl mo_told)), (mo_stA, .inl (κ 0, 17, .inl mo_st)), (mo_textA, .inl (κ 0, 240, .inl mo_text)), (mo_readA, .inl (κ 0, 37, .inl mo_read)), (mo_aheadA, .inl (κ 0, 340, .inl w4)), (mo_asideA, .inl (κ 0, 17, .inl mo_aside)), (mo_weighingsA, .inl (κ 0, 12, .inl mo_weighings)), (mo_bookA, .inl (κ 0, 30, .inl mo_book)), (mo_isKeptA, .inl (κ 1, 2, .inl mo_isKept)), (mo_keptA, .inl (κ 0, 34, .inl mo_kept)), (mo_seedsA, .inl (κ 0, 2, .inl mo_seeds))]) H := hP
    have hD : va_D A ([(moo, .inr (9, [.ref mo_toldA, .ref mo_stA, .int mo_isThere, .int mo_seed, .ref mo_textA, .int mo_typed, .int mo_faultAt, .int mo_place, .int mo_wrong, .int mo_value, .ref mo_readA, .ref mo_aheadA, .int w5, .ref mo_asideA, .ref mo_weighingsA, .int mo_weighed, .ref mo_bookA, .int mo_entries, .ref mo_isKeptA, .ref mo_keptA, .ref mo_seedsA])), (mo_toldA, .inl (κ 0, 37, .inl mo_told)), (mo_stA, .inl (κ 0, 17, .inl mo_st)), (mo_textA, .inl (κ 0, 240, .inl mo_text)), (mo_readA, .inl (κ 0, 37, .inl mo_read)), (mo_aheadA, .inl (κ 0, 340, .inl w4)), (mo_asideA, .inl (κ 0, 17, .inl mo_aside)), (mo_weighingsA, .inl (κ 0, 12, .inl mo_weighings)), (mo_bookA, .inl (κ 0, 30, .inl mo_book)), (mo_isKeptA, .inl (κ 1, 2, .inl mo_isKept)), (mo_keptA, .inl (κ 0, 34, .inl mo_kept)), (mo_seedsA, .inl (κ 0, 2, .inl mo_seeds))]) := hD
    refine lv_iconst (v := 0) hx hb dX9_month_16 (by decide) ?_
    refine lv_istore_n (lv' := [(3, .int 0), (2, .int r1), (0, .ref moo), (1, .int x1)]) hx hb dX9_month_17 rfl hl (by decide) rfl (fun ls hl => ?_)
    exact L18 N 0 mo_st w4 w5 _ _ _ hP hD hS (lv_sub hl [2, 3, 0] rfl) hres
  · replace hres := og_f c3 hres
    refine lv_iload_n hx hb dX9_month_10 rfl (lv_at hl 0 rfl) ?_
    have hres := Option.some.inj hres
    have h0 := (Prod.mk.inj hres).1
    replace hres := (Prod.mk.inj hres).2
    have h1 := (Prod.mk.inj hres).1
    replace hres := (Prod.mk.inj hres).2
    have h2 := (Prod.mk.inj hres).1
    replace hres := (Prod.mk.inj hres).2
    have h3 := hres
    subst h0
    subst h1
    subst h2
    subst h3
    exact hret _ _ _ _ (vp_nar_int _) hP hD hS dX9_month_11

def pX9_raise_L65 (mo_st : Nat → Int32) (s0 : Int32) (s1 : Int32) (w_mo_ahead : Nat → Int32) (w_mo_undoMany : Int32) : Option (Int32 × (Nat → Int32) × (Nat → Int32) × Int32) :=
    if s1 < 0 ∨ 17 ≤ s1.toNatClampNeg then none else
    some (((upd mo_st s1.toNatClampNeg s0) 14), (upd mo_st s1.toNatClampNeg s0), w_mo_ahead, w_mo_undoMany)
def pX9_raise (N : Nat) (x1 : Int32) (mo_st : Nat → Int32) (mo_isThere : Int32) (mo_ahead : Nat → Int32) (mo_undoMany : Int32) : Option (Int32 × (Nat → Int32) × (Nat → Int32) × Int32) :=
    kb1 (pX9_in (x1.toInt64) 1 999) fun r1 =>
    (if r1 = 0 then
    some ((-1000000002), mo_st, mo_ahead, mo_undoMany)
    else
    kb1 (pX9_isHeld mo_st mo_isThere) fun r4 =>
    (if r4 = 0 then
    some ((-1000000003), mo_st, mo_ahead, mo_undoMany)
    else
    kb2 (pX9_note N mo_st mo_ahead mo_undoMany) fun w7 w8 =>
    (if ((mo_st 14) + x1) ≤ 9999 then
    pX9_raise_L65 mo_st ((mo_st 14) + x1) 14 w7 w8
    else
    pX9_raise_L65 mo_st 9999 14 w7 w8)))
set_option maxHeartbeats 8000000 in
set_option maxRecDepth 100000 in
theorem tX9_raise (l : Launch) (D : va_G) (κ : Nat → ClassId) (moo : Nat) (mo_toldA : Nat) (mo_stA : Nat) (mo_textA : Nat) (mo_readA : Nat) (mo_aheadA : Nat) (mo_asideA : Nat) (mo_weighingsA : Nat) (mo_bookA : Nat) (mo_isKeptA : Nat) (mo_keptA : Nat) (mo_seedsA : Nat) (N : Nat) (mo_told : Nat → Int32) (mo_st : Nat → Int32) (mo_isThere : Int32) (mo_seed : Int32) (mo_text : Nat → Int32) (mo_typed : Int32) (mo_faultAt : Int32) (mo_place : Int32) (mo_wrong : Int32) (mo_value : Int32) (mo_read : Nat → Int32) (mo_ahead : Nat → Int32) (mo_undoMany : Int32) (mo_aside : Nat → Int32) (mo_weighings : Nat → Int32) (mo_weighed : Int32) (mo_book : Nat → Int32) (mo_entries : Int32) (mo_isKept : Nat → Int32) (mo_kept : Nat → Int32) (mo_seeds : Nat → Int32) (x1 : Int32) (r0 : Int32) (z_mo_st : Nat → Int32) (z_mo_ahead : Nat → Int32) (z_mo_undoMany : Int32) (hres : pX9_raise N x1 mo_st mo_isThere mo_ahead mo_undoMany = some (r0, z_mo_st, z_mo_ahead, z_mo_undoMany)) : krI l yX9_raise wsX9_raise { frames := 1, cells := 0, slots := 0, locals := 100 } D κ [.ref moo, .int x1] ([(moo, .inr (9, [.ref mo_toldA, .ref mo_stA, .int mo_isThere, .int mo_seed, .ref mo_textA, .int mo_typed, .int mo_faultAt, .int mo_place, .int mo_wrong, .int mo_value, .ref mo_readA, .ref mo_aheadA, .int mo_undoMany, .ref mo_asideA, .ref mo_weighingsA, .int mo_weighed, .ref mo_bookA, .int mo_entries, .ref mo_isKeptA, .ref mo_keptA, .ref mo_seedsA])), (mo_toldA, .inl (κ 0, 37, .inl mo_told)), (mo_stA, .inl (κ 0, 17, .inl mo_st)), (mo_textA, .inl (κ 0, 240, .inl mo_text)), (mo_readA, .inl (κ 0, 37, .inl mo_read)), (mo_aheadA, .inl (κ 0, 340, .inl mo_ahead)), (mo_asideA, .inl (κ 0, 17, .inl mo_aside)), (mo_weighingsA, .inl (κ 0, 12, .inl mo_weighings)), (mo_bookA, .inl (κ 0, 30, .inl mo_book)), (mo_isKeptA, .inl (κ 1, 2, .inl mo_isKept)), (mo_keptA, .inl (κ 0, 34, .inl mo_kept)), (mo_seedsA, .inl (κ 0, 2, .inl mo_seeds))]) ([(moo, .inr (9, [.ref mo_toldA, .ref mo_stA, .int mo_isThere, .int mo_seed, .ref mo_textA, .int mo_typed, .int mo_faultAt, .int mo_place, .int mo_wrong, .int mo_value, .ref mo_readA, .ref mo_aheadA, .int z_mo_undoMany, .ref mo_asideA, .ref mo_weighingsA, .int mo_weighed, .ref mo_bookA, .int mo_entries, .ref mo_isKeptA, .ref mo_keptA, .ref mo_seedsA])), (mo_toldA, .inl (κ 0, 37, .inl mo_told)), (mo_stA, .inl (κ 0, 17, .inl z_mo_st)), (mo_textA, .inl (κ 0, 240, .inl mo_text)), (mo_readA, .inl (κ 0, 37, .inl mo_read)), (mo_aheadA, .inl (κ 0, 340, .inl z_mo_ahead)), (mo_asideA, .inl (κ 0, 17, .inl mo_aside)), (mo_weighingsA, .inl (κ 0, 12, .inl mo_weighings)), (mo_bookA, .inl (κ 0, 30, .inl mo_book)), (mo_isKeptA, .inl (κ 1, 2, .inl mo_isKept)), (mo_keptA, .inl (κ 0, 34, .inl mo_kept)), (mo_seedsA, .inl (κ 0, 2, .inl mo_seeds))]) r0 := by
  refine krI_of (cc := cX9_raise) (maxL := 2) (rt := .int) (by decide) rfl (Nat.le_of_ble_eq_true rfl) ?_
  intro p e s m args below meth c A Q ls hx hb hml hown hts hK hA hret hP hD hS hl
  have hown : s.vm.findClass RX9 = some m.cls := hown
  have hl : lv_has ls 2 [(0, .ref moo), (1, .int x1)] := hl
  have iw9 : ∀ w ∈ u_ws RX9 TX9 21, w ∈ wsX9_raise := (fun _ h => List.mem_cons_of_mem _ (List.mem_append_right _ h))
  have k0 : (Cond.constantLong RX9 154 (999)).before args s = true := hts _ (List.mem_of_getElem? (i := 1) rfl)
  have k1 : (Cond.fieldLink RX9 13 "KingRansomModel" "st" "[I").before args s = true := hts _ (List.mem_of_getElem? (i := 4) rfl)
  have k2 : (Cond.constant RX9 147 (-1000000003)).before args s = true := hts _ (List.mem_of_getElem? (i := 3) rfl)
  have k3 : (Cond.constant RX9 54 (-1000000002)).before args s = true := hts _ (List.mem_of_getElem? (i := 2) rfl)
  have L65 : ∀ (s0 : Int32) (s1 : Int32) (w_mo_ahead : Nat → Int32) (w_mo_undoMany : Int32) (H : Heap) (locs : List Loc) (ls : Array Slot), va_P D vwCl ([(moo, .inr (9, [.ref mo_toldA, .ref mo_stA, .int mo_isThere, .int mo_seed, .ref mo_textA, .int mo_typed, .int mo_faultAt, .int mo_place, .int mo_wrong, .int mo_value, .ref mo_readA, .ref mo_aheadA, .int w_mo_undoMany, .ref mo_asideA, .ref mo_weighingsA, .int mo_weighed, .ref mo_bookA, .int mo_entries, .ref mo_isKeptA, .ref mo_keptA, .ref mo_seedsA])), (mo_toldA, .inl (κ 0, 37, .inl mo_told)), (mo_stA, .inl (κ 0, 17, .inl mo_st)), (mo_textA, .inl (κ 0, 240, .inl mo_text)), (mo_readA, .inl (κ 0, 37, .inl mo_read)), (mo_aheadA, .inl (κ 0, 340, .inl w_mo_ahead)), (mo_asideA, .inl (κ 0, 17, .inl mo_aside)), (mo_weighingsA, .inl (κ 0, 12, .inl mo_weighings)), (mo_bookA, .inl (κ 0, 30, .inl mo_book)), (mo_isKeptA, .inl (κ 1, 2, .inl mo_isKept)), (mo_keptA, .inl (κ 0, 34, .inl mo_kept)), (mo_seedsA, .inl (κ 0, 2, .inl mo_seeds))]) H → va_D A ([(moo, .inr (9, [.ref mo_toldA, .ref mo_stA, .int mo_isThere, .int mo_seed, .ref mo_textA, .int mo_typed, .int mo_faultAt, .int mo_place, .int mo_wrong, .int mo_value, .ref mo_readA, .ref mo_aheadA, .int w_mo_undoMany, .ref mo_asideA, .ref mo_weighingsA, .int mo_weighed, .ref mo_bookA, .int mo_entries, .ref mo_isKeptA, .ref mo_keptA, .ref mo_seedsA])), (mo_toldA, .inl (κ 0, 37, .inl mo_told)), (mo_stA, .inl (κ 0, 17, .inl mo_st)), (mo_textA, .inl (κ 0, 240, .inl mo_text)), (mo_readA, .inl (κ 0, 37, .inl mo_read)), (mo_aheadA, .inl (κ 0, 340, .inl w_mo_ahead)), (mo_asideA, .inl (κ 0, 17, .inl mo_aside)), (mo_weighingsA, .inl (κ 0, 12, .inl mo_weighings)), (mo_bookA, .inl (κ 0, 30, .inl mo_book)), (mo_isKeptA, .inl (κ 1, 2, .inl mo_isKept)), (mo_keptA, .inl (κ 0, 34, .inl mo_kept)), (mo_seedsA, .inl (κ 0, 2, .inl mo_seeds))]) → va_S A s.heap H locs → lv_has ls 2 [(0, .ref moo)] → pX9_raise_L65 mo_st s0 s1 w_mo_ahead w_mo_undoMany = some (r0, z_mo_st, z_mo_ahead, z_mo_undoMany) → W p l e { frames := 1, cells := 0, slots := 0, locals := 100 } s m args below meth c H locs 0 0 Q (F0 m 65 ls [.int s0, .int s1, .ref mo_stA]) := by
    intro s0 s1 w_mo_ahead w_mo_undoMany H locs ls hP hD hS hl hres
    unfold pX9_raise_L65 at hres
    obtain ⟨g11, hres⟩ := og_no hres
    refine kr_iast (f := mo_st) (j := s1.toNatClampNeg) (x := s0) hx hb hK hP hD hS 2 rfl g11 rfl dX9_raise_65 (fun H locs hP hD hS => ?_)
    have hP : va_P D vwCl ([(moo, .inr (9, [.ref mo_toldA, .ref mo_stA, .int mo_isThere, .int mo_seed, .ref mo_textA, .int mo_typed, .int mo_faultAt, .int mo_place, .int mo_wrong, .int mo_value, .ref mo_readA, .ref mo_aheadA, .int w_mo_undoMany, .ref mo_asideA, .ref mo_weighingsA, .int mo_weighed, .ref mo_bookA, .int mo_entries, .ref mo_isKeptA, .ref mo_keptA, .ref mo_seedsA])), (mo_toldA, .inl (κ 0, 37, .inl mo_told)), (mo_stA, .inl (κ 0, 17, .inl (upd mo_st s1.toNatClampNeg s0))), (mo_textA, .inl (κ 0, 240, .inl mo_text)), (mo_readA, .inl (κ 0, 37, .inl mo_read)), (mo_aheadA, .inl (κ 0, 340, .inl w_mo_ahead)), (mo_asideA, .inl (κ 0, 17, .inl mo_aside)), (mo_weighingsA, .inl (κ 0, 12, .inl mo_weighings)), (mo_bookA, .inl (κ 0, 30, .inl mo_book)), (mo_isKeptA, .inl (κ 1, 2, .inl mo_isKept)), (mo_keptA, .inl (κ 0, 34, .inl mo_kept)), (mo_seedsA, .inl (κ 0, 2, .inl mo_seeds))]) H := hP
    have hD : va_D A ([(moo, .inr (9, [.ref mo_toldA, .ref mo_stA, .int mo_isThere, .int mo_seed, .ref mo_textA, .int mo_typed, .int mo_faultAt, .int mo_place, .int mo_wrong, .int mo_value, .ref mo_readA, .ref mo_aheadA, .int w_mo_undoMany, .ref mo_asideA, .ref mo_weighingsA, .int mo_weighed, .ref mo_bookA, .int mo_entries, .ref mo_isKeptA, .ref mo_keptA, .ref mo_seedsA])), (mo_toldA, .inl (κ 0, 37, .inl mo_told)), (mo_stA, .inl (κ 0, 17, .inl (upd mo_st s1.toNatClampNeg s0))), (mo_textA, .inl (κ 0, 240, .inl mo_text)), (mo_readA, .inl (κ 0, 37, .inl mo_read)), (mo_aheadA, .inl (κ 0, 340, .inl w_mo_ahead)), (mo_asideA, .inl (κ 0, 17, .inl mo_aside)), (mo_weighingsA, .inl (κ 0, 12, .inl mo_weighings)), (mo_bookA, .inl (κ 0, 30, .inl mo_book)), (mo_isKeptA, .inl (κ 1, 2, .inl mo_isKept)), (mo_keptA, .inl (κ 0, 34, .inl mo_kept)), (mo_seedsA, .inl (κ 0, 2, .inl mo_seeds))]) := hD
    refine lv_aload_n hx hb dX9_raise_66 rfl (lv_at hl 0 rfl) ?_
    refine va_get (D := D) (ci := 9) (v := .ref mo_stA) (C := RX9) (T := TX9) (N := 21) hx hb hts iw9 hown hK.1 hP 0 rfl rfl 1 (by decide) k1 (fun _ h9 => h9) rfl dX9_raise_67 ?_
    refine lv_bipush (v := 14) hx hb dX9_raise_70 (by decide) ?_
    refine kr_iald (f := (upd mo_st s1.toNatClampNeg s0)) (j := 14) hx hb hK hP 2 rfl (by decide) (by decide) dX9_raise_72 ?_
    have hres := Option.some.inj hres
    have h0 := (Prod.mk.inj hres).1
    replace hres := (Prod.mk.inj hres).2
    have h1 := (Prod.mk.inj hres).1
    replace hres := (Prod.mk.inj hres).2
    have h2 := (Prod.mk.inj hres).1
    replace hres := (Prod.mk.inj hres).2
    have h3 := hres
    subst h0
    subst h1
    subst h2
    subst h3
    exact hret _ _ _ _ (vp_nar_int _) hP hD hS dX9_raise_73
  unfold pX9_raise at hres
  refine lv_iload_n hx hb dX9_raise_0 rfl (lv_at hl 1 rfl) ?_
  refine lv_i2l (v := x1.toInt64) hx hb dX9_raise_1 rfl ?_
  refine lv_lconst (v := 1) hx hb dX9_raise_2 (by decide) ?_
  refine lv_ldc2 (v := 999) hx hb hown k0 dX9_raise_3 ?_
  obtain ⟨r1, hc2, hres⟩ := kb1_s hres
  refine krI_S0 (As := [.long (x1.toInt64), .long 1, .long 999]) (rest := []) ⟨hx, hb, hml, hown, hts⟩ hK (tX9_in l D κ (x1.toInt64) 1 999 r1 hc2) (va_cwS 3 hts gX9_raise_X9_in rfl rfl rfl (by decide +kernel) ⟨(Nat.le_of_ble_eq_true rfl), (Nat.le_of_ble_eq_true rfl)⟩) hP hD hS hA rfl hl.1 rfl (Nat.le_of_ble_eq_true rfl) dX9_raise_6 ⟨Nat.zero_le _, Nat.zero_le _⟩ (fun H locs hP hD hS => ?_)
  refine lv_if_ne (tgt := 15) hx hb dX9_raise_9 (by decide) (fun c3 => ?_) (fun c3 => ?_)
  · replace hres := og_f c3 hres
    refine lv_aload_n hx hb dX9_raise_15 rfl (lv_at hl 0 rfl) ?_
    obtain ⟨r4, hc5, hres⟩ := kb1_s hres
    refine krI_V (As := []) (rest := []) (wr := []) ⟨hx, hb, hml, hown, hts⟩ hK (tX9_isHeld l D κ moo mo_toldA mo_stA mo_textA mo_readA mo_aheadA mo_asideA mo_weighingsA mo_bookA mo_isKeptA mo_keptA mo_seedsA mo_told mo_st mo_isThere mo_seed mo_text mo_typed mo_faultAt mo_place mo_wrong mo_value mo_read mo_ahead mo_undoMany mo_aside mo_weighings mo_weighed mo_book mo_entries mo_isKept mo_kept mo_seeds r4 hc5) (cwV 0 hts gX9_raise_X9_isHeld rfl rfl rfl (by decide +kernel) ⟨(Nat.le_of_ble_eq_true rfl), (Nat.le_of_ble_eq_true rfl)⟩) rfl rfl rfl hP hD hS hA [0, 1, 2, 3, 4, 5, 6, 7, 8, 9, 10, 11] [] rfl rfl rfl rfl (by decide) rfl hl.1 rfl (Nat.le_of_ble_eq_true rfl) dX9_raise_16 ⟨Nat.zero_le _, Nat.zero_le _⟩ (fun H locs hP hD hS => ?_)
    have hP : va_P D vwCl ([(moo, .inr (9, [.ref mo_toldA, .ref mo_stA, .int mo_isThere, .int mo_seed, .ref mo_textA, .int mo_typed, .int mo_faultAt, .int mo_place, .int mo_wrong, .int mo_value, .ref mo_readA, .ref mo_aheadA, .int mo_undoMany, .ref mo_asideA, .ref mo_weighingsA, .int mo_weighed, .ref mo_bookA, .int mo_entries, .ref mo_isKeptA, .ref mo_keptA, .ref mo_seedsA])), (mo_toldA, .inl (κ 0, 37, .inl mo_told)), (mo_stA, .inl (κ 0, 17, .inl mo_st)), (mo_textA, .inl (κ 0, 240, .inl mo_text)), (mo_readA, .inl (κ 0, 37, .inl mo_read)), (mo_aheadA, .inl (κ 0, 340, .inl mo_ahead)), (mo_asideA, .inl (κ 0, 17, .inl mo_aside)), (mo_weighingsA, .inl (κ 0, 12, .inl mo_weighings)), (mo_bookA, .inl (κ 0, 30, .inl mo_book)), (mo_isKeptA, .inl (κ 1, 2, .inl mo_isKept)), (mo_keptA, .inl (κ 0, 34, .inl mo_kept)), (mo_seedsA, .inl (κ 0, 2, .inl mo_seeds))]) H := hP
    have hD : va_D A ([(moo, .inr (9, [.ref mo_toldA, .ref mo_stA, .int mo_isThere, .int mo_seed, .ref mo_textA, .int mo_typed, .int mo_faultAt, .int mo_place, .int mo_wrong, .int mo_value, .ref mo_readA, .ref mo_aheadA, .int mo_undoMany, .ref mo_asideA, .ref mo_weighingsA, .int mo_weighed, .ref mo_bookA, .int mo_entries, .ref mo_isKeptA, .ref mo_keptA, .ref mo_seedsA])), (mo_toldA, .inl (κ 0, 37, .inl mo_told)), (mo_stA, .inl (κ 0, 17, .inl mo_st)), (mo_textA, .inl (κ 0, 240, .inl mo_text)), (mo_readA, .inl (κ 0, 37, .inl mo_read)), (mo_aheadA, .inl (κ 0, 340, .inl mo_ahead)), (mo_asideA, .inl (κ 0, 17, .inl mo_aside)), (mo_weighingsA, .inl (κ 0, 12, .inl mo_weighings)), (mo_bookA, .inl (κ 0, 30, .inl mo_book)), (mo_isKeptA, .inl (κ 1, 2, .inl mo_isKept)), (mo_keptA, .inl (κ 0, 34, .inl mo_kept)), (mo_seedsA, .inl (κ 0, 2, .inl mo_seeds))]) := hD
    refine lv_if_ne (tgt := 25) hx hb dX9_raise_19 (by decide) (fun c6 => ?_) (fun c6 => ?_)
    · replace hres := og_f c6 hres
      refine lv_aload_n hx hb dX9_raise_25 rfl (lv_at hl 0 rfl) ?_
      obtain ⟨w7, w8, hc9, hres⟩ := kb2_s hres
      refine krV_V (As := []) (rest := []) (wr := []) ⟨hx, hb, hml, hown, hts⟩ hK (tX9_note l D κ moo mo_toldA mo_stA mo_textA mo_readA mo_aheadA mo_asideA mo_weighingsA mo_bookA mo_isKeptA mo_keptA mo_seedsA N mo_told mo_st mo_isThere mo_seed mo_text mo_typed mo_faultAt mo_place mo_wrong mo_value mo_read mo_ahead mo_undoMany mo_aside mo_weighings mo_weighed mo_book mo_entries mo_isKept mo_kept mo_seeds w7 w8 hc9) (cwV 0 hts gX9_raise_X9_note rfl rfl rfl (by decide +kernel) ⟨(Nat.le_of_ble_eq_true rfl), (Nat.le_of_ble_eq_true rfl)⟩) rfl rfl rfl hP hD hS hA [0, 1, 2, 3, 4, 5, 6, 7, 8, 9, 10, 11] [] rfl rfl rfl rfl (by decide) rfl hl.1 rfl (Nat.le_of_ble_eq_true rfl) dX9_raise_26 ⟨Nat.zero_le _, Nat.zero_le _⟩ (fun H locs hP hD hS => ?_)
      have hP : va_P D vwCl ([(moo, .inr (9, [.ref mo_toldA, .ref mo_stA, .int mo_isThere, .int mo_seed, .ref mo_textA, .int mo_typed, .int mo_faultAt, .int mo_place, .int mo_wrong, .int mo_value, .ref mo_readA, .ref mo_aheadA, .int w8, .ref mo_asideA, .ref mo_weighingsA, .int mo_weighed, .ref mo_bookA, .int mo_entries, .ref mo_isKeptA, .ref mo_keptA, .ref mo_seedsA])), (mo_toldA, .inl (κ 0, 37, .inl mo_told)), (mo_stA, .inl (κ 0, 17, .inl mo_st)), (mo_textA, .inl (κ 0, 240, .inl mo_text)), (mo_readA, .inl (κ 0, 37, .inl mo_read)), (mo_aheadA, .inl (κ 0, 340, .inl w7)), (mo_asideA, .inl (κ 0, 17, .inl mo_aside)), (mo_weighingsA, .inl (κ 0, 12, .inl mo_weighings)), (mo_bookA, .inl (κ 0, 30, .inl mo_book)), (mo_isKeptA, .inl (κ 1, 2, .inl mo_isKept)), (mo_keptA, .inl (κ 0, 34, .inl mo_kept)), (mo_seedsA, .inl (κ 0, 2, .inl mo_seeds))]) H := hP
      have hD : va_D A ([(moo, .inr (9, [.ref mo_toldA, .ref mo_stA, .int mo_isThere, .int mo_seed, .ref mo_textA, .int mo_typed, .int mo_faultAt, .int mo_place, .int mo_wrong, .int mo_value, .ref mo_readA, .ref mo_aheadA, .int w8, .ref mo_asideA, .ref mo_weighingsA, .int mo_weighed, .ref mo_bookA, .int mo_entries, .ref mo_isKeptA, .ref mo_keptA, .ref mo_seedsA])), (mo_toldA, .inl (κ 0, 37, .inl mo_told)), (mo_stA, .inl (κ 0, 17, .inl mo_st)), (mo_textA, .inl (κ 0, 240, .inl mo_text)), (mo_readA, .inl (κ 0, 37, .inl mo_read)), (mo_aheadA, .inl (κ 0, 340, .inl w7)), (mo_asideA, .inl (κ 0, 17, .inl mo_aside)), (mo_weighingsA, .inl (κ 0, 12, .inl mo_weighings)), (mo_bookA, .inl (κ 0, 30, .inl mo_book)), (mo_isKeptA, .inl (κ 1, 2, .inl mo_isKept)), (mo_keptA, .inl (κ 0, 34, .inl mo_kept)), (mo_seedsA, .inl (κ 0, 2, .inl mo_seeds))]) := hD
      refine lv_aload_n hx hb dX9_raise_29 rfl (lv_at hl 0 rfl) ?_
      refine va_get (D := D) (ci := 9) (v := .ref mo_stA) (C := RX9) (T := TX9) (N := 21) hx hb hts iw9 hown hK.1 hP 0 rfl rfl 1 (by decide) k1 (fun _ h9 => h9) rfl dX9_raise_30 ?_
      refine lv_bipush (v := 14) hx hb dX9_raise_33 (by decide) ?_
      refine lv_aload_n hx hb dX9_raise_35 rfl (lv_at hl 0 rfl) ?_
      refine va_get (D := D) (ci := 9) (v := .ref mo_stA) (C := RX9) (T := TX9) (N := 21) hx hb hts iw9 hown hK.1 hP 0 rfl rfl 1 (by decide) k1 (fun _ h9 => h9) rfl dX9_raise_36 ?_
      refine lv_bipush (v := 14) hx hb dX9_raise_39 (by decide) ?_
      refine kr_iald (f := mo_st) (j := 14) hx hb hK hP 2 rfl (by decide) (by decide) dX9_raise_41 ?_
      refine lv_iload_n hx hb dX9_raise_42 rfl (lv_at hl 1 rfl) ?_
      refine lv_iadd hx hb dX9_raise_43 ?_
      refine lv_sipush (v := 9999) hx hb dX9_raise_44 (by decide) ?_
      refine lv_icmp_le (tgt := 56) hx hb dX9_raise_47 (by decide) (fun c10 => ?_) (fun c10 => ?_)
      · replace hres := og_t c10 hres
        refine lv_aload_n hx hb dX9_raise_56 rfl (lv_at hl 0 rfl) ?_
        refine va_get (D := D) (ci := 9) (v := .ref mo_stA) (C := RX9) (T := TX9) (N := 21) hx hb hts iw9 hown hK.1 hP 0 rfl rfl 1 (by decide) k1 (fun _ h9 => h9) rfl dX9_raise_57 ?_
        refine lv_bipush (v := 14) hx hb dX9_raise_60 (by decide) ?_
        refine kr_iald (f := mo_st) (j := 14) hx hb hK hP 2 rfl (by decide) (by decide) dX9_raise_62 ?_
        refine lv_iload_n hx hb dX9_raise_63 rfl (lv_at hl 1 rfl) ?_
        refine lv_iadd hx hb dX9_raise_64 ?_
        exact L65 ((mo_st 14) + x1) 14 w7 w8 _ _ _ hP hD hS (lv_sub hl [0] rfl) hres
      · replace hres := og_f c10 hres
        refine lv_sipush (v := 9999) hx hb dX9_raise_50 (by decide) ?_
        refine lv_goto (tgt := 65) hx hb dX9_raise_53 (by decide) ?_
        exact L65 9999 14 w7 w8 _ _ _ hP hD hS (lv_sub hl [0] rfl) hres
    · replace hres := og_t c6 hres
      refine lv_ldc (v := (-1000000003)) hx hb hown k2 dX9_raise_22 ?_
      have hres := Option.some.inj hres
      have h0 := (Prod.mk.inj hres).1
      replace hres := (Prod.mk.inj hres).2
      have h1 := (Prod.mk.inj hres).1
      replace hres := (Prod.mk.inj hres).2
      have h2 := (Prod.mk.inj hres).1
      replace hres := (Prod.mk.inj hres).2
      have h3 := hres
      subst h0
      subst h1
      subst h2
      subst h3
      exact hret _ _ _ _ (vp_nar_int _) hP hD hS dX9_raise_24
  · replace hres := og_t c3 hres
    refine lv_ldc (v := (-1000000002)) hx hb hown k3 dX9_raise_12 ?_
    have hres := Option.some.inj hres
    have h0 := (Prod.mk.inj hres).1
    replace hres := (Prod.mk.inj hres).2
    have h1 := (Prod.mk.inj hres).1
    replace hres := (Prod.mk.inj hres).2
    have h2 := (Prod.mk.inj hres).1
    replace hres := (Prod.mk.inj hres).2
    have h3 := hres
    subst h0
    subst h1
    subst h2
    subst h3
    exact hret _ _ _ _ (vp_nar_int _) hP hD hS dX9_raise_14

def pX9_hostage_L74 (mo_st : Nat → Int32) (v3 : Int32) (s0 : Int32) (s1 : Int32) (w_mo_ahead : Nat → Int32) (w_mo_undoMany : Int32) : Option (Int32 × (Nat → Int32) × (Nat → Int32) × Int32) :=
    if s1 < 0 ∨ 17 ≤ s1.toNatClampNeg then none else
    some (v3, (upd mo_st s1.toNatClampNeg s0), w_mo_ahead, w_mo_undoMany)
def pX9_hostage (N : Nat) (x1 : Int32) (x2 : Int32) (mo_told : Nat → Int32) (mo_st : Nat → Int32) (mo_ahead : Nat → Int32) (mo_undoMany : Int32) : Option (Int32 × (Nat → Int32) × (Nat → Int32) × Int32) :=
    kb1 (pX9_in (x1.toInt64) 0 (((mo_told 4) - 1).toInt64)) fun r1 =>
    (if r1 = 0 then
    some ((-1000000001), mo_st, mo_ahead, mo_undoMany)
    else
    kb2 (pX9_note N mo_st mo_ahead mo_undoMany) fun w4 w5 =>
    kl (((mo_st 15) >>> (x1 &&& 31)) &&& 1) fun y7 =>
    (if x2 = 0 then
    pX9_hostage_L74 mo_st y7 ((mo_st 15) &&& (((1 : Int32) <<< (x1 &&& 31)) ^^^ (-1))) 15 w4 w5
    else
    pX9_hostage_L74 mo_st y7 ((mo_st 15) ||| ((1 : Int32) <<< (x1 &&& 31))) 15 w4 w5))
set_option maxHeartbeats 8000000 in
set_option maxRecDepth 100000 in
theorem tX9_hostage (l : Launch) (D : va_G) (κ : Nat → ClassId) (moo : Nat) (mo_toldA : Nat) (mo_stA : Nat) (mo_textA : Nat) (mo_readA : Nat) (mo_aheadA : Nat) (mo_asideA : Nat) (mo_weighingsA : Nat) (mo_bookA : Nat) (mo_isKeptA : Nat) (mo_keptA : Nat) (mo_seedsA : Nat) (N : Nat) (mo_told : Nat → Int32) (mo_st : Nat → Int32) (mo_isThere : Int32) (mo_seed : Int32) (mo_text : Nat → Int32) (mo_typed : Int32) (mo_faultAt : Int32) (mo_place : Int32) (mo_wrong : Int32) (mo_value : Int32) (mo_read : Nat → Int32) (mo_ahead : Nat → Int32) (mo_undoMany : Int32) (mo_aside : Nat → Int32) (mo_weighings : Nat → Int32) (mo_weighed : Int32) (mo_book : Nat → Int32) (mo_entries : Int32) (mo_isKept : Nat → Int32) (mo_kept : Nat → Int32) (mo_seeds : Nat → Int32) (x1 : Int32) (x2 : Int32) (r0 : Int32) (z_mo_st : Nat → Int32) (z_mo_ahead : Nat → Int32) (z_mo_undoMany : Int32) (hres : pX9_hostage N x1 x2 mo_told mo_st mo_ahead mo_undoMany = some (r0, z_mo_st, z_mo_ahead, z_mo_undoMany)) : krI l yX9_hostage wsX9_hostage { frames := 1, cells := 0, slots := 0, locals := 100 } D κ [.ref moo, .int x1, .int x2] ([(moo, .inr (9, [.ref mo_toldA, .ref mo_stA, .int mo_isThere, .int mo_seed, .ref mo_textA, .int mo_typed, .int mo_faultAt, .int mo_place, .int mo_wrong, .int mo_value, .ref mo_readA, .ref mo_aheadA, .int mo_undoMany, .ref mo_asideA, .ref mo_weighingsA, .int mo_weighed, .ref mo_bookA, .int mo_entries, .ref mo_isKeptA, .ref mo_keptA, .ref mo_seedsA])), (mo_toldA, .inl (κ 0, 37, .inl mo_told)), (mo_stA, .inl (κ 0, 17, .inl mo_st)), (mo_textA, .inl (κ 0, 240, .inl mo_text)), (mo_readA, .inl (κ 0, 37, .inl mo_read)), (mo_aheadA, .inl (κ 0, 340, .inl mo_ahead)), (mo_asideA, .inl (κ 0, 17, .inl mo_aside)), (mo_weighingsA, .inl (κ 0, 12, .inl mo_weighings)), (mo_bookA, .inl (κ 0, 30, .inl mo_book)), (mo_isKeptA, .inl (κ 1, 2, .inl mo_isKept)), (mo_keptA, .inl (κ 0, 34, .inl mo_kept)), (mo_seedsA, .inl (κ 0, 2, .inl mo_seeds))]) ([(moo, .inr (9, [.ref mo_toldA, .ref mo_stA, .int mo_isThere, .int mo_seed, .ref mo_textA, .int mo_typed, .int mo_faultAt, .int mo_place, .int mo_wrong, .int mo_value, .ref mo_readA, .ref mo_aheadA, .int z_mo_undoMany, .ref mo_asideA, .ref mo_weighingsA, .int mo_weighed, .ref mo_bookA, .int mo_entries, .ref mo_isKeptA, .ref mo_keptA, .ref mo_seedsA])), (mo_toldA, .inl (κ 0, 37, .inl mo_told)), (mo_stA, .inl (κ 0, 17, .inl z_mo_st)), (mo_textA, .inl (κ 0, 240, .inl mo_text)), (mo_readA, .inl (κ 0, 37, .inl mo_read)), (mo_aheadA, .inl (κ 0, 340, .inl z_mo_ahead)), (mo_asideA, .inl (κ 0, 17, .inl mo_aside)), (mo_weighingsA, .inl (κ 0, 12, .inl mo_weighings)), (mo_bookA, .inl (κ 0, 30, .inl mo_book)), (mo_isKeptA, .inl (κ 1, 2, .inl mo_isKept)), (mo_keptA, .inl (κ 0, 34, .inl mo_kept)), (mo_seedsA, .inl (κ 0, 2, .inl mo_seeds))]) r0 := by
  refine krI_of (cc := cX9_hostage) (maxL := 4) (rt := .int) (by decide) rfl (Nat.le_of_ble_eq_true rfl) ?_
  intro p e s m args below meth c A Q ls hx hb hml hown hts hK hA hret hP hD hS hl
  have hown : s.vm.findClass RX9 = some m.cls := hown
  have hl : lv_has ls 4 [(0, .ref moo), (1, .int x1), (2, .int x2)] := hl
  have iw9 : ∀ w ∈ u_ws RX9 TX9 21, w ∈ wsX9_hostage := (fun _ h => List.mem_cons_of_mem _ (List.mem_append_right _ h))
  have k0 : (Cond.fieldLink RX9 7 "KingRansomModel" "told" "[I").before args s = true := hts _ (List.mem_of_getElem? (i := 1) rfl)
  have k1 : (Cond.fieldLink RX9 13 "KingRansomModel" "st" "[I").before args s = true := hts _ (List.mem_of_getElem? (i := 3) rfl)
  have k2 : (Cond.constant RX9 126 (-1000000001)).before args s = true := hts _ (List.mem_of_getElem? (i := 2) rfl)
  have L74 : ∀ (v3 : Int32) (s0 : Int32) (s1 : Int32) (w_mo_ahead : Nat → Int32) (w_mo_undoMany : Int32) (H : Heap) (locs : List Loc) (ls : Array Slot), va_P D vwCl ([(moo, .inr (9, [.ref mo_toldA, .ref mo_stA, .int mo_isThere, .int mo_seed, .ref mo_textA, .int mo_typed, .int mo_faultAt, .int mo_place, .int mo_wrong, .int mo_value, .ref mo_readA, .ref mo_aheadA, .int w_mo_undoMany, .ref mo_asideA, .ref mo_weighingsA, .int mo_weighed, .ref mo_bookA, .int mo_entries, .ref mo_isKeptA, .ref mo_keptA, .ref mo_seedsA])), (mo_toldA, .inl (κ 0, 37, .inl mo_told)), (mo_stA, .inl (κ 0, 17, .inl mo_st)), (mo_textA, .inl (κ 0, 240, .inl mo_text)), (mo_readA, .inl (κ 0, 37, .inl mo_read)), (mo_aheadA, .inl (κ 0, 340, .inl w_mo_ahead)), (mo_asideA, .inl (κ 0, 17, .inl mo_aside)), (mo_weighingsA, .inl (κ 0, 12, .inl mo_weighings)), (mo_bookA, .inl (κ 0, 30, .inl mo_book)), (mo_isKeptA, .inl (κ 1, 2, .inl mo_isKept)), (mo_keptA, .inl (κ 0, 34, .inl mo_kept)), (mo_seedsA, .inl (κ 0, 2, .inl mo_seeds))]) H → va_D A ([(moo, .inr (9, [.ref mo_toldA, .ref mo_stA, .int mo_isThere, .int mo_seed, .ref mo_textA, .int mo_typed, .int mo_faultAt, .int mo_place, .int mo_wrong, .int mo_value, .ref mo_readA, .ref mo_aheadA, .int w_mo_undoMany, .ref mo_asideA, .ref mo_weighingsA, .int mo_weighed, .ref mo_bookA, .int mo_entries, .ref mo_isKeptA, .ref mo_keptA, .ref mo_seedsA])), (mo_toldA, .inl (κ 0, 37, .inl mo_told)), (mo_stA, .inl (κ 0, 17, .inl mo_st)), (mo_textA, .inl (κ 0, 240, .inl mo_text)), (mo_readA, .inl (κ 0, 37, .inl mo_read)), (mo_aheadA, .inl (κ 0, 340, .inl w_mo_ahead)), (mo_asideA, .inl (κ 0, 17, .inl mo_aside)), (mo_weighingsA, .inl (κ 0, 12, .inl mo_weighings)), (mo_bookA, .inl (κ 0, 30, .inl mo_book)), (mo_isKeptA, .inl (κ 1, 2, .inl mo_isKept)), (mo_keptA, .inl (κ 0, 34, .inl mo_kept)), (mo_seedsA, .inl (κ 0, 2, .inl mo_seeds))]) → va_S A s.heap H locs → lv_has ls 4 [(3, .int v3)] → pX9_hostage_L74 mo_st v3 s0 s1 w_mo_ahead w_mo_undoMany = some (r0, z_mo_st, z_mo_ahead, z_mo_undoMany) → W p l e { frames := 1, cells := 0, slots := 0, locals := 100 } s m args below meth c H locs 0 0 Q (F0 m 74 ls [.int s0, .int s1, .ref mo_stA]) := by
    intro v3 s0 s1 w_mo_ahead w_mo_undoMany H locs ls hP hD hS hl hres
    unfold pX9_hostage_L74 at hres
    obtain ⟨g9, hres⟩ := og_no hres
    refine kr_iast (f := mo_st) (j := s1.toNatClampNeg) (x := s0) hx hb hK hP hD hS 2 rfl g9 rfl dX9_hostage_74 (fun H locs hP hD hS => ?_)
    have hP : va_P D vwCl ([(moo, .inr (9, [.ref mo_toldA, .ref mo_stA, .int mo_isThere, .int mo_seed, .ref mo_textA, .int mo_typed, .int mo_faultAt, .int mo_place, .int mo_wrong, .int mo_value, .ref mo_readA, .ref mo_aheadA, .int w_mo_undoMany, .ref mo_asideA, .ref mo_weighingsA, .int mo_weighed, .ref mo_bookA, .int mo_entries, .ref mo_isKeptA, .ref mo_keptA, .ref mo_seedsA])), (mo_toldA, .inl (κ 0, 37, .inl mo_told)), (mo_stA, .inl (κ 0, 17, .inl (upd mo_st s1.toNatClampNeg s0))), (mo_textA, .inl (κ 0, 240, .inl mo_text)), (mo_readA, .inl (κ 0, 37, .inl mo_read)), (mo_aheadA, .inl (κ 0, 340, .inl w_mo_ahead)), (mo_asideA, .inl (κ 0, 17, .inl mo_aside)), (mo_weighingsA, .inl (κ 0, 12, .inl mo_weighings)), (mo_bookA, .inl (κ 0, 30, .inl mo_book)), (mo_isKeptA, .inl (κ 1, 2, .inl mo_isKept)), (mo_keptA, .inl (κ 0, 34, .inl mo_kept)), (mo_seedsA, .inl (κ 0, 2, .inl mo_seeds))]) H := hP
    have hD : va_D A ([(moo, .inr (9, [.ref mo_toldA, .ref mo_stA, .int mo_isThere, .int mo_seed, .ref mo_textA, .int mo_typed, .int mo_faultAt, .int mo_place, .int mo_wrong, .int mo_value, .ref mo_readA, .ref mo_aheadA, .int w_mo_undoMany, .ref mo_asideA, .ref mo_weighingsA, .int mo_weighed, .ref mo_bookA, .int mo_entries, .ref mo_isKeptA, .ref mo_keptA, .ref mo_seedsA])), (mo_toldA, .inl (κ 0, 37, .inl mo_told)), (mo_stA, .inl (κ 0, 17, .inl (upd mo_st s1.toNatClampNeg s0))), (mo_textA, .inl (κ 0, 240, .inl mo_text)), (mo_readA, .inl (κ 0, 37, .inl mo_read)), (mo_aheadA, .inl (κ 0, 340, .inl w_mo_ahead)), (mo_asideA, .inl (κ 0, 17, .inl mo_aside)), (mo_weighingsA, .inl (κ 0, 12, .inl mo_weighings)), (mo_bookA, .inl (κ 0, 30, .inl mo_book)), (mo_isKeptA, .inl (κ 1, 2, .inl mo_isKept)), (mo_keptA, .inl (κ 0, 34, .inl mo_kept)), (mo_seedsA, .inl (κ 0, 2, .inl mo_seeds))]) := hD
    refine lv_iload_n hx hb dX9_hostage_75 rfl (lv_at hl 0 rfl) ?_
    have hres := Option.some.inj hres
    have h0 := (Prod.mk.inj hres).1
    replace hres := (Prod.mk.inj hres).2
    have h1 := (Prod.mk.inj hres).1
    replace hres := (Prod.mk.inj hres).2
    have h2 := (Prod.mk.inj hres).1
    replace hres := (Prod.mk.inj hres).2
    have h3 := hres
    subst h0
    subst h1
    subst h2
    subst h3
    exact hret _ _ _ _ (vp_nar_int _) hP hD hS dX9_hostage_76
  unfold pX9_hostage at hres
  refine lv_iload_n hx hb dX9_hostage_0 rfl (lv_at hl 1 rfl) ?_
  refine lv_i2l (v := x1.toInt64) hx hb dX9_hostage_1 rfl ?_
  refine lv_lconst (v := 0) hx hb dX9_hostage_2 (by decide) ?_
  refine lv_aload_n hx hb dX9_hostage_3 rfl (lv_at hl 0 rfl) ?_
  refine va_get (D := D) (ci := 9) (v := .ref mo_toldA) (C := RX9) (T := TX9) (N := 21) hx hb hts iw9 hown hK.1 hP 0 rfl rfl 0 (by decide) k0 (fun _ h9 => h9) rfl dX9_hostage_4 ?_
  refine lv_iconst (v := 4) hx hb dX9_hostage_7 (by decide) ?_
  refine kr_iald (f := mo_told) (j := 4) hx hb hK hP 1 rfl (by decide) (by decide) dX9_hostage_8 ?_
  refine lv_iconst (v := 1) hx hb dX9_hostage_9 (by decide) ?_
  refine lv_isub hx hb dX9_hostage_10 ?_
  refine lv_i2l (v := ((mo_told 4) - 1).toInt64) hx hb dX9_hostage_11 rfl ?_
  obtain ⟨r1, hc2, hres⟩ := kb1_s hres
  refine krI_S0 (As := [.long (x1.toInt64), .long 0, .long (((mo_told 4) - 1).toInt64)]) (rest := []) ⟨hx, hb, hml, hown, hts⟩ hK (tX9_in l D κ (x1.toInt64) 0 (((mo_told 4) - 1).toInt64) r1 hc2) (va_cwS 3 hts gX9_hostage_X9_in rfl rfl rfl (by decide +kernel) ⟨(Nat.le_of_ble_eq_true rfl), (Nat.le_of_ble_eq_true rfl)⟩) hP hD hS hA rfl hl.1 rfl (Nat.le_of_ble_eq_true rfl) dX9_hostage_12 ⟨Nat.zero_le _, Nat.zero_le _⟩ (fun H locs hP hD hS => ?_)
  refine lv_if_ne (tgt := 21) hx hb dX9_hostage_15 (by decide) (fun c3 => ?_) (fun c3 => ?_)
  · replace hres := og_f c3 hres
    refine lv_aload_n hx hb dX9_hostage_21 rfl (lv_at hl 0 rfl) ?_
    obtain ⟨w4, w5, hc6, hres⟩ := kb2_s hres
    refine krV_V (As := []) (rest := []) (wr := []) ⟨hx, hb, hml, hown, hts⟩ hK (tX9_note l D κ moo mo_toldA mo_stA mo_textA mo_readA mo_aheadA mo_asideA mo_weighingsA mo_bookA mo_isKeptA mo_keptA mo_seedsA N mo_told mo_st mo_isThere mo_seed mo_text mo_typed mo_faultAt mo_place mo_wrong mo_value mo_read mo_ahead mo_undoMany mo_aside mo_weighings mo_weighed mo_book mo_entries mo_isKept mo_kept mo_seeds w4 w5 hc6) (cwV 0 hts gX9_hostage_X9_note rfl rfl rfl (by decide +kernel) ⟨(Nat.le_of_ble_eq_true rfl), (Nat.le_of_ble_eq_true rfl)⟩) rfl rfl rfl hP hD hS hA [0, 1, 2, 3, 4, 5, 6, 7, 8, 9, 10, 11] [] rfl rfl rfl rfl (by decide) rfl hl.1 rfl (Nat.le_of_ble_eq_true rfl) dX9_hostage_22 ⟨Nat.zero_le _, Nat.zero_le _⟩ (fun H locs hP hD hS => ?_)
    have hP : va_P D vwCl ([(moo, .inr (9, [.ref mo_toldA, .ref mo_stA, .int mo_isThere, .int mo_seed, .ref mo_textA, .int mo_typed, .int mo_faultAt, .int mo_place, .int mo_wrong, .int mo_value, .ref mo_readA, .ref mo_aheadA, .int w5, .ref mo_asideA, .ref mo_weighingsA, .int mo_weighed, .ref mo_bookA, .int mo_entries, .ref mo_isKeptA, .ref mo_keptA, .ref mo_seedsA])), (mo_toldA, .inl (κ 0, 37, .inl mo_told)), (mo_stA, .inl (κ 0, 17, .inl mo_st)), (mo_textA, .inl (κ 0, 240, .inl mo_text)), (mo_readA, .inl (κ 0, 37, .inl mo_read)), (mo_aheadA, .inl (κ 0, 340, .inl w4)), (mo_asideA, .inl (κ 0, 17, .inl mo_aside)), (mo_weighingsA, .inl (κ 0, 12, .inl mo_weighings)), (mo_bookA, .inl (κ 0, 30, .inl mo_book)), (mo_isKeptA, .inl (κ 1, 2, .inl mo_isKept)), (mo_keptA, .inl (κ 0, 34, .inl mo_kept)), (mo_seedsA, .inl (κ 0, 2, .inl mo_seeds))]) H := hP
    have hD : va_D A ([(moo, .inr (9, [.ref mo_toldA, .ref mo_stA, .int mo_isThere, .int mo_seed, .ref mo_textA, .int mo_typed, .int mo_faultAt, .int mo_place, .int mo_wrong, .int mo_value, .ref mo_readA, .ref mo_aheadA, .int w5, .ref mo_asideA, .ref mo_weighingsA, .int mo_weighed, .ref mo_bookA, .int mo_entries, .ref mo_isKeptA, .ref mo_keptA, .ref mo_seedsA])), (mo_toldA, .inl (κ 0, 37, .inl mo_told)), (mo_stA, .inl (κ 0, 17, .inl mo_st)), (mo_textA, .inl (κ 0, 240, .inl mo_text)), (mo_readA, .inl (κ 0, 37, .inl mo_read)), (mo_aheadA, .inl (κ 0, 340, .inl w4)), (mo_asideA, .inl (κ 0, 17, .inl mo_aside)), (mo_weighingsA, .inl (κ 0, 12, .inl mo_weighings)), (mo_bookA, .inl (κ 0, 30, .inl mo_book)), (mo_isKeptA, .inl (κ 1, 2, .inl mo_isKept)), (mo_keptA, .inl (κ 0, 34, .inl mo_kept)), (mo_seedsA, .inl (κ 0, 2, .inl mo_seeds))]) := hD
    refine lv_aload_n hx hb dX9_hostage_25 rfl (lv_at hl 0 rfl) ?_
    refine va_get (D := D) (ci := 9) (v := .ref mo_stA) (C := RX9) (T := TX9) (N := 21) hx hb hts iw9 hown hK.1 hP 0 rfl rfl 1 (by decide) k1 (fun _ h9 => h9) rfl dX9_hostage_26 ?_
    refine lv_bipush (v := 15) hx hb dX9_hostage_29 (by decide) ?_
    refine kr_iald (f := mo_st) (j := 15) hx hb hK hP 2 rfl (by decide) (by decide) dX9_hostage_31 ?_
    refine lv_iload_n hx hb dX9_hostage_32 rfl (lv_at hl 1 rfl) ?_
    refine lv_ishr hx hb dX9_hostage_33 ?_
    refine lv_iconst (v := 1) hx hb dX9_hostage_34 (by decide) ?_
    refine lv_iand hx hb dX9_hostage_35 ?_
    obtain ⟨y7, ey7, hres⟩ := kl_s hres
    refine kr_tope ey7 ?_
    refine lv_istore_n (lv' := [(3, .int y7), (0, .ref moo), (1, .int x1), (2, .int x2)]) hx hb dX9_hostage_36 rfl hl (by decide) rfl (fun ls hl => ?_)
    refine lv_aload_n hx hb dX9_hostage_37 rfl (lv_at hl 1 rfl) ?_
    refine va_get (D := D) (ci := 9) (v := .ref mo_stA) (C := RX9) (T := TX9) (N := 21) hx hb hts iw9 hown hK.1 hP 0 rfl rfl 1 (by decide) k1 (fun _ h9 => h9) rfl dX9_hostage_38 ?_
    refine lv_bipush (v := 15) hx hb dX9_hostage_41 (by decide) ?_
    refine lv_iload_n hx hb dX9_hostage_43 rfl (lv_at hl 3 rfl) ?_
    refine lv_if_eq (tgt := 61) hx hb dX9_hostage_44 (by decide) (fun c8 => ?_) (fun c8 => ?_)
    · replace hres := og_t c8 hres
      refine lv_aload_n hx hb dX9_hostage_61 rfl (lv_at hl 1 rfl) ?_
      refine va_get (D := D) (ci := 9) (v := .ref mo_stA) (C := RX9) (T := TX9) (N := 21) hx hb hts iw9 hown hK.1 hP 0 rfl rfl 1 (by decide) k1 (fun _ h9 => h9) rfl dX9_hostage_62 ?_
      refine lv_bipush (v := 15) hx hb dX9_hostage_65 (by decide) ?_
      refine kr_iald (f := mo_st) (j := 15) hx hb hK hP 2 rfl (by decide) (by decide) dX9_hostage_67 ?_
      refine lv_iconst (v := 1) hx hb dX9_hostage_68 (by decide) ?_
      refine lv_iload_n hx hb dX9_hostage_69 rfl (lv_at hl 2 rfl) ?_
      refine lv_ishl hx hb dX9_hostage_70 ?_
      refine lv_iconst (v := (-1)) hx hb dX9_hostage_71 (by decide) ?_
      refine lv_ixor hx hb dX9_hostage_72 ?_
      refine lv_iand hx hb dX9_hostage_73 ?_
      exact L74 y7 ((mo_st 15) &&& (((1 : Int32) <<< (x1 &&& 31)) ^^^ (-1))) 15 w4 w5 _ _ _ hP hD hS (lv_sub hl [0] rfl) hres
    · replace hres := og_f c8 hres
      refine lv_aload_n hx hb dX9_hostage_47 rfl (lv_at hl 1 rfl) ?_
      refine va_get (D := D) (ci := 9) (v := .ref mo_stA) (C := RX9) (T := TX9) (N := 21) hx hb hts iw9 hown hK.1 hP 0 rfl rfl 1 (by decide) k1 (fun _ h9 => h9) rfl dX9_hostage_48 ?_
      refine lv_bipush (v := 15) hx hb dX9_hostage_51 (by decide) ?_
      refine kr_iald (f := mo_st) (j := 15) hx hb hK hP 2 rfl (by decide) (by decide) dX9_hostage_53 ?_
      refine lv_iconst (v := 1) hx hb dX9_hostage_54 (by decide) ?_
      refine lv_iload_n hx hb dX9_hostage_55 rfl (lv_at hl 2 rfl) ?_
      refine lv_ishl hx hb dX9_hostage_56 ?_
      refine lv_ior hx hb dX9_hostage_57 ?_
      refine lv_goto (tgt := 74) hx hb dX9_hostage_58 (by decide) ?_
      exact L74 y7 ((mo_st 15) ||| ((1 : Int32) <<< (x1 &&& 31))) 15 w4 w5 _ _ _ hP hD hS (lv_sub hl [0] rfl) hres
  · replace hres := og_t c3 hres
    refine lv_ldc (v := (-1000000001)) hx hb hown k2 dX9_hostage_18 ?_
    have hres := Option.some.inj hres
    have h0 := (Prod.mk.inj hres).1
    replace hres := (Prod.mk.inj hres).2
    have h1 := (Prod.mk.inj hres).1
    replace hres := (Prod.mk.inj hres).2
    have h2 := (Prod.mk.inj hres).1
    replace hres := (Prod.mk.inj hres).2
    have h3 := hres
    subst h0
    subst h1
    subst h2
    subst h3
    exact hret _ _ _ _ (vp_nar_int _) hP hD hS dX9_hostage_20

def pX9_free (N : Nat) (mo_st : Nat → Int32) (mo_isThere : Int32) (mo_ahead : Nat → Int32) (mo_undoMany : Int32) : Option (Int32 × (Nat → Int32) × (Nat → Int32) × Int32) :=
    kb1 (pX9_isHeld mo_st mo_isThere) fun r1 =>
    (if r1 = 0 then
    some ((-1000000003), mo_st, mo_ahead, mo_undoMany)
    else
    kb1 (pX9_cost N mo_st) fun r4 =>
    (if r4 ≤ (mo_st 12) then
    kb2 (pX9_note N mo_st mo_ahead mo_undoMany) fun w7 w8 =>
    kb1 (pX9_cost N mo_st) fun r10 =>
    some (((upd (upd mo_st 12 ((mo_st 12) - r10)) 16 1) 12), (upd (upd mo_st 12 ((mo_st 12) - r10)) 16 1), w7, w8)
    else
    some ((-1000000003), mo_st, mo_ahead, mo_undoMany)))
set_option maxHeartbeats 8000000 in
set_option maxRecDepth 100000 in
theorem tX9_free (l : Launch) (D : va_G) (κ : Nat → ClassId) (moo : Nat) (mo_toldA : Nat) (mo_stA : Nat) (mo_textA : Nat) (mo_readA : Nat) (mo_aheadA : Nat) (mo_asideA : Nat) (mo_weighingsA : Nat) (mo_bookA : Nat) (mo_isKeptA : Nat) (mo_keptA : Nat) (mo_seedsA : Nat) (N : Nat) (mo_told : Nat → Int32) (mo_st : Nat → Int32) (mo_isThere : Int32) (mo_seed : Int32) (mo_text : Nat → Int32) (mo_typed : Int32) (mo_faultAt : Int32) (mo_place : Int32) (mo_wrong : Int32) (mo_value : Int32) (mo_read : Nat → Int32) (mo_ahead : Nat → Int32) (mo_undoMany : Int32) (mo_aside : Nat → Int32) (mo_weighings : Nat → Int32) (mo_weighed : Int32) (mo_book : Nat → Int32) (mo_entries : Int32) (mo_isKept : Nat → Int32) (mo_kept : Nat → Int32) (mo_seeds : Nat → Int32) (r0 : Int32) (z_mo_st : Nat → Int32) (z_mo_ahead : Nat → Int32) (z_mo_undoMany : Int32) (hres : pX9_free N mo_st mo_isThere mo_ahead mo_undoMany = some (r0, z_mo_st, z_mo_ahead, z_mo_undoMany)) : krI l yX9_free wsX9_free { frames := 2, cells := 0, slots := 0, locals := 200 } D κ [.ref moo] ([(moo, .inr (9, [.ref mo_toldA, .ref mo_stA, .int mo_isThere, .int mo_seed, .ref mo_textA, .int mo_typed, .int mo_faultAt, .int mo_place, .int mo_wrong, .int mo_value, .ref mo_readA, .ref mo_aheadA, .int mo_undoMany, .ref mo_asideA, .ref mo_weighingsA, .int mo_weighed, .ref mo_bookA, .int mo_entries, .ref mo_isKeptA, .ref mo_keptA, .ref mo_seedsA])), (mo_toldA, .inl (κ 0, 37, .inl mo_told)), (mo_stA, .inl (κ 0, 17, .inl mo_st)), (mo_textA, .inl (κ 0, 240, .inl mo_text)), (mo_readA, .inl (κ 0, 37, .inl mo_read)), (mo_aheadA, .inl (κ 0, 340, .inl mo_ahead)), (mo_asideA, .inl (κ 0, 17, .inl mo_aside)), (mo_weighingsA, .inl (κ 0, 12, .inl mo_weighings)), (mo_bookA, .inl (κ 0, 30, .inl mo_book)), (mo_isKeptA, .inl (κ 1, 2, .inl mo_isKept)), (mo_keptA, .inl (κ 0, 34, .inl mo_kept)), (mo_seedsA, .inl (κ 0, 2, .inl mo_seeds))]) ([(moo, .inr (9, [.ref mo_toldA, .ref mo_stA, .int mo_isThere, .int mo_seed, .ref mo_textA, .int mo_typed, .int mo_faultAt, .int mo_place, .int mo_wrong, .int mo_value, .ref mo_readA, .ref mo_aheadA, .int z_mo_undoMany, .ref mo_asideA, .ref mo_weighingsA, .int mo_weighed, .ref mo_bookA, .int mo_entries, .ref mo_isKeptA, .ref mo_keptA, .ref mo_seedsA])), (mo_toldA, .inl (κ 0, 37, .inl mo_told)), (mo_stA, .inl (κ 0, 17, .inl z_mo_st)), (mo_textA, .inl (κ 0, 240, .inl mo_text)), (mo_readA, .inl (κ 0, 37, .inl mo_read)), (mo_aheadA, .inl (κ 0, 340, .inl z_mo_ahead)), (mo_asideA, .inl (κ 0, 17, .inl mo_aside)), (mo_weighingsA, .inl (κ 0, 12, .inl mo_weighings)), (mo_bookA, .inl (κ 0, 30, .inl mo_book)), (mo_isKeptA, .inl (κ 1, 2, .inl mo_isKept)), (mo_keptA, .inl (κ 0, 34, .inl mo_kept)), (mo_seedsA, .inl (κ 0, 2, .inl mo_seeds))]) r0 := by
  refine krI_of (cc := cX9_free) (maxL := 1) (rt := .int) (by decide) rfl (Nat.le_of_ble_eq_true rfl) ?_
  intro p e s m args below meth c A Q ls hx hb hml hown hts hK hA hret hP hD hS hl
  have hown : s.vm.findClass RX9 = some m.cls := hown
  have hl : lv_has ls 1 [(0, .ref moo)] := hl
  have iw9 : ∀ w ∈ u_ws RX9 TX9 21, w ∈ wsX9_free := (fun _ h => List.mem_cons_of_mem _ (List.mem_append_right _ h))
  have k0 : (Cond.constant RX9 147 (-1000000003)).before args s = true := hts _ (List.mem_of_getElem? (i := 2) rfl)
  have k1 : (Cond.fieldLink RX9 13 "KingRansomModel" "st" "[I").before args s = true := hts _ (List.mem_of_getElem? (i := 1) rfl)
  unfold pX9_free at hres
  refine lv_aload_n hx hb dX9_free_0 rfl (lv_at hl 0 rfl) ?_
  obtain ⟨r1, hc2, hres⟩ := kb1_s hres
  refine krI_V (As := []) (rest := []) (wr := []) ⟨hx, hb, hml, hown, hts⟩ hK (tX9_isHeld l D κ moo mo_toldA mo_stA mo_textA mo_readA mo_aheadA mo_asideA mo_weighingsA mo_bookA mo_isKeptA mo_keptA mo_seedsA mo_told mo_st mo_isThere mo_seed mo_text mo_typed mo_faultAt mo_place mo_wrong mo_value mo_read mo_ahead mo_undoMany mo_aside mo_weighings mo_weighed mo_book mo_entries mo_isKept mo_kept mo_seeds r1 hc2) (cwV 0 hts gX9_free_X9_isHeld rfl rfl rfl (by decide +kernel) ⟨(Nat.le_of_ble_eq_true rfl), (Nat.le_of_ble_eq_true rfl)⟩) rfl rfl rfl hP hD hS hA [0, 1, 2, 3, 4, 5, 6, 7, 8, 9, 10, 11] [] rfl rfl rfl rfl (by decide) rfl hl.1 rfl (Nat.le_of_ble_eq_true rfl) dX9_free_1 ⟨Nat.zero_le _, Nat.zero_le _⟩ (fun H locs hP hD hS => ?_)
  have hP : va_P D vwCl ([(moo, .inr (9, [.ref mo_toldA, .ref mo_stA, .int mo_isThere, .int mo_seed, .ref mo_textA, .int mo_typed, .int mo_faultAt, .int mo_place, .int mo_wrong, .int mo_value, .ref mo_readA, .ref mo_aheadA, .int mo_undoMany, .ref mo_asideA, .ref mo_weighingsA, .int mo_weighed, .ref mo_bookA, .int mo_entries, .ref mo_isKeptA, .ref mo_keptA, .ref mo_seedsA])), (mo_toldA, .inl (κ 0, 37, .inl mo_told)), (mo_stA, .inl (κ 0, 17, .inl mo_st)), (mo_textA, .inl (κ 0, 240, .inl mo_text)), (mo_readA, .inl (κ 0, 37, .inl mo_read)), (mo_aheadA, .inl (κ 0, 340, .inl mo_ahead)), (mo_asideA, .inl (κ 0, 17, .inl mo_aside)), (mo_weighingsA, .inl (κ 0, 12, .inl mo_weighings)), (mo_bookA, .inl (κ 0, 30, .inl mo_book)), (mo_isKeptA, .inl (κ 1, 2, .inl mo_isKept)), (mo_keptA, .inl (κ 0, 34, .inl mo_kept)), (mo_seedsA, .inl (κ 0, 2, .inl mo_seeds))]) H := hP
  have hD : va_D A ([(moo, .inr (9, [.ref mo_toldA, .ref mo_stA, .int mo_isThere, .int mo_seed, .ref mo_textA, .int mo_typed, .int mo_faultAt, .int mo_place, .int mo_wrong, .int mo_value, .ref mo_readA, .ref mo_aheadA, .int mo_undoMany, .ref mo_asideA, .ref mo_weighingsA, .int mo_weighed, .ref mo_bookA, .int mo_entries, .ref mo_isKeptA, .ref mo_keptA, .ref mo_seedsA])), (mo_toldA, .inl (κ 0, 37, .inl mo_told)), (mo_stA, .inl (κ 0, 17, .inl mo_st)), (mo_textA, .inl (κ 0, 240, .inl mo_text)), (mo_readA, .inl (κ 0, 37, .inl mo_read)), (mo_aheadA, .inl (κ 0, 340, .inl mo_ahead)), (mo_asideA, .inl (κ 0, 17, .inl mo_aside)), (mo_weighingsA, .inl (κ 0, 12, .inl mo_weighings)), (mo_bookA, .inl (κ 0, 30, .inl mo_book)), (mo_isKeptA, .inl (κ 1, 2, .inl mo_isKept)), (mo_keptA, .inl (κ 0, 34, .inl mo_kept)), (mo_seedsA, .inl (κ 0, 2, .inl mo_seeds))]) := hD
  refine lv_if_eq (tgt := 21) hx hb dX9_free_4 (by decide) (fun c3 => ?_) (fun c3 => ?_)
  · replace hres := og_t c3 hres
    refine lv_ldc (v := (-1000000003)) hx hb hown k0 dX9_free_21 ?_
    have hres := Option.some.inj hres
    have h0 := (Prod.mk.inj hres).1
    replace hres := (Prod.mk.inj hres).2
    have h1 := (Prod.mk.inj hres).1
    replace hres := (Prod.mk.inj hres).2
    have h2 := (Prod.mk.inj hres).1
    replace hres := (Prod.mk.inj hres).2
    have h3 := hres
    subst h0
    subst h1
    subst h2
    subst h3
    exact hret _ _ _ _ (vp_nar_int _) hP hD hS dX9_free_23
  · replace hres := og_f c3 hres
    refine lv_aload_n hx hb dX9_free_7 rfl (lv_at hl 0 rfl) ?_
    refine va_get (D := D) (ci := 9) (v := .ref mo_stA) (C := RX9) (T := TX9) (N := 21) hx hb hts iw9 hown hK.1 hP 0 rfl rfl 1 (by decide) k1 (fun _ h9 => h9) rfl dX9_free_8 ?_
    refine lv_bipush (v := 12) hx hb dX9_free_11 (by decide) ?_
    refine kr_iald (f := mo_st) (j := 12) hx hb hK hP 2 rfl (by decide) (by decide) dX9_free_13 ?_
    refine lv_aload_n hx hb dX9_free_14 rfl (lv_at hl 0 rfl) ?_
    obtain ⟨r4, hc5, hres⟩ := kb1_s hres
    refine krI_V (As := []) (rest := [.int (mo_st 12)]) (wr := []) ⟨hx, hb, hml, hown, hts⟩ hK (tX9_cost l D κ moo mo_toldA mo_stA mo_textA mo_readA mo_aheadA mo_asideA mo_weighingsA mo_bookA mo_isKeptA mo_keptA mo_seedsA N mo_told mo_st mo_isThere mo_seed mo_text mo_typed mo_faultAt mo_place mo_wrong mo_value mo_read mo_ahead mo_undoMany mo_aside mo_weighings mo_weighed mo_book mo_entries mo_isKept mo_kept mo_seeds r4 hc5) (cwV 0 hts gX9_free_X9_cost rfl rfl rfl (by decide +kernel) ⟨(Nat.le_of_ble_eq_true rfl), (Nat.le_of_ble_eq_true rfl)⟩) rfl rfl rfl hP hD hS hA [0, 1, 2, 3, 4, 5, 6, 7, 8, 9, 10, 11] [] rfl rfl rfl rfl (by decide) rfl hl.1 rfl (Nat.le_of_ble_eq_true rfl) dX9_free_15 ⟨Nat.zero_le _, Nat.zero_le _⟩ (fun H locs hP hD hS => ?_)
    have hP : va_P D vwCl ([(moo, .inr (9, [.ref mo_toldA, .ref mo_stA, .int mo_isThere, .int mo_seed, .ref mo_textA, .int mo_typed, .int mo_faultAt, .int mo_place, .int mo_wrong, .int mo_value, .ref mo_readA, .ref mo_aheadA, .int mo_undoMany, .ref mo_asideA, .ref mo_weighingsA, .int mo_weighed, .ref mo_bookA, .int mo_entries, .ref mo_isKeptA, .ref mo_keptA, .ref mo_seedsA])), (mo_toldA, .inl (κ 0, 37, .inl mo_told)), (mo_stA, .inl (κ 0, 17, .inl mo_st)), (mo_textA, .inl (κ 0, 240, .inl mo_text)), (mo_readA, .inl (κ 0, 37, .inl mo_read)), (mo_aheadA, .inl (κ 0, 340, .inl mo_ahead)), (mo_asideA, .inl (κ 0, 17, .inl mo_aside)), (mo_weighingsA, .inl (κ 0, 12, .inl mo_weighings)), (mo_bookA, .inl (κ 0, 30, .inl mo_book)), (mo_isKeptA, .inl (κ 1, 2, .inl mo_isKept)), (mo_keptA, .inl (κ 0, 34, .inl mo_kept)), (mo_seedsA, .inl (κ 0, 2, .inl mo_seeds))]) H := hP
    have hD : va_D A ([(moo, .inr (9, [.ref mo_toldA, .ref mo_stA, .int mo_isThere, .int mo_seed, .ref mo_textA, .int mo_typed, .int mo_faultAt, .int mo_place, .int mo_wrong, .int mo_value, .ref mo_readA, .ref mo_aheadA, .int mo_undoMany, .ref mo_asideA, .ref mo_weighingsA, .int mo_weighed, .ref mo_bookA, .int mo_entries, .ref mo_isKeptA, .ref mo_keptA, .ref mo_seedsA])), (mo_toldA, .inl (κ 0, 37, .inl mo_told)), (mo_stA, .inl (κ 0, 17, .inl mo_st)), (mo_textA, .inl (κ 0, 240, .inl mo_text)), (mo_readA, .inl (κ 0, 37, .inl mo_read)), (mo_aheadA, .inl (κ 0, 340, .inl mo_ahead)), (mo_asideA, .inl (κ 0, 17, .inl mo_aside)), (mo_weighingsA, .inl (κ 0, 12, .inl mo_weighings)), (mo_bookA, .inl (κ 0, 30, .inl mo_book)), (mo_isKeptA, .inl (κ 1, 2, .inl mo_isKept)), (mo_keptA, .inl (κ 0, 34, .inl mo_kept)), (mo_seedsA, .inl (κ 0, 2, .inl mo_seeds))]) := hD
    refine lv_icmp_ge (tgt := 24) hx hb dX9_free_18 (by decide) (fun c6 => ?_) (fun c6 => ?_)
    · replace hres := og_t c6 hres
      refine lv_aload_n hx hb dX9_free_24 rfl (lv_at hl 0 rfl) ?_
      obtain ⟨w7, w8, hc9, hres⟩ := kb2_s hres
      refine krV_V (As := []) (rest := []) (wr := []) ⟨hx, hb, hml, hown, hts⟩ hK (tX9_note l D κ moo mo_toldA mo_stA mo_textA mo_readA mo_aheadA mo_asideA mo_weighingsA mo_bookA mo_isKeptA mo_keptA mo_seedsA N mo_told mo_st mo_isThere mo_seed mo_text mo_typed mo_faultAt mo_place mo_wrong mo_value mo_read mo_ahead mo_undoMany mo_aside mo_weighings mo_weighed mo_book mo_entries mo_isKept mo_kept mo_seeds w7 w8 hc9) (cwV 0 hts gX9_free_X9_note rfl rfl rfl (by decide +kernel) ⟨(Nat.le_of_ble_eq_true rfl), (Nat.le_of_ble_eq_true rfl)⟩) rfl rfl rfl hP hD hS hA [0, 1, 2, 3, 4, 5, 6, 7, 8, 9, 10, 11] [] rfl rfl rfl rfl (by decide) rfl hl.1 rfl (Nat.le_of_ble_eq_true rfl) dX9_free_25 ⟨Nat.zero_le _, Nat.zero_le _⟩ (fun H locs hP hD hS => ?_)
      have hP : va_P D vwCl ([(moo, .inr (9, [.ref mo_toldA, .ref mo_stA, .int mo_isThere, .int mo_seed, .ref mo_textA, .int mo_typed, .int mo_faultAt, .int mo_place, .int mo_wrong, .int mo_value, .ref mo_readA, .ref mo_aheadA, .int w8, .ref mo_asideA, .ref mo_weighingsA, .int mo_weighed, .ref mo_bookA, .int mo_entries, .ref mo_isKeptA, .ref mo_keptA, .ref mo_seedsA])), (mo_toldA, .inl (κ 0, 37, .inl mo_told)), (mo_stA, .inl (κ 0, 17, .inl mo_st)), (mo_textA, .inl (κ 0, 240, .inl mo_text)), (mo_readA, .inl (κ 0, 37, .inl mo_read)), (mo_aheadA, .inl (κ 0, 340, .inl w7)), (mo_asideA, .inl (κ 0, 17, .inl mo_aside)), (mo_weighingsA, .inl (κ 0, 12, .inl mo_weighings)), (mo_bookA, .inl (κ 0, 30, .inl mo_book)), (mo_isKeptA, .inl (κ 1, 2, .inl mo_isKept)), (mo_keptA, .inl (κ 0, 34, .inl mo_kept)), (mo_seedsA, .inl (κ 0, 2, .inl mo_seeds))]) H := hP
      have hD : va_D A ([(moo, .inr (9, [.ref mo_toldA, .ref mo_stA, .int mo_isThere, .int mo_seed, .ref mo_textA, .int mo_typed, .int mo_faultAt, .int mo_place, .int mo_wrong, .int mo_value, .ref mo_readA, .ref mo_aheadA, .int w8, .ref mo_asideA, .ref mo_weighingsA, .int mo_weighed, .ref mo_bookA, .int mo_entries, .ref mo_isKeptA, .ref mo_keptA, .ref mo_seedsA])), (mo_toldA, .inl (κ 0, 37, .inl mo_told)), (mo_stA, .inl (κ 0, 17, .inl mo_st)), (mo_textA, .inl (κ 0, 240, .inl mo_text)), (mo_readA, .inl (κ 0, 37, .inl mo_read)), (mo_aheadA, .inl (κ 0, 340, .inl w7)), (mo_asideA, .inl (κ 0, 17, .inl mo_aside)), (mo_weighingsA, .inl (κ 0, 12, .inl mo_weighings)), (mo_bookA, .inl (κ 0, 30, .inl mo_book)), (mo_isKeptA, .inl (κ 1, 2, .inl mo_isKept)), (mo_keptA, .inl (κ 0, 34, .inl mo_kept)), (mo_seedsA, .inl (κ 0, 2, .inl mo_seeds))]) := hD
      refine lv_aload_n hx hb dX9_free_28 rfl (lv_at hl 0 rfl) ?_
      refine va_get (D := D) (ci := 9) (v := .ref mo_stA) (C := RX9) (T := TX9) (N := 21) hx hb hts iw9 hown hK.1 hP 0 rfl rfl 1 (by decide) k1 (fun _ h9 => h9) rfl dX9_free_29 ?_
      refine lv_bipush (v := 12) hx hb dX9_free_32 (by decide) ?_
      refine lv_dup2_11 hx hb dX9_free_34 rfl rfl ?_
      refine kr_iald (f := mo_st) (j := 12) hx hb hK hP 2 rfl (by decide) (by decide) dX9_free_35 ?_
      refine lv_aload_n hx hb dX9_free_36 rfl (lv_at hl 0 rfl) ?_
      obtain ⟨r10, hc11, hres⟩ := kb1_s hres
      refine krI_V (As := []) (rest := [.int (mo_st 12), .int 12, .ref mo_stA]) (wr := []) ⟨hx, hb, hml, hown, hts⟩ hK (tX9_cost l D κ moo mo_toldA mo_stA mo_textA mo_readA mo_aheadA mo_asideA mo_weighingsA mo_bookA mo_isKeptA mo_keptA mo_seedsA N mo_told mo_st mo_isThere mo_seed mo_text mo_typed mo_faultAt mo_place mo_wrong mo_value mo_read w7 w8 mo_aside mo_weighings mo_weighed mo_book mo_entries mo_isKept mo_kept mo_seeds r10 hc11) (cwV 0 hts gX9_free_X9_cost rfl rfl rfl (by decide +kernel) ⟨(Nat.le_of_ble_eq_true rfl), (Nat.le_of_ble_eq_true rfl)⟩) rfl rfl rfl hP hD hS hA [0, 1, 2, 3, 4, 5, 6, 7, 8, 9, 10, 11] [] rfl rfl rfl rfl (by decide) rfl hl.1 rfl (Nat.le_of_ble_eq_true rfl) dX9_free_37 ⟨Nat.zero_le _, Nat.zero_le _⟩ (fun H locs hP hD hS => ?_)
      have hP : va_P D vwCl ([(moo, .inr (9, [.ref mo_toldA, .ref mo_stA, .int mo_isThere, .int mo_seed, .ref mo_textA, .int mo_typed, .int mo_faultAt, .int mo_place, .int mo_wrong, .int mo_value, .ref mo_readA, .ref mo_aheadA, .int w8, .ref mo_asideA, .ref mo_weighingsA, .int mo_weighed, .ref mo_bookA, .int mo_entries, .ref mo_isKeptA, .ref mo_keptA, .ref mo_seedsA])), (mo_toldA, .inl (κ 0, 37, .inl mo_told)), (mo_stA, .inl (κ 0, 17, .inl mo_st)), (mo_textA, .inl (κ 0, 240, .inl mo_text)), (mo_readA, .inl (κ 0, 37, .inl mo_read)), (mo_aheadA, .inl (κ 0, 340, .inl w7)), (mo_asideA, .inl (κ 0, 17, .inl mo_aside)), (mo_weighingsA, .inl (κ 0, 12, .inl mo_weighings)), (mo_bookA, .inl (κ 0, 30, .inl mo_book)), (mo_isKeptA, .inl (κ 1, 2, .inl mo_isKept)), (mo_keptA, .inl (κ 0, 34, .inl mo_kept)), (mo_seedsA, .inl (κ 0, 2, .inl mo_seeds))]) H := hP
      have hD : va_D A ([(moo, .inr (9, [.ref mo_toldA, .ref mo_stA, .int mo_isThere, .int mo_seed, .ref mo_textA, .int mo_typed, .int mo_faultAt, .int mo_place, .int mo_wrong, .int mo_value, .ref mo_readA, .ref mo_aheadA, .int w8, .ref mo_asideA, .ref mo_weighingsA, .int mo_weighed, .ref mo_bookA, .int mo_entries, .ref mo_isKeptA, .ref mo_keptA, .ref mo_seedsA])), (mo_toldA, .inl (κ 0, 37, .inl mo_told)), (mo_stA, .inl (κ 0, 17, .inl mo_st)), (mo_textA, .inl (κ 0, 240, .inl mo_text)), (mo_readA, .inl (κ 0, 37, .inl mo_read)), (mo_aheadA, .inl (κ 0, 340, .inl w7)), (mo_asideA, .inl (κ 0, 17, .inl mo_aside)), (mo_weighingsA, .inl (κ 0, 12, .inl mo_weighings)), (mo_bookA, .inl (κ 0, 30, .inl mo_book)), (mo_isKeptA, .inl (κ 1, 2, .inl mo_isKept)), (mo_keptA, .inl (κ 0, 34, .inl mo_kept)), (mo_seedsA, .inl (κ 0, 2, .inl mo_seeds))]) := hD
      refine lv_isub hx hb dX9_free_40 ?_
      refine kr_iast (f := mo_st) (j := 12) (x := ((mo_st 12) - r10)) hx hb hK hP hD hS 2 rfl (by decide) (by decide) dX9_free_41 (fun H locs hP hD hS => ?_)
      have hP : va_P D vwCl ([(moo, .inr (9, [.ref mo_toldA, .ref mo_stA, .int mo_isThere, .int mo_seed, .ref mo_textA, .int mo_typed, .int mo_faultAt, .int mo_place, .int mo_wrong, .int mo_value, .ref mo_readA, .ref mo_aheadA, .int w8, .ref mo_asideA, .ref mo_weighingsA, .int mo_weighed, .ref mo_bookA, .int mo_entries, .ref mo_isKeptA, .ref mo_keptA, .ref mo_seedsA])), (mo_toldA, .inl (κ 0, 37, .inl mo_told)), (mo_stA, .inl (κ 0, 17, .inl (upd mo_st 12 ((mo_st 12) - r10)))), (mo_textA, .inl (κ 0, 240, .inl mo_text)), (mo_readA, .inl (κ 0, 37, .inl mo_read)), (mo_aheadA, .inl (κ 0, 340, .inl w7)), (mo_asideA, .inl (κ 0, 17, .inl mo_aside)), (mo_weighingsA, .inl (κ 0, 12, .inl mo_weighings)), (mo_bookA, .inl (κ 0, 30, .inl mo_book)), (mo_isKeptA, .inl (κ 1, 2, .inl mo_isKept)), (mo_keptA, .inl (κ 0, 34, .inl mo_kept)), (mo_seedsA, .inl (κ 0, 2, .inl mo_seeds))]) H := hP
      have hD : va_D A ([(moo, .inr (9, [.ref mo_toldA, .ref mo_stA, .int mo_isThere, .int mo_seed, .ref mo_textA, .int mo_typed, .int mo_faultAt, .int mo_place, .int mo_wrong, .int mo_value, .ref mo_readA, .ref mo_aheadA, .int w8, .ref mo_asideA, .ref mo_weighingsA, .int mo_weighed, .ref mo_bookA, .int mo_entries, .ref mo_isKeptA, .ref mo_keptA, .ref mo_seedsA])), (mo_toldA, .inl (κ 0, 37, .inl mo_told)), (mo_stA, .inl (κ 0, 17, .inl (upd mo_st 12 ((mo_st 12) - r10)))), (mo_textA, .inl (κ 0, 240, .inl mo_text)), (mo_readA, .inl (κ 0, 37, .inl mo_read)), (mo_aheadA, .inl (κ 0, 340, .inl w7)), (mo_asideA, .inl (κ 0, 17, .inl mo_aside)), (mo_weighingsA, .inl (κ 0, 12, .inl mo_weighings)), (mo_bookA, .inl (κ 0, 30, .inl mo_book)), (mo_isKeptA, .inl (κ 1, 2, .inl mo_isKept)), (mo_keptA, .inl (κ 0, 34, .inl mo_kept)), (mo_seedsA, .inl (κ 0, 2, .inl mo_seeds))]) := hD
      refine lv_aload_n hx hb dX9_free_42 rfl (lv_at hl 0 rfl) ?_
      refine va_get (D := D) (ci := 9) (v := .ref mo_stA) (C := RX9) (T := TX9) (N := 21) hx hb hts iw9 hown hK.1 hP 0 rfl rfl 1 (by decide) k1 (fun _ h9 => h9) rfl dX9_free_43 ?_
      refine lv_bipush (v := 16) hx hb dX9_free_46 (by decide) ?_
      refine lv_iconst (v := 1) hx hb dX9_free_48 (by decide) ?_
      refine kr_iast (f := (upd mo_st 12 ((mo_st 12) - r10))) (j := 16) (x := 1) hx hb hK hP hD hS 2 rfl (by decide) (by decide) dX9_free_49 (fun H locs hP hD hS => ?_)
      have hP : va_P D vwCl ([(moo, .inr (9, [.ref mo_toldA, .ref mo_stA, .int mo_isThere, .int mo_seed, .ref mo_textA, .int mo_typed, .int mo_faultAt, .int mo_place, .int mo_wrong, .int mo_value, .ref mo_readA, .ref mo_aheadA, .int w8, .ref mo_asideA, .ref mo_weighingsA, .int mo_weighed, .ref mo_bookA, .int mo_entries, .ref mo_isKeptA, .ref mo_keptA, .ref mo_seedsA])), (mo_toldA, .inl (κ 0, 37, .inl mo_told)), (mo_stA, .inl (κ 0, 17, .inl (upd (upd mo_st 12 ((mo_st 12) - r10)) 16 1))), (mo_textA, .inl (κ 0, 240, .inl mo_text)), (mo_readA, .inl (κ 0, 37, .inl mo_read)), (mo_aheadA, .inl (κ 0, 340, .inl w7)), (mo_asideA, .inl (κ 0, 17, .inl mo_aside)), (mo_weighingsA, .inl (κ 0, 12, .inl mo_weighings)), (mo_bookA, .inl (κ 0, 30, .inl mo_book)), (mo_isKeptA, .inl (κ 1, 2, .inl mo_isKept)), (mo_keptA, .inl (κ 0, 34, .inl mo_kept)), (mo_seedsA, .inl (κ 0, 2, .inl mo_seeds))]) H := hP
      have hD : va_D A ([(moo, .inr (9, [.ref mo_toldA, .ref mo_stA, .int mo_isThere, .int mo_seed, .ref mo_textA, .int mo_typed, .int mo_faultAt, .int mo_place, .int mo_wrong, .int mo_value, .ref mo_readA, .ref mo_aheadA, .int w8, .ref mo_asideA, .ref mo_weighingsA, .int mo_weighed, .ref mo_bookA, .int mo_entries, .ref mo_isKeptA, .ref mo_keptA, .ref mo_seedsA])), (mo_toldA, .inl (κ 0, 37, .inl mo_told)), (mo_stA, .inl (κ 0, 17, .inl (upd (upd mo_st 12 ((mo_st 12) - r10)) 16 1))), (mo_textA, .inl (κ 0, 240, .inl mo_text)), (mo_readA, .inl (κ 0, 37, .inl mo_read)), (mo_aheadA, .inl (κ 0, 340, .inl w7)), (mo_asideA, .inl (κ 0, 17, .inl mo_aside)), (mo_weighingsA, .inl (κ 0, 12, .inl mo_weighings)), (mo_bookA, .inl (κ 0, 30, .inl mo_book)), (mo_isKeptA, .inl (κ 1, 2, .inl mo_isKept)), (mo_keptA, .inl (κ 0, 34, .inl mo_kept)), (mo_seedsA, .inl (κ 0, 2, .inl mo_seeds))]) := hD
      refine lv_aload_n hx hb dX9_free_50 rfl (lv_at hl 0 rfl) ?_
      refine va_get (D := D) (ci := 9) (v := .ref mo_stA) (C := RX9) (T := TX9) (N := 21) hx hb hts iw9 hown hK.1 hP 0 rfl rfl 1 (by decide) k1 (fun _ h9 => h9) rfl dX9_free_51 ?_
      refine lv_bipush (v := 12) hx hb dX9_free_54 (by decide) ?_
      refine kr_iald (f := (upd (upd mo_st 12 ((mo_st 12) - r10)) 16 1)) (j := 12) hx hb hK hP 2 rfl (by decide) (by decide) dX9_free_56 ?_
      have hres := Option.some.inj hres
      have h0 := (Prod.mk.inj hres).1
      replace hres := (Prod.mk.inj hres).2
      have h1 := (Prod.mk.inj hres).1
      replace hres := (Prod.mk.inj hres).2
      have h2 := (Prod.mk.inj hres).1
      replace hres := (Prod.mk.inj hres).2
      have h3 := hres
      subst h0
      subst h1
      subst h2
      subst h3
      exact hret _ _ _ _ (vp_nar_int _) hP hD hS dX9_free_57
    · replace hres := og_f c6 hres
      refine lv_ldc (v := (-1000000003)) hx hb hown k0 dX9_free_21 ?_
      have hres := Option.some.inj hres
      have h0 := (Prod.mk.inj hres).1
      replace hres := (Prod.mk.inj hres).2
      have h1 := (Prod.mk.inj hres).1
      replace hres := (Prod.mk.inj hres).2
      have h2 := (Prod.mk.inj hres).1
      replace hres := (Prod.mk.inj hres).2
      have h3 := hres
      subst h0
      subst h1
      subst h2
      subst h3
      exact hret _ _ _ _ (vp_nar_int _) hP hD hS dX9_free_23

def pX9_dies (N : Nat) (mo_st : Nat → Int32) (mo_isThere : Int32) (mo_ahead : Nat → Int32) (mo_undoMany : Int32) : Option (Int32 × (Nat → Int32) × (Nat → Int32) × Int32) :=
    kb1 (pX9_isHeld mo_st mo_isThere) fun r1 =>
    (if r1 = 0 then
    some ((-1000000003), mo_st, mo_ahead, mo_undoMany)
    else
    kb2 (pX9_note N mo_st mo_ahead mo_undoMany) fun w4 w5 =>
    some (((upd mo_st 16 2) 13), (upd mo_st 16 2), w4, w5))
set_option maxHeartbeats 8000000 in
set_option maxRecDepth 100000 in
theorem tX9_dies (l : Launch) (D : va_G) (κ : Nat → ClassId) (moo : Nat) (mo_toldA : Nat) (mo_stA : Nat) (mo_textA : Nat) (mo_readA : Nat) (mo_aheadA : Nat) (mo_asideA : Nat) (mo_weighingsA : Nat) (mo_bookA : Nat) (mo_isKeptA : Nat) (mo_keptA : Nat) (mo_seedsA : Nat) (N : Nat) (mo_told : Nat → Int32) (mo_st : Nat → Int32) (mo_isThere : Int32) (mo_seed : Int32) (mo_text : Nat → Int32) (mo_typed : Int32) (mo_faultAt : Int32) (mo_place : Int32) (mo_wrong : Int32) (mo_value : Int32) (mo_read : Nat → Int32) (mo_ahead : Nat → Int32) (mo_undoMany : Int32) (mo_aside : Nat → Int32) (mo_weighings : Nat → Int32) (mo_weighed : Int32) (mo_book : Nat → Int32) (mo_entries : Int32) (mo_isKept : Nat → Int32) (mo_kept : Nat → Int32) (mo_seeds : Nat → Int32) (r0 : Int32) (z_mo_st : Nat → Int32) (z_mo_ahead : Nat → Int32) (z_mo_undoMany : Int32) (hres : pX9_dies N mo_st mo_isThere mo_ahead mo_undoMany = some (r0, z_mo_st, z_mo_ahead, z_mo_undoMany)) : krI l yX9_dies wsX9_dies { frames := 1, cells := 0, slots := 0, locals := 100 } D κ [.ref moo] ([(moo, .inr (9, [.ref mo_toldA, .ref mo_stA, .int mo_isThere, .int mo_seed, .ref mo_textA, .int mo_typed, .int mo_faultAt, .int mo_place, .int mo_wrong, .int mo_value, .ref mo_readA, .ref mo_aheadA, .int mo_undoMany, .ref mo_asideA, .ref mo_weighingsA, .int mo_weighed, .ref mo_bookA, .int mo_entries, .ref mo_isKeptA, .ref mo_keptA, .ref mo_seedsA])), (mo_toldA, .inl (κ 0, 37, .inl mo_told)), (mo_stA, .inl (κ 0, 17, .inl mo_st)), (mo_textA, .inl (κ 0, 240, .inl mo_text)), (mo_readA, .inl (κ 0, 37, .inl mo_read)), (mo_aheadA, .inl (κ 0, 340, .inl mo_ahead)), (mo_asideA, .inl (κ 0, 17, .inl mo_aside)), (mo_weighingsA, .inl (κ 0, 12, .inl mo_weighings)), (mo_bookA, .inl (κ 0, 30, .inl mo_book)), (mo_isKeptA, .inl (κ 1, 2, .inl mo_isKept)), (mo_keptA, .inl (κ 0, 34, .inl mo_kept)), (mo_seedsA, .inl (κ 0, 2, .inl mo_seeds))]) ([(moo, .inr (9, [.ref mo_toldA, .ref mo_stA, .int mo_isThere, .int mo_seed, .ref mo_textA, .int mo_typed, .int mo_faultAt, .int mo_place, .int mo_wrong, .int mo_value, .ref mo_readA, .ref mo_aheadA, .int z_mo_undoMany, .ref mo_asideA, .ref mo_weighingsA, .int mo_weighed, .ref mo_bookA, .int mo_entries, .ref mo_isKeptA, .ref mo_keptA, .ref mo_seedsA])), (mo_toldA, .inl (κ 0, 37, .inl mo_told)), (mo_stA, .inl (κ 0, 17, .inl z_mo_st)), (mo_textA, .inl (κ 0, 240, .inl mo_text)), (mo_readA, .inl (κ 0, 37, .inl mo_read)), (mo_aheadA, .inl (κ 0, 340, .inl z_mo_ahead)), (mo_asideA, .inl (κ 0, 17, .inl mo_aside)), (mo_weighingsA, .inl (κ 0, 12, .inl mo_weighings)), (mo_bookA, .inl (κ 0, 30, .inl mo_book)), (mo_isKeptA, .inl (κ 1, 2, .inl mo_isKept)), (mo_keptA, .inl (κ 0, 34, .inl mo_kept)), (mo_seedsA, .inl (κ 0, 2, .inl mo_seeds))]) r0 := by
  refine krI_of (cc := cX9_dies) (maxL := 1) (rt := .int) (by decide) rfl (Nat.le_of_ble_eq_true rfl) ?_
  intro p e s m args below meth c A Q ls hx hb hml hown hts hK hA hret hP hD hS hl
  have hown : s.vm.findClass RX9 = some m.cls := hown
  have hl : lv_has ls 1 [(0, .ref moo)] := hl
  have iw9 : ∀ w ∈ u_ws RX9 TX9 21, w ∈ wsX9_dies := (fun _ h => List.mem_cons_of_mem _ (List.mem_append_right _ h))
  have k0 : (Cond.fieldLink RX9 13 "KingRansomModel" "st" "[I").before args s = true := hts _ (List.mem_of_getElem? (i := 2) rfl)
  have k1 : (Cond.constant RX9 147 (-1000000003)).before args s = true := hts _ (List.mem_of_getElem? (i := 1) rfl)
  unfold pX9_dies at hres
  refine lv_aload_n hx hb dX9_dies_0 rfl (lv_at hl 0 rfl) ?_
  obtain ⟨r1, hc2, hres⟩ := kb1_s hres
  refine krI_V (As := []) (rest := []) (wr := []) ⟨hx, hb, hml, hown, hts⟩ hK (tX9_isHeld l D κ moo mo_toldA mo_stA mo_textA mo_readA mo_aheadA mo_asideA mo_weighingsA mo_bookA mo_isKeptA mo_keptA mo_seedsA mo_told mo_st mo_isThere mo_seed mo_text mo_typed mo_faultAt mo_place mo_wrong mo_value mo_read mo_ahead mo_undoMany mo_aside mo_weighings mo_weighed mo_book mo_entries mo_isKept mo_kept mo_seeds r1 hc2) (cwV 0 hts gX9_dies_X9_isHeld rfl rfl rfl (by decide +kernel) ⟨(Nat.le_of_ble_eq_true rfl), (Nat.le_of_ble_eq_true rfl)⟩) rfl rfl rfl hP hD hS hA [0, 1, 2, 3, 4, 5, 6, 7, 8, 9, 10, 11] [] rfl rfl rfl rfl (by decide) rfl hl.1 rfl (Nat.le_of_ble_eq_true rfl) dX9_dies_1 ⟨Nat.zero_le _, Nat.zero_le _⟩ (fun H locs hP hD hS => ?_)
  have hP : va_P D vwCl ([(moo, .inr (9, [.ref mo_toldA, .ref mo_stA, .int mo_isThere, .int mo_seed, .ref mo_textA, .int mo_typed, .int mo_faultAt, .int mo_place, .int mo_wrong, .int mo_value, .ref mo_readA, .ref mo_aheadA, .int mo_undoMany, .ref mo_asideA, .ref mo_weighingsA, .int mo_weighed, .ref mo_bookA, .int mo_entries, .ref mo_isKeptA, .ref mo_keptA, .ref mo_seedsA])), (mo_toldA, .inl (κ 0, 37, .inl mo_told)), (mo_stA, .inl (κ 0, 17, .inl mo_st)), (mo_textA, .inl (κ 0, 240, .inl mo_text)), (mo_readA, .inl (κ 0, 37, .inl mo_read)), (mo_aheadA, .inl (κ 0, 340, .inl mo_ahead)), (mo_asideA, .inl (κ 0, 17, .inl mo_aside)), (mo_weighingsA, .inl (κ 0, 12, .inl mo_weighings)), (mo_bookA, .inl (κ 0, 30, .inl mo_book)), (mo_isKeptA, .inl (κ 1, 2, .inl mo_isKept)), (mo_keptA, .inl (κ 0, 34, .inl mo_kept)), (mo_seedsA, .inl (κ 0, 2, .inl mo_seeds))]) H := hP
  have hD : va_D A ([(moo, .inr (9, [.ref mo_toldA, .ref mo_stA, .int mo_isThere, .int mo_seed, .ref mo_textA, .int mo_typed, .int mo_faultAt, .int mo_place, .int mo_wrong, .int mo_value, .ref mo_readA, .ref mo_aheadA, .int mo_undoMany, .ref mo_asideA, .ref mo_weighingsA, .int mo_weighed, .ref mo_bookA, .int mo_entries, .ref mo_isKeptA, .ref mo_keptA, .ref mo_seedsA])), (mo_toldA, .inl (κ 0, 37, .inl mo_told)), (mo_stA, .inl (κ 0, 17, .inl mo_st)), (mo_textA, .inl (κ 0, 240, .inl mo_text)), (mo_readA, .inl (κ 0, 37, .inl mo_read)), (mo_aheadA, .inl (κ 0, 340, .inl mo_ahead)), (mo_asideA, .inl (κ 0, 17, .inl mo_aside)), (mo_weighingsA, .inl (κ 0, 12, .inl mo_weighings)), (mo_bookA, .inl (κ 0, 30, .inl mo_book)), (mo_isKeptA, .inl (κ 1, 2, .inl mo_isKept)), (mo_keptA, .inl (κ 0, 34, .inl mo_kept)), (mo_seedsA, .inl (κ 0, 2, .inl mo_seeds))]) := hD
  refine lv_if_ne (tgt := 10) hx hb dX9_dies_4 (by decide) (fun c3 => ?_) (fun c3 => ?_)
  · replace hres := og_f c3 hres
    refine lv_aload_n hx hb dX9_dies_10 rfl (lv_at hl 0 rfl) ?_
    obtain ⟨w4, w5, hc6, hres⟩ := kb2_s hres
    refine krV_V (As := []) (rest := []) (wr := []) ⟨hx, hb, hml, hown, hts⟩ hK (tX9_note l D κ moo mo_toldA mo_stA mo_textA mo_readA mo_aheadA mo_asideA mo_weighingsA mo_bookA mo_isKeptA mo_keptA mo_seedsA N mo_told mo_st mo_isThere mo_seed mo_text mo_typed mo_faultAt mo_place mo_wrong mo_value mo_read mo_ahead mo_undoMany mo_aside mo_weighings mo_weighed mo_book mo_entries mo_isKept mo_kept mo_seeds w4 w5 hc6) (cwV 0 hts gX9_dies_X9_note rfl rfl rfl (by decide +kernel) ⟨(Nat.le_of_ble_eq_true rfl), (Nat.le_of_ble_eq_true rfl)⟩) rfl rfl rfl hP hD hS hA [0, 1, 2, 3, 4, 5, 6, 7, 8, 9, 10, 11] [] rfl rfl rfl rfl (by decide) rfl hl.1 rfl (Nat.le_of_ble_eq_true rfl) dX9_dies_11 ⟨Nat.zero_le _, Nat.zero_le _⟩ (fun H locs hP hD hS => ?_)
    have hP : va_P D vwCl ([(moo, .inr (9, [.ref mo_toldA, .ref mo_stA, .int mo_isThere, .int mo_seed, .ref mo_textA, .int mo_typed, .int mo_faultAt, .int mo_place, .int mo_wrong, .int mo_value, .ref mo_readA, .ref mo_aheadA, .int w5, .ref mo_asideA, .ref mo_weighingsA, .int mo_weighed, .ref mo_bookA, .int mo_entries, .ref mo_isKeptA, .ref mo_keptA, .ref mo_seedsA])), (mo_toldA, .inl (κ 0, 37, .inl mo_told)), (mo_stA, .inl (κ 0, 17, .inl mo_st)), (mo_textA, .inl (κ 0, 240, .inl mo_text)), (mo_readA, .inl (κ 0, 37, .inl mo_read)), (mo_aheadA, .inl (κ 0, 340, .inl w4)), (mo_asideA, .inl (κ 0, 17, .inl mo_aside)), (mo_weighingsA, .inl (κ 0, 12, .inl mo_weighings)), (mo_bookA, .inl (κ 0, 30, .inl mo_book)), (mo_isKeptA, .inl (κ 1, 2, .inl mo_isKept)), (mo_keptA, .inl (κ 0, 34, .inl mo_kept)), (mo_seedsA, .inl (κ 0, 2, .inl mo_seeds))]) H := hP
    have hD : va_D A ([(moo, .inr (9, [.ref mo_toldA, .ref mo_stA, .int mo_isThere, .int mo_seed, .ref mo_textA, .int mo_typed, .int mo_faultAt, .int mo_place, .int mo_wrong, .int mo_value, .ref mo_readA, .ref mo_aheadA, .int w5, .ref mo_asideA, .ref mo_weighingsA, .int mo_weighed, .ref mo_bookA, .int mo_entries, .ref mo_isKeptA, .ref mo_keptA, .ref mo_seedsA])), (mo_toldA, .inl (κ 0, 37, .inl mo_told)), (mo_stA, .inl (κ 0, 17, .inl mo_st)), (mo_textA, .inl (κ 0, 240, .inl mo_text)), (mo_readA, .inl (κ 0, 37, .inl mo_read)), (mo_aheadA, .inl (κ 0, 340, .inl w4)), (mo_asideA, .inl (κ 0, 17, .inl mo_aside)), (mo_weighingsA, .inl (κ 0, 12, .inl mo_weighings)), (mo_bookA, .inl (κ 0, 30, .inl mo_book)), (mo_isKeptA, .inl (κ 1, 2, .inl mo_isKept)), (mo_keptA, .inl (κ 0, 34, .inl mo_kept)), (mo_seedsA, .inl (κ 0, 2, .inl mo_seeds))]) := hD
    refine lv_aload_n hx hb dX9_dies_14 rfl (lv_at hl 0 rfl) ?_
    refine va_get (D := D) (ci := 9) (v := .ref mo_stA) (C := RX9) (T := TX9) (N := 21) hx hb hts iw9 hown hK.1 hP 0 rfl rfl 1 (by decide) k0 (fun _ h9 => h9) rfl dX9_dies_15 ?_
    refine lv_bipush (v := 16) hx hb dX9_dies_18 (by decide) ?_
    refine lv_iconst (v := 2) hx hb dX9_dies_20 (by decide) ?_
    refine kr_iast (f := mo_st) (j := 16) (x := 2) hx hb hK hP hD hS 2 rfl (by decide) (by decide) dX9_dies_21 (fun H locs hP hD hS => ?_)
    have hP : va_P D vwCl ([(moo, .inr (9, [.ref mo_toldA, .ref mo_stA, .int mo_isThere, .int mo_seed, .ref mo_textA, .int mo_typed, .int mo_faultAt, .int mo_place, .int mo_wrong, .int mo_value, .ref mo_readA, .ref mo_aheadA, .int w5, .ref mo_asideA, .ref mo_weighingsA, .int mo_weighed, .ref mo_bookA, .int mo_entries, .ref mo_isKeptA, .ref mo_keptA, .ref mo_seedsA])), (mo_toldA, .inl (κ 0, 37, .inl mo_told)), (mo_stA, .inl (κ 0, 17, .inl (upd mo_st 16 2))), (mo_textA, .inl (κ 0, 240, .inl mo_text)), (mo_readA, .inl (κ 0, 37, .inl mo_read)), (mo_aheadA, .inl (κ 0, 340, .inl w4)), (mo_asideA, .inl (κ 0, 17, .inl mo_aside)), (mo_weighingsA, .inl (κ 0, 12, .inl mo_weighings)), (mo_bookA, .inl (κ 0, 30, .inl mo_book)), (mo_isKeptA, .inl (κ 1, 2, .inl mo_isKept)), (mo_keptA, .inl (κ 0, 34, .inl mo_kept)), (mo_seedsA, .inl (κ 0, 2, .inl mo_seeds))]) H := hP
    have hD : va_D A ([(moo, .inr (9, [.ref mo_toldA, .ref mo_stA, .int mo_isThere, .int mo_seed, .ref mo_textA, .int mo_typed, .int mo_faultAt, .int mo_place, .int mo_wrong, .int mo_value, .ref mo_readA, .ref mo_aheadA, .int w5, .ref mo_asideA, .ref mo_weighingsA, .int mo_weighed, .ref mo_bookA, .int mo_entries, .ref mo_isKeptA, .ref mo_keptA, .ref mo_seedsA])), (mo_toldA, .inl (κ 0, 37, .inl mo_told)), (mo_stA, .inl (κ 0, 17, .inl (upd mo_st 16 2))), (mo_textA, .inl (κ 0, 240, .inl mo_text)), (mo_readA, .inl (κ 0, 37, .inl mo_read)), (mo_aheadA, .inl (κ 0, 340, .inl w4)), (mo_asideA, .inl (κ 0, 17, .inl mo_aside)), (mo_weighingsA, .inl (κ 0, 12, .inl mo_weighings)), (mo_bookA, .inl (κ 0, 30, .inl mo_book)), (mo_isKeptA, .inl (κ 1, 2, .inl mo_isKept)), (mo_keptA, .inl (κ 0, 34, .inl mo_kept)), (mo_seedsA, .inl (κ 0, 2, .inl mo_seeds))]) := hD
    refine lv_aload_n hx hb dX9_dies_22 rfl (lv_at hl 0 rfl) ?_
    refine va_get (D := D) (ci := 9) (v := .ref mo_stA) (C := RX9) (T := TX9) (N := 21) hx hb hts iw9 hown hK.1 hP 0 rfl rfl 1 (by decide) k0 (fun _ h9 => h9) rfl dX9_dies_23 ?_
    refine lv_bipush (v := 13) hx hb dX9_dies_26 (by decide) ?_
    refine kr_iald (f := (upd mo_st 16 2)) (j := 13) hx hb hK hP 2 rfl (by decide) (by decide) dX9_dies_28 ?_
    have hres := Option.some.inj hres
    have h0 := (Prod.mk.inj hres).1
    replace hres := (Prod.mk.inj hres).2
    have h1 := (Prod.mk.inj hres).1
    replace hres := (Prod.mk.inj hres).2
    have h2 := (Prod.mk.inj hres).1
    replace hres := (Prod.mk.inj hres).2
    have h3 := hres
    subst h0
    subst h1
    subst h2
    subst h3
    exact hret _ _ _ _ (vp_nar_int _) hP hD hS dX9_dies_29
  · replace hres := og_t c3 hres
    refine lv_ldc (v := (-1000000003)) hx hb hown k1 dX9_dies_7 ?_
    have hres := Option.some.inj hres
    have h0 := (Prod.mk.inj hres).1
    replace hres := (Prod.mk.inj hres).2
    have h1 := (Prod.mk.inj hres).1
    replace hres := (Prod.mk.inj hres).2
    have h2 := (Prod.mk.inj hres).1
    replace hres := (Prod.mk.inj hres).2
    have h3 := hres
    subst h0
    subst h1
    subst h2
    subst h3
    exact hret _ _ _ _ (vp_nar_int _) hP hD hS dX9_dies_9

def pX9_draw (x1 : Int32) (mo_seed : Int32) : Option (Int32 × Int32) :=
    kl (((((mo_seed.toInt64) * 1103515245) + 12345) - (((mo_seed.toInt64) * 1103515245) + 12345) / 2147483648 * 2147483648).toInt32) fun y1 =>
    if x1 = 0 then none else
    some (((y1 / 65536) - (y1 / 65536) / x1 * x1), y1)
set_option maxHeartbeats 8000000 in
set_option maxRecDepth 100000 in
theorem tX9_draw (l : Launch) (D : va_G) (κ : Nat → ClassId) (moo : Nat) (mo_toldA : Nat) (mo_stA : Nat) (mo_textA : Nat) (mo_readA : Nat) (mo_aheadA : Nat) (mo_asideA : Nat) (mo_weighingsA : Nat) (mo_bookA : Nat) (mo_isKeptA : Nat) (mo_keptA : Nat) (mo_seedsA : Nat) (mo_told : Nat → Int32) (mo_st : Nat → Int32) (mo_isThere : Int32) (mo_seed : Int32) (mo_text : Nat → Int32) (mo_typed : Int32) (mo_faultAt : Int32) (mo_place : Int32) (mo_wrong : Int32) (mo_value : Int32) (mo_read : Nat → Int32) (mo_ahead : Nat → Int32) (mo_undoMany : Int32) (mo_aside : Nat → Int32) (mo_weighings : Nat → Int32) (mo_weighed : Int32) (mo_book : Nat → Int32) (mo_entries : Int32) (mo_isKept : Nat → Int32) (mo_kept : Nat → Int32) (mo_seeds : Nat → Int32) (x1 : Int32) (r0 : Int32) (z_mo_seed : Int32) (hres : pX9_draw x1 mo_seed = some (r0, z_mo_seed)) : krI l yX9_draw wsX9_draw { frames := 0, cells := 0, slots := 0, locals := 0 } D κ [.ref moo, .int x1] ([(moo, .inr (9, [.ref mo_toldA, .ref mo_stA, .int mo_isThere, .int mo_seed, .ref mo_textA, .int mo_typed, .int mo_faultAt, .int mo_place, .int mo_wrong, .int mo_value, .ref mo_readA, .ref mo_aheadA, .int mo_undoMany, .ref mo_asideA, .ref mo_weighingsA, .int mo_weighed, .ref mo_bookA, .int mo_entries, .ref mo_isKeptA, .ref mo_keptA, .ref mo_seedsA])), (mo_toldA, .inl (κ 0, 37, .inl mo_told)), (mo_stA, .inl (κ 0, 17, .inl mo_st)), (mo_textA, .inl (κ 0, 240, .inl mo_text)), (mo_readA, .inl (κ 0, 37, .inl mo_read)), (mo_aheadA, .inl (κ 0, 340, .inl mo_ahead)), (mo_asideA, .inl (κ 0, 17, .inl mo_aside)), (mo_weighingsA, .inl (κ 0, 12, .inl mo_weighings)), (mo_bookA, .inl (κ 0, 30, .inl mo_book)), (mo_isKeptA, .inl (κ 1, 2, .inl mo_isKept)), (mo_keptA, .inl (κ 0, 34, .inl mo_kept)), (mo_seedsA, .inl (κ 0, 2, .inl mo_seeds))]) ([(moo, .inr (9, [.ref mo_toldA, .ref mo_stA, .int mo_isThere, .int z_mo_seed, .ref mo_textA, .int mo_typed, .int mo_faultAt, .int mo_place, .int mo_wrong, .int mo_value, .ref mo_readA, .ref mo_aheadA, .int mo_undoMany, .ref mo_asideA, .ref mo_weighingsA, .int mo_weighed, .ref mo_bookA, .int mo_entries, .ref mo_isKeptA, .ref mo_keptA, .ref mo_seedsA])), (mo_toldA, .inl (κ 0, 37, .inl mo_told)), (mo_stA, .inl (κ 0, 17, .inl mo_st)), (mo_textA, .inl (κ 0, 240, .inl mo_text)), (mo_readA, .inl (κ 0, 37, .inl mo_read)), (mo_aheadA, .inl (κ 0, 340, .inl mo_ahead)), (mo_asideA, .inl (κ 0, 17, .inl mo_aside)), (mo_weighingsA, .inl (κ 0, 12, .inl mo_weighings)), (mo_bookA, .inl (κ 0, 30, .inl mo_book)), (mo_isKeptA, .inl (κ 1, 2, .inl mo_isKept)), (mo_keptA, .inl (κ 0, 34, .inl mo_kept)), (mo_seedsA, .inl (κ 0, 2, .inl mo_seeds))]) r0 := by
  refine krI_of (cc := cX9_draw) (maxL := 2) (rt := .int) (by decide) rfl (Nat.le_of_ble_eq_true rfl) ?_
  intro p e s m args below meth c A Q ls hx hb hml hown hts hK hA hret hP hD hS hl
  have hown : s.vm.findClass RX9 = some m.cls := hown
  have hl : lv_has ls 2 [(0, .ref moo), (1, .int x1)] := hl
  have iw9 : ∀ w ∈ u_ws RX9 TX9 21, w ∈ wsX9_draw := (fun _ h => List.mem_cons_of_mem _ (List.mem_append_right _ h))
  have k0 : (Cond.fieldLink RX9 159 "KingRansomModel" "seed" "I").before args s = true := hts _ (List.mem_of_getElem? (i := 1) rfl)
  have k1 : (Cond.constantLong RX9 162 (1103515245)).before args s = true := hts _ (List.mem_of_getElem? (i := 2) rfl)
  have k2 : (Cond.constantLong RX9 164 (12345)).before args s = true := hts _ (List.mem_of_getElem? (i := 3) rfl)
  have k3 : (Cond.constantLong RX9 166 (2147483648)).before args s = true := hts _ (List.mem_of_getElem? (i := 4) rfl)
  have k4 : (Cond.constant RX9 168 (65536)).before args s = true := hts _ (List.mem_of_getElem? (i := 5) rfl)
  unfold pX9_draw at hres
  refine lv_aload_n hx hb dX9_draw_0 rfl (lv_at hl 0 rfl) ?_
  refine lv_aload_n hx hb dX9_draw_1 rfl (lv_at hl 0 rfl) ?_
  refine va_get (D := D) (ci := 9) (v := .int mo_seed) (C := RX9) (T := TX9) (N := 21) hx hb hts iw9 hown hK.1 hP 0 rfl rfl 3 (by decide) k0 (fun _ h9 => h9) rfl dX9_draw_2 ?_
  refine lv_i2l (v := mo_seed.toInt64) hx hb dX9_draw_5 rfl ?_
  refine lv_ldc2 (v := 1103515245) hx hb hown k1 dX9_draw_6 ?_
  refine lv_lmul hx hb dX9_draw_9 ?_
  refine lv_ldc2 (v := 12345) hx hb hown k2 dX9_draw_10 ?_
  refine lv_ladd hx hb dX9_draw_13 ?_
  refine lv_ldc2 (v := 2147483648) hx hb hown k3 dX9_draw_14 ?_
  refine lv_lrem hx hb dX9_draw_17 (by decide) ?_
  refine lv_l2i (v := ((((mo_seed.toInt64) * 1103515245) + 12345) - (((mo_seed.toInt64) * 1103515245) + 12345) / 2147483648 * 2147483648).toInt32) hx hb dX9_draw_18 rfl ?_
  obtain ⟨y1, ey1, hres⟩ := kl_s hres
  refine kr_tope ey1 ?_
  refine va_put (D := D) (ci := 9) (v := .int y1) (ty := .int) (C := RX9) (T := TX9) (N := 21) hx hb hts iw9 tyX9 tyX9_ok nmX9 hown hK.1 hP hD hS 0 rfl rfl 3 (by decide) k0 (fun _ h9 => h9) rfl (tyX9_ok 3 (by decide)) rfl rfl (Nat.le_of_ble_eq_true rfl) dX9_draw_19 (fun H locs hP hD hS => ?_)
  have hP : va_P D vwCl ([(moo, .inr (9, [.ref mo_toldA, .ref mo_stA, .int mo_isThere, .int y1, .ref mo_textA, .int mo_typed, .int mo_faultAt, .int mo_place, .int mo_wrong, .int mo_value, .ref mo_readA, .ref mo_aheadA, .int mo_undoMany, .ref mo_asideA, .ref mo_weighingsA, .int mo_weighed, .ref mo_bookA, .int mo_entries, .ref mo_isKeptA, .ref mo_keptA, .ref mo_seedsA])), (mo_toldA, .inl (κ 0, 37, .inl mo_told)), (mo_stA, .inl (κ 0, 17, .inl mo_st)), (mo_textA, .inl (κ 0, 240, .inl mo_text)), (mo_readA, .inl (κ 0, 37, .inl mo_read)), (mo_aheadA, .inl (κ 0, 340, .inl mo_ahead)), (mo_asideA, .inl (κ 0, 17, .inl mo_aside)), (mo_weighingsA, .inl (κ 0, 12, .inl mo_weighings)), (mo_bookA, .inl (κ 0, 30, .inl mo_book)), (mo_isKeptA, .inl (κ 1, 2, .inl mo_isKept)), (mo_keptA, .inl (κ 0, 34, .inl mo_kept)), (mo_seedsA, .inl (κ 0, 2, .inl mo_seeds))]) H := hP
  have hD : va_D A ([(moo, .inr (9, [.ref mo_toldA, .ref mo_stA, .int mo_isThere, .int y1, .ref mo_textA, .int mo_typed, .int mo_faultAt, .int mo_place, .int mo_wrong, .int mo_value, .ref mo_readA, .ref mo_aheadA, .int mo_undoMany, .ref mo_asideA, .ref mo_weighingsA, .int mo_weighed, .ref mo_bookA, .int mo_entries, .ref mo_isKeptA, .ref mo_keptA, .ref mo_seedsA])), (mo_toldA, .inl (κ 0, 37, .inl mo_told)), (mo_stA, .inl (κ 0, 17, .inl mo_st)), (mo_textA, .inl (κ 0, 240, .inl mo_text)), (mo_readA, .inl (κ 0, 37, .inl mo_read)), (mo_aheadA, .inl (κ 0, 340, .inl mo_ahead)), (mo_asideA, .inl (κ 0, 17, .inl mo_aside)), (mo_weighingsA, .inl (κ 0, 12, .inl mo_weighings)), (mo_bookA, .inl (κ 0, 30, .inl mo_book)), (mo_isKeptA, .inl (κ 1, 2, .inl mo_isKept)), (mo_keptA, .inl (κ 0, 34, .inl mo_kept)), (mo_seedsA, .inl (κ 0, 2, .inl mo_seeds))]) := hD
  refine lv_aload_n hx hb dX9_draw_22 rfl (lv_at hl 0 rfl) ?_
  refine va_get (D := D) (ci := 9) (v := .int y1) (C := RX9) (T := TX9) (N := 21) hx hb hts iw9 hown hK.1 hP 0 rfl rfl 3 (by decide) k0 (fun _ h9 => h9) rfl dX9_draw_23 ?_
  refine lv_ldc (v := 65536) hx hb hown k4 dX9_draw_26 ?_
  refine lv_idiv hx hb dX9_draw_28 (by decide) ?_
  refine lv_iload_n hx hb dX9_draw_29 rfl (lv_at hl 1 rfl) ?_
  obtain ⟨g2, hres⟩ := og_no hres
  refine lv_irem hx hb dX9_draw_30 g2 ?_
  have hres := Option.some.inj hres
  have h0 := (Prod.mk.inj hres).1
  replace hres := (Prod.mk.inj hres).2
  have h1 := hres
  subst h0
  subst h1
  exact hret _ _ _ _ (vp_nar_int _) hP hD hS dX9_draw_31

def pX9_drift_L69 (w_mo_st : Nat → Int32) (w_mo_seed : Int32) (w_mo_ahead : Nat → Int32) (w_mo_undoMany : Int32) : Option (Int32 × (Nat → Int32) × Int32 × (Nat → Int32) × Int32) :=
    some ((w_mo_st 16), w_mo_st, w_mo_seed, w_mo_ahead, w_mo_undoMany)
def pX9_drift_L63 (k18 : Int32 → (Nat → Int32) → Int32 → (Nat → Int32) → Int32 → Option (Int32 × (Nat → Int32) × Int32 × (Nat → Int32) × Int32)) (v3 : Int32) (w_mo_st : Nat → Int32) (w_mo_seed : Int32) (w_mo_ahead : Nat → Int32) (w_mo_undoMany : Int32) : Option (Int32 × (Nat → Int32) × Int32 × (Nat → Int32) × Int32) :=
    k18 (v3 + 1) w_mo_st w_mo_seed w_mo_ahead w_mo_undoMany
def pX9_drift_L18 (N : Nat) (x1 : Int32) (mo_told : Nat → Int32) : Nat → Int32 → (Nat → Int32) → Int32 → (Nat → Int32) → Int32 → Option (Int32 × (Nat → Int32) × Int32 × (Nat → Int32) × Int32)
  | 0, _, _, _, _, _ => none
  | n18 + 1, v3, w_mo_st, w_mo_seed, w_mo_ahead, w_mo_undoMany =>
    (if x1 ≤ v3 then
    pX9_drift_L69 w_mo_st w_mo_seed w_mo_ahead w_mo_undoMany
    else
    (if (w_mo_st 16) = 0 then
    kb2 (pX9_draw 100 w_mo_seed) fun r9 w10 =>
    (if (mo_told 1) ≤ r9 then
    kb1 (pX9_oneMonth N mo_told w_mo_st) fun w13 =>
    pX9_drift_L63 (pX9_drift_L18 N x1 mo_told n18) v3 w13 w10 w_mo_ahead w_mo_undoMany
    else
    pX9_drift_L63 (pX9_drift_L18 N x1 mo_told n18) v3 (upd w_mo_st 16 2) w10 w_mo_ahead w_mo_undoMany)
    else
    pX9_drift_L69 w_mo_st w_mo_seed w_mo_ahead w_mo_undoMany))
def pX9_drift (N : Nat) (x1 : Int32) (mo_told : Nat → Int32) (mo_st : Nat → Int32) (mo_isThere : Int32) (mo_seed : Int32) (mo_ahead : Nat → Int32) (mo_undoMany : Int32) : Option (Int32 × (Nat → Int32) × Int32 × (Nat → Int32) × Int32) :=
    kb1 (pX9_lacksTime x1 mo_st mo_isThere) fun r1 =>
    (if 0 ≤ r1 then
    kb2 (pX9_note N mo_st mo_ahead mo_undoMany) fun w4 w5 =>
    pX9_drift_L18 N x1 mo_told N 0 mo_st mo_seed w4 w5
    else
    some (r1, mo_st, mo_seed, mo_ahead, mo_undoMany))
set_option maxHeartbeats 8000000 in
set_option maxRecDepth 100000 in
theorem tX9_drift (l : Launch) (D : va_G) (κ : Nat → ClassId) (moo : Nat) (mo_toldA : Nat) (mo_stA : Nat) (mo_textA : Nat) (mo_readA : Nat) (mo_aheadA : Nat) (mo_asideA : Nat) (mo_weighingsA : Nat) (mo_bookA : Nat) (mo_isKeptA : Nat) (mo_keptA : Nat) (mo_seedsA : Nat) (N : Nat) (mo_told : Nat → Int32) (mo_st : Nat → Int32) (mo_isThere : Int32) (mo_seed : Int32) (mo_text : Nat → Int32) (mo_typed : Int32) (mo_faultAt : Int32) (mo_place : Int32) (mo_wrong : Int32) (mo_value : Int32) (mo_read : Nat → Int32) (mo_ahead : Nat → Int32) (mo_undoMany : Int32) (mo_aside : Nat → Int32) (mo_weighings : Nat → Int32) (mo_weighed : Int32) (mo_book : Nat → Int32) (mo_entries : Int32) (mo_isKept : Nat → Int32) (mo_kept : Nat → Int32) (mo_seeds : Nat → Int32) (x1 : Int32) (r0 : Int32) (z_mo_st : Nat → Int32) (z_mo_seed : Int32) (z_mo_ahead : Nat → Int32) (z_mo_undoMany : Int32) (hres : pX9_drift N x1 mo_told mo_st mo_isThere mo_seed mo_ahead mo_undoMany = some (r0, z_mo_st, z_mo_seed, z_mo_ahead, z_mo_undoMany)) : krI l yX9_drift wsX9_drift { frames := 3, cells := 0, slots := 0, locals := 300 } D κ [.ref moo, .int x1] ([(moo, .inr (9, [.ref mo_toldA, .ref mo_stA, .int mo_isThere, .int mo_seed, .ref mo_textA, .int mo_typed, .int mo_faultAt, .int mo_place, .int mo_wrong, .int mo_value, .ref mo_readA, .ref mo_aheadA, .int mo_undoMany, .ref mo_asideA, .ref mo_weighingsA, .int mo_weighed, .ref mo_bookA, .int mo_entries, .ref mo_isKeptA, .ref mo_keptA, .ref mo_seedsA])), (mo_toldA, .inl (κ 0, 37, .inl mo_told)), (mo_stA, .inl (κ 0, 17, .inl mo_st)), (mo_textA, .inl (κ 0, 240, .inl mo_text)), (mo_readA, .inl (κ 0, 37, .inl mo_read)), (mo_aheadA, .inl (κ 0, 340, .inl mo_ahead)), (mo_asideA, .inl (κ 0, 17, .inl mo_aside)), (mo_weighingsA, .inl (κ 0, 12, .inl mo_weighings)), (mo_bookA, .inl (κ 0, 30, .inl mo_book)), (mo_isKeptA, .inl (κ 1, 2, .inl mo_isKept)), (mo_keptA, .inl (κ 0, 34, .inl mo_kept)), (mo_seedsA, .inl (κ 0, 2, .inl mo_seeds))]) ([(moo, .inr (9, [.ref mo_toldA, .ref mo_stA, .int mo_isThere, .int z_mo_seed, .ref mo_textA, .int mo_typed, .int mo_faultAt, .int mo_place, .int mo_wrong, .int mo_value, .ref mo_readA, .ref mo_aheadA, .int z_mo_undoMany, .ref mo_asideA, .ref mo_weighingsA, .int mo_weighed, .ref mo_bookA, .int mo_entries, .ref mo_isKeptA, .ref mo_keptA, .ref mo_seedsA])), (mo_toldA, .inl (κ 0, 37, .inl mo_told)), (mo_stA, .inl (κ 0, 17, .inl z_mo_st)), (mo_textA, .inl (κ 0, 240, .inl mo_text)), (mo_readA, .inl (κ 0, 37, .inl mo_read)), (mo_aheadA, .inl (κ 0, 340, .inl z_mo_ahead)), (mo_asideA, .inl (κ 0, 17, .inl mo_aside)), (mo_weighingsA, .inl (κ 0, 12, .inl mo_weighings)), (mo_bookA, .inl (κ 0, 30, .inl mo_book)), (mo_isKeptA, .inl (κ 1, 2, .inl mo_isKept)), (mo_keptA, .inl (κ 0, 34, .inl mo_kept)), (mo_seedsA, .inl (κ 0, 2, .inl mo_seeds))]) r0 := by
  refine krI_of (cc := cX9_drift) (maxL := 4) (rt := .int) (by decide) rfl (Nat.le_of_ble_eq_true rfl) ?_
  intro p e s m args below meth c A Q ls hx hb hml hown hts hK hA hret hP hD hS hl
  have hown : s.vm.findClass RX9 = some m.cls := hown
  have hl : lv_has ls 4 [(0, .ref moo), (1, .int x1)] := hl
  have iw9 : ∀ w ∈ u_ws RX9 TX9 21, w ∈ wsX9_drift := (fun _ h => List.mem_cons_of_mem _ (List.mem_append_right _ h))
  have k0 : (Cond.fieldLink RX9 13 "KingRansomModel" "st" "[I").before args s = true := hts _ (List.mem_of_getElem? (i := 1) rfl)
  have k1 : (Cond.fieldLink RX9 7 "KingRansomModel" "told" "[I").before args s = true := hts _ (List.mem_of_getElem? (i := 2) rfl)
  have L69 : ∀ (w_mo_st : Nat → Int32) (w_mo_seed : Int32) (w_mo_ahead : Nat → Int32) (w_mo_undoMany : Int32) (H : Heap) (locs : List Loc) (ls : Array Slot), va_P D vwCl ([(moo, .inr (9, [.ref mo_toldA, .ref mo_stA, .int mo_isThere, .int w_mo_seed, .ref mo_textA, .int mo_typed, .int mo_faultAt, .int mo_place, .int mo_wrong, .int mo_value, .ref mo_readA, .ref mo_aheadA, .int w_mo_undoMany, .ref mo_asideA, .ref mo_weighingsA, .int mo_weighed, .ref mo_bookA, .int mo_entries, .ref mo_isKeptA, .ref mo_keptA, .ref mo_seedsA])), (mo_toldA, .inl (κ 0, 37, .inl mo_told)), (mo_stA, .inl (κ 0, 17, .inl w_mo_st)), (mo_textA, .inl (κ 0, 240, .inl mo_text)), (mo_readA, .inl (κ 0, 37, .inl mo_read)), (mo_aheadA, .inl (κ 0, 340, .inl w_mo_ahead)), (mo_asideA, .inl (κ 0, 17, .inl mo_aside)), (mo_weighingsA, .inl (κ 0, 12, .inl mo_weighings)), (mo_bookA, .inl (κ 0, 30, .inl mo_book)), (mo_isKeptA, .inl (κ 1, 2, .inl mo_isKept)), (mo_keptA, .inl (κ 0, 34, .inl mo_kept)), (mo_seedsA, .inl (κ 0, 2, .inl mo_seeds))]) H → va_D A ([(moo, .inr (9, [.ref mo_toldA, .ref mo_stA, .int mo_isThere, .int w_mo_seed, .ref mo_textA, .int mo_typed, .int mo_faultAt, .int mo_place, .int mo_wrong, .int mo_value, .ref mo_readA, .ref mo_aheadA, .int w_mo_undoMany, .ref mo_asideA, .ref mo_weighingsA, .int mo_weighed, .ref mo_bookA, .int mo_entries, .ref mo_isKeptA, .ref mo_keptA, .ref mo_seedsA])), (mo_toldA, .inl (κ 0, 37, .inl mo_told)), (mo_stA, .inl (κ 0, 17, .inl w_mo_st)), (mo_textA, .inl (κ 0, 240, .inl mo_text)), (mo_readA, .inl (κ 0, 37, .inl mo_read)), (mo_aheadA, .inl (κ 0, 340, .inl w_mo_ahead)), (mo_asideA, .inl (κ 0, 17, .inl mo_aside)), (mo_weighingsA, .inl (κ 0, 12, .inl mo_weighings)), (mo_bookA, .inl (κ 0, 30, .inl mo_book)), (mo_isKeptA, .inl (κ 1, 2, .inl mo_isKept)), (mo_keptA, .inl (κ 0, 34, .inl mo_kept)), (mo_seedsA, .inl (κ 0, 2, .inl mo_seeds))]) → va_S A s.heap H locs → lv_has ls 4 [(0, .ref moo)] → pX9_drift_L69 w_mo_st w_mo_seed w_mo_ahead w_mo_undoMany = some (r0, z_mo_st, z_mo_seed, z_mo_ahead, z_mo_undoMany) → W p l e { frames := 3, cells := 0, slots := 0, locals := 300 } s m args below meth c H locs 0 0 Q (F0 m 69 ls []) := by
    intro w_mo_st w_mo_seed w_mo_ahead w_mo_undoMany H locs ls hP hD hS hl hres
    unfold pX9_drift_L69 at hres
    refine lv_aload_n hx hb dX9_drift_69 rfl (lv_at hl 0 rfl) ?_
    refine va_get (D := D) (ci := 9) (v := .ref mo_stA) (C := RX9) (T := TX9) (N := 21) hx hb hts iw9 hown hK.1 hP 0 rfl rfl 1 (by decide) k0 (fun _ h9 => h9) rfl dX9_drift_70 ?_
    refine lv_bipush (v := 16) hx hb dX9_drift_73 (by decide) ?_
    refine kr_iald (f := w_mo_st) (j := 16) hx hb hK hP 2 rfl (by decide) (by decide) dX9_drift_75 ?_
    have hres := Option.some.inj hres
    have h0 := (Prod.mk.inj hres).1
    replace hres := (Prod.mk.inj hres).2
    have h1 := (Prod.mk.inj hres).1
    replace hres := (Prod.mk.inj hres).2
    have h2 := (Prod.mk.inj hres).1
    replace hres := (Prod.mk.inj hres).2
    have h3 := (Prod.mk.inj hres).1
    replace hres := (Prod.mk.inj hres).2
    have h4 := hres
    subst h0
    subst h1
    subst h2
    subst h3
    subst h4
    exact hret _ _ _ _ (vp_nar_int _) hP hD hS dX9_drift_76
  have L18 : ∀ (n18 : Nat) (v3 : Int32) (w_mo_st : Nat → Int32) (w_mo_seed : Int32) (w_mo_ahead : Nat → Int32) (w_mo_undoMany : Int32) (H : Heap) (locs : List Loc) (ls : Array Slot), va_P D vwCl ([(moo, .inr (9, [.ref mo_toldA, .ref mo_stA, .int mo_isThere, .int w_mo_seed, .ref mo_textA, .int mo_typed, .int mo_faultAt, .int mo_place, .int mo_wrong, .int mo_value, .ref mo_readA, .ref mo_aheadA, .int w_mo_undoMany, .ref mo_asideA, .ref mo_weighingsA, .int mo_weighed, .ref mo_bookA, .int mo_entries, .ref mo_isKeptA, .ref mo_keptA, .ref mo_seedsA])), (mo_toldA, .inl (κ 0, 37, .inl mo_told)), (mo_stA, .inl (κ 0, 17, .inl w_mo_st)), (mo_textA, .inl (κ 0, 240, .inl mo_text)), (mo_readA, .inl (κ 0, 37, .inl mo_read)), (mo_aheadA, .inl (κ 0, 340, .inl w_mo_ahead)), (mo_asideA, .inl (κ 0, 17, .inl mo_aside)), (mo_weighingsA, .inl (κ 0, 12, .inl mo_weighings)), (mo_bookA, .inl (κ 0, 30, .inl mo_book)), (mo_isKeptA, .inl (κ 1, 2, .inl mo_isKept)), (mo_keptA, .inl (κ 0, 34, .inl mo_kept)), (mo_seedsA, .inl (κ 0, 2, .inl mo_seeds))]) H → va_D A ([(moo, .inr (9, [.ref mo_toldA, .ref mo_stA, .int mo_isThere, .int w_mo_seed, .ref mo_textA, .int mo_typed, .int mo_faultAt, .int mo_place, .int mo_wrong, .int mo_value, .ref mo_readA, .ref mo_aheadA, .int w_mo_undoMany, .ref mo_asideA, .ref mo_weighingsA, .int mo_weighed, .ref mo_bookA, .int mo_entries, .ref mo_isKeptA, .ref mo_keptA, .ref mo_seedsA])), (mo_toldA, .inl (κ 0, 37, .inl mo_told)), (mo_stA, .inl (κ 0, 17, .inl w_mo_st)), (mo_textA, .inl (κ 0, 240, .inl mo_text)), (mo_readA, .inl (κ 0, 37, .inl mo_read)), (mo_aheadA, .inl (κ 0, 340, .inl w_mo_ahead)), (mo_asideA, .inl (κ 0, 17, .inl mo_aside)), (mo_weighingsA, .inl (κ 0, 12, .inl mo_weighings)), (mo_bookA, .inl (κ 0, 30, .inl mo_book)), (mo_isKeptA, .inl (κ 1, 2, .inl mo_isKept)), (mo_keptA, .inl (κ 0, 34, .inl mo_kept)), (mo_seedsA, .inl (κ 0, 2, .inl mo_seeds))]) → va_S A s.heap H locs → lv_has ls 4 [(0, .ref moo), (1, .int x1), (3, .int v3)] → pX9_drift_L18 N x1 mo_told n18 v3 w_mo_st w_mo_seed w_mo_ahead w_mo_undoMany = some (r0, z_mo_st, z_mo_seed, z_mo_ahead, z_mo_undoMany) → W p l e { frames := 3, cells := 0, slots := 0, locals := 300 } s m args below meth c H locs 0 0 Q (F0 m 18 ls []) := by
    intro n18
    induction n18 with
    | zero =>
      intro v3 w_mo_st w_mo_seed w_mo_ahead w_mo_undoMany H locs ls hP hD hS hl hres
      exact absurd (show none = some _ from hres) (by simp)
    | succ n18 ih18 =>
      intro v3 w_mo_st w_mo_seed w_mo_ahead w_mo_undoMany H locs ls hP hD hS hl hres
      have L63 : ∀ (v3 : Int32) (w_mo_st : Nat → Int32) (w_mo_seed : Int32) (w_mo_ahead : Nat → Int32) (w_mo_undoMany : Int32) (H : Heap) (locs : List Loc) (ls : Array Slot), va_P D vwCl ([(moo, .inr (9, [.ref mo_toldA, .ref mo_stA, .int mo_isThere, .int w_mo_seed, .ref mo_textA, .int mo_typed, .int mo_faultAt, .int mo_place, .int mo_wrong, .int mo_value, .ref mo_readA, .ref mo_aheadA, .int w_mo_undoMany, .ref mo_asideA, .ref mo_weighingsA, .int mo_weighed, .ref mo_bookA, .int mo_entries, .ref mo_isKeptA, .ref mo_keptA, .ref mo_seedsA])), (mo_toldA, .inl (κ 0, 37, .inl mo_told)), (mo_stA, .inl (κ 0, 17, .inl w_mo_st)), (mo_textA, .inl (κ 0, 240, .inl mo_text)), (mo_readA, .inl (κ 0, 37, .inl mo_read)), (mo_aheadA, .inl (κ 0, 340, .inl w_mo_ahead)), (mo_asideA, .inl (κ 0, 17, .inl mo_aside)), (mo_weighingsA, .inl (κ 0, 12, .inl mo_weighings)), (mo_bookA, .inl (κ 0, 30, .inl mo_book)), (mo_isKeptA, .inl (κ 1, 2, .inl mo_isKept)), (mo_keptA, .inl (κ 0, 34, .inl mo_kept)), (mo_seedsA, .inl (κ 0, 2, .inl mo_seeds))]) H → va_D A ([(moo, .inr (9, [.ref mo_toldA, .ref mo_stA, .int mo_isThere, .int w_mo_seed, .ref mo_textA, .int mo_typed, .int mo_faultAt, .int mo_place, .int mo_wrong, .int mo_value, .ref mo_readA, .ref mo_aheadA, .int w_mo_undoMany, .ref mo_asideA, .ref mo_weighingsA, .int mo_weighed, .ref mo_bookA, .int mo_entries, .ref mo_isKeptA, .ref mo_keptA, .ref mo_seedsA])), (mo_toldA, .inl (κ 0, 37, .inl mo_told)), (mo_stA, .inl (κ 0, 17, .inl w_mo_st)), (mo_textA, .inl (κ 0, 240, .inl mo_text)), (mo_readA, .inl (κ 0, 37, .inl mo_read)), (mo_aheadA, .inl (κ 0, 340, .inl w_mo_ahead)), (mo_asideA, .inl (κ 0, 17, .inl mo_aside)), (mo_weighingsA, .inl (κ 0, 12, .inl mo_weighings)), (mo_bookA, .inl (κ 0, 30, .inl mo_book)), (mo_isKeptA, .inl (κ 1, 2, .inl mo_isKept)), (mo_keptA, .inl (κ 0, 34, .inl mo_kept)), (mo_seedsA, .inl (κ 0, 2, .inl mo_seeds))]) → va_S A s.heap H locs → lv_has ls 4 [(0, .ref moo), (1, .int x1), (3, .int v3)] → pX9_drift_L63 (pX9_drift_L18 N x1 mo_told n18) v3 w_mo_st w_mo_seed w_mo_ahead w_mo_undoMany = some (r0, z_mo_st, z_mo_seed, z_mo_ahead, z_mo_undoMany) → W p l e { frames := 3, cells := 0, slots := 0, locals := 300 } s m args below meth c H locs 0 0 Q (F0 m 63 ls []) := by
        intro v3 w_mo_st w_mo_seed w_mo_ahead w_mo_undoMany H locs ls hP hD hS hl hres
        unfold pX9_drift_L63 at hres
        refine lv_iinc (v := (v3 + 1)) (lv' := [(3, .int (v3 + 1)), (0, .ref moo), (1, .int x1)]) hx hb dX9_drift_63 hl (k := 2) rfl rfl (by decide) rfl (fun ls hl => ?_)
        refine lv_goto (tgt := 18) hx hb dX9_drift_66 (by decide) ?_
        exact ih18 (v3 + 1) w_mo_st w_mo_seed w_mo_ahead w_mo_undoMany _ _ _ hP hD hS (lv_sub hl [1, 2, 0] rfl) hres
      rw [pX9_drift_L18] at hres
      refine lv_iload_n hx hb dX9_drift_18 rfl (lv_at hl 2 rfl) ?_
      refine lv_iload_n hx hb dX9_drift_19 rfl (lv_at hl 1 rfl) ?_
      refine lv_icmp_ge (tgt := 69) hx hb dX9_drift_20 (by decide) (fun c7 => ?_) (fun c7 => ?_)
      · replace hres := og_t c7 hres
        exact L69 w_mo_st w_mo_seed w_mo_ahead w_mo_undoMany _ _ _ hP hD hS (lv_sub hl [0] rfl) hres
      · replace hres := og_f c7 hres
        refine lv_aload_n hx hb dX9_drift_23 rfl (lv_at hl 0 rfl) ?_
        refine va_get (D := D) (ci := 9) (v := .ref mo_stA) (C := RX9) (T := TX9) (N := 21) hx hb hts iw9 hown hK.1 hP 0 rfl rfl 1 (by decide) k0 (fun _ h9 => h9) rfl dX9_drift_24 ?_
        refine lv_bipush (v := 16) hx hb dX9_drift_27 (by decide) ?_
        refine kr_iald (f := w_mo_st) (j := 16) hx hb hK hP 2 rfl (by decide) (by decide) dX9_drift_29 ?_
        refine lv_if_ne (tgt := 69) hx hb dX9_drift_30 (by decide) (fun c8 => ?_) (fun c8 => ?_)
        · replace hres := og_f c8 hres
          exact L69 w_mo_st w_mo_seed w_mo_ahead w_mo_undoMany _ _ _ hP hD hS (lv_sub hl [0] rfl) hres
        · replace hres := og_t c8 hres
          refine lv_aload_n hx hb dX9_drift_33 rfl (lv_at hl 0 rfl) ?_
          refine lv_bipush (v := 100) hx hb dX9_drift_34 (by decide) ?_
          obtain ⟨r9, w10, hc11, hres⟩ := kb2_s hres
          refine krI_V (As := [.int 100]) (rest := []) (wr := []) ⟨hx, hb, hml, hown, hts⟩ hK (tX9_draw l D κ moo mo_toldA mo_stA mo_textA mo_readA mo_aheadA mo_asideA mo_weighingsA mo_bookA mo_isKeptA mo_keptA mo_seedsA mo_told w_mo_st mo_isThere w_mo_seed mo_text mo_typed mo_faultAt mo_place mo_wrong mo_value mo_read w_mo_ahead w_mo_undoMany mo_aside mo_weighings mo_weighed mo_book mo_entries mo_isKept mo_kept mo_seeds 100 r9 w10 hc11) (cwV 1 hts gX9_drift_X9_draw rfl rfl rfl (by decide +kernel) ⟨(Nat.le_of_ble_eq_true rfl), (Nat.le_of_ble_eq_true rfl)⟩) rfl rfl rfl hP hD hS hA [0, 1, 2, 3, 4, 5, 6, 7, 8, 9, 10, 11] [] rfl rfl rfl rfl (by decide) rfl hl.1 rfl (Nat.le_of_ble_eq_true rfl) dX9_drift_36 ⟨Nat.zero_le _, Nat.zero_le _⟩ (fun H locs hP hD hS => ?_)
          have hP : va_P D vwCl ([(moo, .inr (9, [.ref mo_toldA, .ref mo_stA, .int mo_isThere, .int w10, .ref mo_textA, .int mo_typed, .int mo_faultAt, .int mo_place, .int mo_wrong, .int mo_value, .ref mo_readA, .ref mo_aheadA, .int w_mo_undoMany, .ref mo_asideA, .ref mo_weighingsA, .int mo_weighed, .ref mo_bookA, .int mo_entries, .ref mo_isKeptA, .ref mo_keptA, .ref mo_seedsA])), (mo_toldA, .inl (κ 0, 37, .inl mo_told)), (mo_stA, .inl (κ 0, 17, .inl w_mo_st)), (mo_textA, .inl (κ 0, 240, .inl mo_text)), (mo_readA, .inl (κ 0, 37, .inl mo_read)), (mo_aheadA, .inl (κ 0, 340, .inl w_mo_ahead)), (mo_asideA, .inl (κ 0, 17, .inl mo_aside)), (mo_weighingsA, .inl (κ 0, 12, .inl mo_weighings)), (mo_bookA, .inl (κ 0, 30, .inl mo_book)), (mo_isKeptA, .inl (κ 1, 2, .inl mo_isKept)), (mo_keptA, .inl (κ 0, 34, .inl mo_kept)), (mo_seedsA, .inl (κ 0, 2, .inl mo_seeds))]) H := hP
          have hD : va_D A ([(moo, .inr (9, [.ref mo_toldA, .ref mo_stA, .int mo_isThere, .int w10, .ref mo_textA, .int mo_typed, .int mo_faultAt, .int mo_place, .int mo_wrong, .int mo_value, .ref mo_readA, .ref mo_aheadA, .int w_mo_undoMany, .ref mo_asideA, .ref mo_weighingsA, .int mo_weighed, .ref mo_bookA, .int mo_entries, .ref mo_isKeptA, .ref mo_keptA, .ref mo_seedsA])), (mo_toldA, .inl (κ 0, 37, .inl mo_told)), (mo_stA, .inl (κ 0, 17, .inl w_mo_st)), (mo_textA, .inl (κ 0, 240, .inl mo_text)), (mo_readA, .inl (κ 0, 37, .inl mo_read)), (mo_aheadA, .inl (κ 0, 340, .inl w_mo_ahead)), (mo_asideA, .inl (κ 0, 17, .inl mo_aside)), (mo_weighingsA, .inl (κ 0, 12, .inl mo_weighings)), (mo_bookA, .inl (κ 0, 30, .inl mo_book)), (mo_isKeptA, .inl (κ 1, 2, .inl mo_isKept)), (mo_keptA, .inl (κ 0, 34, .inl mo_kept)), (mo_seedsA, .inl (κ 0, 2, .inl mo_seeds))]) := hD
          refine lv_aload_n hx hb dX9_drift_39 rfl (lv_at hl 0 rfl) ?_
          refine va_get (D := D) (ci := 9) (v := .ref mo_toldA) (C := RX9) (T := TX9) (N := 21) hx hb hts iw9 hown hK.1 hP 0 rfl rfl 0 (by decide) k1 (fun _ h9 => h9) rfl dX9_drift_40 ?_
          refine lv_iconst (v := 1) hx hb dX9_drift_43 (by decide) ?_
          refine kr_iald (f := mo_told) (j := 1) hx hb hK hP 1 rfl (by decide) (by decide) dX9_drift_44 ?_
          refine lv_icmp_ge (tgt := 59) hx hb dX9_drift_45 (by decide) (fun c12 => ?_) (fun c12 => ?_)
          · replace hres := og_t c12 hres
            refine lv_aload_n hx hb dX9_drift_59 rfl (lv_at hl 0 rfl) ?_
            obtain ⟨w13, hc14, hres⟩ := kb1_s hres
            refine krV_V (As := []) (rest := []) (wr := []) ⟨hx, hb, hml, hown, hts⟩ hK (tX9_oneMonth l D κ moo mo_toldA mo_stA mo_textA mo_readA mo_aheadA mo_asideA mo_weighingsA mo_bookA mo_isKeptA mo_keptA mo_seedsA N mo_told w_mo_st mo_isThere w10 mo_text mo_typed mo_faultAt mo_place mo_wrong mo_value mo_read w_mo_ahead w_mo_undoMany mo_aside mo_weighings mo_weighed mo_book mo_entries mo_isKept mo_kept mo_seeds w13 hc14) (cwV 0 hts gX9_drift_X9_oneMonth rfl rfl rfl (by decide +kernel) ⟨(Nat.le_of_ble_eq_true rfl), (Nat.le_of_ble_eq_true rfl)⟩) rfl rfl rfl hP hD hS hA [0, 1, 2, 3, 4, 5, 6, 7, 8, 9, 10, 11] [] rfl rfl rfl rfl (by decide) rfl hl.1 rfl (Nat.le_of_ble_eq_true rfl) dX9_drift_60 ⟨Nat.zero_le _, Nat.zero_le _⟩ (fun H locs hP hD hS => ?_)
            have hP : va_P D vwCl ([(moo, .inr (9, [.ref mo_toldA, .ref mo_stA, .int mo_isThere, .int w10, .ref mo_textA, .int mo_typed, .int mo_faultAt, .int mo_place, .int mo_wrong, .int mo_value, .ref mo_readA, .ref mo_aheadA, .int w_mo_undoMany, .ref mo_asideA, .ref mo_weighingsA, .int mo_weighed, .ref mo_bookA, .int mo_entries, .ref mo_isKeptA, .ref mo_keptA, .ref mo_seedsA])), (mo_toldA, .inl (κ 0, 37, .inl mo_told)), (mo_stA, .inl (κ 0, 17, .inl w13)), (mo_textA, .inl (κ 0, 240, .inl mo_text)), (mo_readA, .inl (κ 0, 37, .inl mo_read)), (mo_aheadA, .inl (κ 0, 340, .inl w_mo_ahead)), (mo_asideA, .inl (κ 0, 17, .inl mo_aside)), (mo_weighingsA, .inl (κ 0, 12, .inl mo_weighings)), (mo_bookA, .inl (κ 0, 30, .inl mo_book)), (mo_isKeptA, .inl (κ 1, 2, .inl mo_isKept)), (mo_keptA, .inl (κ 0, 34, .inl mo_kept)), (mo_seedsA, .inl (κ 0, 2, .inl mo_seeds))]) H := hP
            have hD : va_D A ([(moo, .inr (9, [.ref mo_toldA, .ref mo_stA, .int mo_isThere, .int w10, .ref mo_textA, .int mo_typed, .int mo_faultAt, .int mo_place, .int mo_wrong, .int mo_value, .ref mo_readA, .ref mo_aheadA, .int w_mo_undoMany, .ref mo_asideA, .ref mo_weighingsA, .int mo_weighed, .ref mo_bookA, .int mo_entries, .ref mo_isKeptA, .ref mo_keptA, .ref mo_seedsA])), (mo_toldA, .inl (κ 0, 37, .inl mo_told)), (mo_stA, .inl (κ 0, 17, .inl w13)), (mo_textA, .inl (κ 0, 240, .inl mo_text)), (mo_readA, .inl (κ 0, 37, .inl mo_read)), (mo_aheadA, .inl (κ 0, 340, .inl w_mo_ahead)), (mo_asideA, .inl (κ 0, 17, .inl mo_aside)), (mo_weighingsA, .inl (κ 0, 12, .inl mo_weighings)), (mo_bookA, .inl (κ 0, 30, .inl mo_book)), (mo_isKeptA, .inl (κ 1, 2, .inl mo_isKept)), (mo_keptA, .inl (κ 0, 34, .inl mo_kept)), (mo_seedsA, .inl (κ 0, 2, .inl mo_seeds))]) := hD
            exact L63 v3 w13 w10 w_mo_ahead w_mo_undoMany _ _ _ hP hD hS (lv_sub hl [0, 1, 2] rfl) hres
          · replace hres := og_f c12 hres
            refine lv_aload_n hx hb dX9_drift_48 rfl (lv_at hl 0 rfl) ?_
            refine va_get (D := D) (ci := 9) (v := .ref mo_stA) (C := RX9) (T := TX9) (N := 21) hx hb hts iw9 hown hK.1 hP 0 rfl rfl 1 (by decide) k0 (fun _ h9 => h9) rfl dX9_drift_49 ?_
            refine lv_bipush (v := 16) hx hb dX9_drift_52 (by decide) ?_
            refine lv_iconst (v := 2) hx hb dX9_drift_54 (by decide) ?_
            refine kr_iast (f := w_mo_st) (j := 16) (x := 2) hx hb hK hP hD hS 2 rfl (by decide) (by decide) dX9_drift_55 (fun H locs hP hD hS => ?_)
            have hP : va_P D vwCl ([(moo, .inr (9, [.ref mo_toldA, .ref mo_stA, .int mo_isThere, .int w10, .ref mo_textA, .int mo_typed, .int mo_faultAt, .int mo_place, .int mo_wrong, .int mo_value, .ref mo_readA, .ref mo_aheadA, .int w_mo_undoMany, .ref mo_asideA, .ref mo_weighingsA, .int mo_weighed, .ref mo_bookA, .int mo_entries, .ref mo_isKeptA, .ref mo_keptA, .ref mo_seedsA])), (mo_toldA, .inl (κ 0, 37, .inl mo_told)), (mo_stA, .inl (κ 0, 17, .inl (upd w_mo_st 16 2))), (mo_textA, .inl (κ 0, 240, .inl mo_text)), (mo_readA, .inl (κ 0, 37, .inl mo_read)), (mo_aheadA, .inl (κ 0, 340, .inl w_mo_ahead)), (mo_asideA, .inl (κ 0, 17, .inl mo_aside)), (mo_weighingsA, .inl (κ 0, 12, .inl mo_weighings)), (mo_bookA, .inl (κ 0, 30, .inl mo_book)), (mo_isKeptA, .inl (κ 1, 2, .inl mo_isKept)), (mo_keptA, .inl (κ 0, 34, .inl mo_kept)), (mo_seedsA, .inl (κ 0, 2, .inl mo_seeds))]) H := hP
            have hD : va_D A ([(moo, .inr (9, [.ref mo_toldA, .ref mo_stA, .int mo_isThere, .int w10, .ref mo_textA, .int mo_typed, .int mo_faultAt, .int mo_place, .int mo_wrong, .int mo_value, .ref mo_readA, .ref mo_aheadA, .int w_mo_undoMany, .ref mo_asideA, .ref mo_weighingsA, .int mo_weighed, .ref mo_bookA, .int mo_entries, .ref mo_isKeptA, .ref mo_keptA, .ref mo_seedsA])), (mo_toldA, .inl (κ 0, 37, .inl mo_told)), (mo_stA, .inl (κ 0, 17, .inl (upd w_mo_st 16 2))), (mo_textA, .inl (κ 0, 240, .inl mo_text)), (mo_readA, .inl (κ 0, 37, .inl mo_read)), (mo_aheadA, .inl (κ 0, 340, .inl w_mo_ahead)), (mo_asideA, .inl (κ 0, 17, .inl mo_aside)), (mo_weighingsA, .inl (κ 0, 12, .inl mo_weighings)), (mo_bookA, .inl (κ 0, 30, .inl mo_book)), (mo_isKeptA, .inl (κ 1, 2, .inl mo_isKept)), (mo_keptA, .inl (κ 0, 34, .inl mo_kept)), (mo_seedsA, .inl (κ 0, 2, .inl mo_seeds))]) := hD
            refine lv_goto (tgt := 63) hx hb dX9_drift_56 (by decide) ?_
            exact L63 v3 (upd w_mo_st 16 2) w10 w_mo_ahead w_mo_undoMany _ _ _ hP hD hS (lv_sub hl [0, 1, 2] rfl) hres
  unfold pX9_drift at hres
  refine lv_aload_n hx hb dX9_drift_0 rfl (lv_at hl 0 rfl) ?_
  refine lv_iload_n hx hb dX9_drift_1 rfl (lv_at hl 1 rfl) ?_
  obtain ⟨r1, hc2, hres⟩ := kb1_s hres
  refine krI_V (As := [.int x1]) (rest := []) (wr := []) ⟨hx, hb, hml, hown, hts⟩ hK (tX9_lacksTime l D κ moo mo_toldA mo_stA mo_textA mo_readA mo_aheadA mo_asideA mo_weighingsA mo_bookA mo_isKeptA mo_keptA mo_seedsA mo_told mo_st mo_isThere mo_seed mo_text mo_typed mo_faultAt mo_place mo_wrong mo_value mo_read mo_ahead mo_undoMany mo_aside mo_weighings mo_weighed mo_book mo_entries mo_isKept mo_kept mo_seeds x1 r1 hc2) (cwV 1 hts gX9_drift_X9_lacksTime rfl rfl rfl (by decide +kernel) ⟨(Nat.le_of_ble_eq_true rfl), (Nat.le_of_ble_eq_true rfl)⟩) rfl rfl rfl hP hD hS hA [0, 1, 2, 3, 4, 5, 6, 7, 8, 9, 10, 11] [] rfl rfl rfl rfl (by decide) rfl hl.1 rfl (Nat.le_of_ble_eq_true rfl) dX9_drift_2 ⟨Nat.zero_le _, Nat.zero_le _⟩ (fun H locs hP hD hS => ?_)
  have hP : va_P D vwCl ([(moo, .inr (9, [.ref mo_toldA, .ref mo_stA, .int mo_isThere, .int mo_seed, .ref mo_textA, .int mo_typed, .int mo_faultAt, .int mo_place, .int mo_wrong, .int mo_value, .ref mo_readA, .ref mo_aheadA, .int mo_undoMany, .ref mo_asideA, .ref mo_weighingsA, .int mo_weighed, .ref mo_bookA, .int mo_entries, .ref mo_isKeptA, .ref mo_keptA, .ref mo_seedsA])), (mo_toldA, .inl (κ 0, 37, .inl mo_told)), (mo_stA, .inl (κ 0, 17, .inl mo_st)), (mo_textA, .inl (κ 0, 240, .inl mo_text)), (mo_readA, .inl (κ 0, 37, .inl mo_read)), (mo_aheadA, .inl (κ 0, 340, .inl mo_ahead)), (mo_asideA, .inl (κ 0, 17, .inl mo_aside)), (mo_weighingsA, .inl (κ 0, 12, .inl mo_weighings)), (mo_bookA, .inl (κ 0, 30, .inl mo_book)), (mo_isKeptA, .inl (κ 1, 2, .inl mo_isKept)), (mo_keptA, .inl (κ 0, 34, .inl mo_kept)), (mo_seedsA, .inl (κ 0, 2, .inl mo_seeds))]) H := hP
  have hD : va_D A ([(moo, .inr (9, [.ref mo_toldA, .ref mo_stA, .int mo_isThere, .int mo_seed, .ref mo_textA, .int mo_typed, .int mo_faultAt, .int mo_place, .int mo_wrong, .int mo_value, .ref mo_readA, .ref mo_aheadA, .int mo_undoMany, .ref mo_asideA, .ref mo_weighingsA, .int mo_weighed, .ref mo_bookA, .int mo_entries, .ref mo_isKeptA, .ref mo_keptA, .ref mo_seedsA])), (mo_toldA, .inl (κ 0, 37, .inl mo_told)), (mo_stA, .inl (κ 0, 17, .inl mo_st)), (mo_textA, .inl (κ 0, 240, .inl mo_text)), (mo_readA, .inl (κ 0, 37, .inl mo_read)), (mo_aheadA, .inl (κ 0, 340, .inl mo_ahead)), (mo_asideA, .inl (κ 0, 17, .inl mo_aside)), (mo_weighingsA, .inl (κ 0, 12, .inl mo_weighings)), (mo_bookA, .inl (κ 0, 30, .inl mo_book)), (mo_isKeptA, .inl (κ 1, 2, .inl mo_isKept)), (mo_keptA, .inl (κ 0, 34, .inl mo_kept)), (mo_seedsA, .inl (κ 0, 2, .inl mo_seeds))]) := hD
  refine lv_istore_n (lv' := [(2, .int r1), (0, .ref moo), (1, .int x1)]) hx hb dX9_drift_5 rfl hl (by decide) rfl (fun ls hl => ?_)
  refine lv_iload_n hx hb dX9_drift_6 rfl (lv_at hl 0 rfl) ?_
  refine lv_if_ge (tgt := 12) hx hb dX9_drift_7 (by decide) (fun c3 => ?_) (fun c3 => ?_)
  · replace hres := og_t c3 hres
    refine lv_aload_n hx hb dX9_drift_12 rfl (lv_at hl 1 rfl) ?_
    obtain ⟨w4, w5, hc6, hres⟩ := kb2_s hres
    refine krV_V (As := []) (rest := []) (wr := []) ⟨hx, hb, hml, hown, hts⟩ hK (tX9_note l D κ moo mo_toldA mo_stA mo_textA mo_readA mo_aheadA mo_asideA mo_weighingsA mo_bookA mo_isKeptA mo_keptA mo_seedsA N mo_told mo_st mo_isThere mo_seed mo_text mo_typed mo_faultAt mo_place mo_wrong mo_value mo_read mo_ahead mo_undoMany mo_aside mo_weighings mo_weighed mo_book mo_entries mo_isKept mo_kept mo_seeds w4 w5 hc6) (cwV 0 hts gX9_drift_X9_note rfl rfl rfl (by decide +kernel) ⟨(Nat.le_of_ble_eq_true rfl), (Nat.le_of_ble_eq_true rfl)⟩) rfl rfl rfl hP hD hS hA [0, 1, 2, 3, 4, 5, 6, 7, 8, 9, 10, 11] [] rfl rfl rfl rfl (by decide) rfl hl.1 rfl (Nat.le_of_ble_eq_true rfl) dX9_drift_13 ⟨Nat.zero_le _, Nat.zero_le _⟩ (fun H locs hP hD hS => ?_)
    have hP : va_P D vwCl ([(moo, .inr (9, [.ref mo_toldA, .ref mo_stA, .int mo_isThere, .int mo_seed, .ref mo_textA, .int mo_typed, .int mo_faultAt, .int mo_place, .int mo_wrong, .int mo_value, .ref mo_readA, .ref mo_aheadA, .int w5, .ref mo_asideA, .ref mo_weighingsA, .int mo_weighed, .ref mo_bookA, .int mo_entries, .ref mo_isKeptA, .ref mo_keptA, .ref mo_seedsA])), (mo_toldA, .inl (κ 0, 37, .inl mo_told)), (mo_stA, .inl (κ 0, 17, .inl mo_st)), (mo_textA, .inl (κ 0, 240, .inl mo_text)), (mo_readA, .inl (κ 0, 37, .inl mo_read)), (mo_aheadA, .inl (κ 0, 340, .inl w4)), (mo_asideA, .inl (κ 0, 17, .inl mo_aside)), (mo_weighingsA, .inl (κ 0, 12, .inl mo_weighings)), (mo_bookA, .inl (κ 0, 30, .inl mo_book)), (mo_isKeptA, .inl (κ 1, 2, .inl mo_isKept)), (mo_keptA, .inl (κ 0, 34, .inl mo_kept)), (mo_seedsA, .inl (κ 0, 2, .inl mo_seeds))]) H := hP
    have hD : va_D A ([(moo, .inr (9, [.ref mo_toldA, .ref mo_stA, .int mo_isThere, .int mo_seed, .ref mo_textA, .int mo_typed, .int mo_faultAt, .int mo_place, .int mo_wrong, .int mo_value, .ref mo_readA, .ref mo_aheadA, .int w5, .ref mo_asideA, .ref mo_weighingsA, .int mo_weighed, .ref mo_bookA, .int mo_entries, .ref mo_isKeptA, .ref mo_keptA, .ref mo_seedsA])), (mo_toldA, .inl (κ 0, 37, .inl mo_told)), (mo_stA, .inl (κ 0, 17, .inl mo_st)), (mo_textA, .inl (κ 0, 240, .inl mo_text)), (mo_readA, .inl (κ 0, 37, .inl mo_read)), (mo_aheadA, .inl (κ 0, 340, .inl w4)), (mo_asideA, .inl (κ 0, 17, .inl mo_aside)), (mo_weighingsA, .inl (κ 0, 12, .inl mo_weighings)), (mo_bookA, .inl (κ 0, 30, .inl mo_book)), (mo_isKeptA, .inl (κ 1, 2, .inl mo_isKept)), (mo_keptA, .inl (κ 0, 34, .inl mo_kept)), (mo_seedsA, .inl (κ 0, 2, .inl mo_seeds))]) := hD
    refine lv_iconst (v := 0) hx hb dX9_drift_16 (by decide) ?_
    refine lv_istore_n (lv' := [(3, .int 0), (2, .int r1), (0, .ref moo), (1, .int x1)]) hx hb dX9_drift_17 rfl hl (by decide) rfl (fun ls hl => ?_)
    exact L18 N 0 mo_st mo_seed w4 w5 _ _ _ hP hD hS (lv_sub hl [2, 3, 0] rfl) hres
  · replace hres := og_f c3 hres
    refine lv_iload_n hx hb dX9_drift_10 rfl (lv_at hl 0 rfl) ?_
    have hres := Option.some.inj hres
    have h0 := (Prod.mk.inj hres).1
    replace hres := (Prod.mk.inj hres).2
    have h1 := (Prod.mk.inj hres).1
    replace hres := (Prod.mk.inj hres).2
    have h2 := (Prod.mk.inj hres).1
    replace hres := (Prod.mk.inj hres).2
    have h3 := (Prod.mk.inj hres).1
    replace hres := (Prod.mk.inj hres).2
    have h4 := hres
    subst h0
    subst h1
    subst h2
    subst h3
    subst h4
    exact hret _ _ _ _ (vp_nar_int _) hP hD hS dX9_drift_11

def pX9_undo_L22 (mo_ahead : Nat → Int32) : Nat → Int32 → (Nat → Int32) → Int32 → Option (Int32 × (Nat → Int32) × Int32)
  | 0, _, _, _ => none
  | n22 + 1, v1, w_mo_st, w_mo_undoMany =>
    (if 17 ≤ v1 then
    some (w_mo_undoMany, w_mo_st, w_mo_undoMany)
    else
    if ((17 * w_mo_undoMany) + v1) < 0 ∨ 340 ≤ ((17 * w_mo_undoMany) + v1).toNatClampNeg then none else
    kl (mo_ahead (((17 * w_mo_undoMany) + v1).toNatClampNeg)) fun y4 =>
    if v1 < 0 ∨ 17 ≤ v1.toNatClampNeg then none else
    pX9_undo_L22 mo_ahead n22 (v1 + 1) (upd w_mo_st v1.toNatClampNeg y4) w_mo_undoMany)
def pX9_undo (N : Nat) (mo_st : Nat → Int32) (mo_ahead : Nat → Int32) (mo_undoMany : Int32) : Option (Int32 × (Nat → Int32) × Int32) :=
    (if mo_undoMany = 0 then
    some ((-1000000003), mo_st, mo_undoMany)
    else
    pX9_undo_L22 mo_ahead N 0 mo_st (mo_undoMany - 1))
set_option maxHeartbeats 8000000 in
set_option maxRecDepth 100000 in
theorem tX9_undo (l : Launch) (D : va_G) (κ : Nat → ClassId) (moo : Nat) (mo_toldA : Nat) (mo_stA : Nat) (mo_textA : Nat) (mo_readA : Nat) (mo_aheadA : Nat) (mo_asideA : Nat) (mo_weighingsA : Nat) (mo_bookA : Nat) (mo_isKeptA : Nat) (mo_keptA : Nat) (mo_seedsA : Nat) (N : Nat) (mo_told : Nat → Int32) (mo_st : Nat → Int32) (mo_isThere : Int32) (mo_seed : Int32) (mo_text : Nat → Int32) (mo_typed : Int32) (mo_faultAt : Int32) (mo_place : Int32) (mo_wrong : Int32) (mo_value : Int32) (mo_read : Nat → Int32) (mo_ahead : Nat → Int32) (mo_undoMany : Int32) (mo_aside : Nat → Int32) (mo_weighings : Nat → Int32) (mo_weighed : Int32) (mo_book : Nat → Int32) (mo_entries : Int32) (mo_isKept : Nat → Int32) (mo_kept : Nat → Int32) (mo_seeds : Nat → Int32) (r0 : Int32) (z_mo_st : Nat → Int32) (z_mo_undoMany : Int32) (hres : pX9_undo N mo_st mo_ahead mo_undoMany = some (r0, z_mo_st, z_mo_undoMany)) : krI l yX9_undo wsX9_undo { frames := 0, cells := 0, slots := 0, locals := 0 } D κ [.ref moo] ([(moo, .inr (9, [.ref mo_toldA, .ref mo_stA, .int mo_isThere, .int mo_seed, .ref mo_textA, .int mo_typed, .int mo_faultAt, .int mo_place, .int mo_wrong, .int mo_value, .ref mo_readA, .ref mo_aheadA, .int mo_undoMany, .ref mo_asideA, .ref mo_weighingsA, .int mo_weighed, .ref mo_bookA, .int mo_entries, .ref mo_isKeptA, .ref mo_keptA, .ref mo_seedsA])), (mo_toldA, .inl (κ 0, 37, .inl mo_told)), (mo_stA, .inl (κ 0, 17, .inl mo_st)), (mo_textA, .inl (κ 0, 240, .inl mo_text)), (mo_readA, .inl (κ 0, 37, .inl mo_read)), (mo_aheadA, .inl (κ 0, 340, .inl mo_ahead)), (mo_asideA, .inl (κ 0, 17, .inl mo_aside)), (mo_weighingsA, .inl (κ 0, 12, .inl mo_weighings)), (mo_bookA, .inl (κ 0, 30, .inl mo_book)), (mo_isKeptA, .inl (κ 1, 2, .inl mo_isKept)), (mo_keptA, .inl (κ 0, 34, .inl mo_kept)), (mo_seedsA, .inl (κ 0, 2, .inl mo_seeds))]) ([(moo, .inr (9, [.ref mo_toldA, .ref mo_stA, .int mo_isThere, .int mo_seed, .ref mo_textA, .int mo_typed, .int mo_faultAt, .int mo_place, .int mo_wrong, .int mo_value, .ref mo_readA, .ref mo_aheadA, .int z_mo_undoMany, .ref mo_asideA, .ref mo_weighingsA, .int mo_weighed, .ref mo_bookA, .int mo_entries, .ref mo_isKeptA, .ref mo_keptA, .ref mo_seedsA])), (mo_toldA, .inl (κ 0, 37, .inl mo_told)), (mo_stA, .inl (κ 0, 17, .inl z_mo_st)), (mo_textA, .inl (κ 0, 240, .inl mo_text)), (mo_readA, .inl (κ 0, 37, .inl mo_read)), (mo_aheadA, .inl (κ 0, 340, .inl mo_ahead)), (mo_asideA, .inl (κ 0, 17, .inl mo_aside)), (mo_weighingsA, .inl (κ 0, 12, .inl mo_weighings)), (mo_bookA, .inl (κ 0, 30, .inl mo_book)), (mo_isKeptA, .inl (κ 1, 2, .inl mo_isKept)), (mo_keptA, .inl (κ 0, 34, .inl mo_kept)), (mo_seedsA, .inl (κ 0, 2, .inl mo_seeds))]) r0 := by
  refine krI_of (cc := cX9_undo) (maxL := 2) (rt := .int) (by decide) rfl (Nat.le_of_ble_eq_true rfl) ?_
  intro p e s m args below meth c A Q ls hx hb hml hown hts hK hA hret hP hD hS hl
  have hown : s.vm.findClass RX9 = some m.cls := hown
  have hl : lv_has ls 2 [(0, .ref moo)] := hl
  have iw9 : ∀ w ∈ u_ws RX9 TX9 21, w ∈ wsX9_undo := (fun _ h => List.mem_cons_of_mem _ (List.mem_append_right _ h))
  have k0 : (Cond.fieldLink RX9 110 "KingRansomModel" "undoMany" "I").before args s = true := hts _ (List.mem_of_getElem? (i := 1) rfl)
  have k1 : (Cond.constant RX9 147 (-1000000003)).before args s = true := hts _ (List.mem_of_getElem? (i := 2) rfl)
  have k2 : (Cond.fieldLink RX9 13 "KingRansomModel" "st" "[I").before args s = true := hts _ (List.mem_of_getElem? (i := 3) rfl)
  have k3 : (Cond.fieldLink RX9 26 "KingRansomModel" "ahead" "[I").before args s = true := hts _ (List.mem_of_getElem? (i := 4) rfl)
  have L22 : ∀ (n22 : Nat) (v1 : Int32) (w_mo_st : Nat → Int32) (w_mo_undoMany : Int32) (H : Heap) (locs : List Loc) (ls : Array Slot), va_P D vwCl ([(moo, .inr (9, [.ref mo_toldA, .ref mo_stA, .int mo_isThere, .int mo_seed, .ref mo_textA, .int mo_typed, .int mo_faultAt, .int mo_place, .int mo_wrong, .int mo_value, .ref mo_readA, .ref mo_aheadA, .int w_mo_undoMany, .ref mo_asideA, .ref mo_weighingsA, .int mo_weighed, .ref mo_bookA, .int mo_entries, .ref mo_isKeptA, .ref mo_keptA, .ref mo_seedsA])), (mo_toldA, .inl (κ 0, 37, .inl mo_told)), (mo_stA, .inl (κ 0, 17, .inl w_mo_st)), (mo_textA, .inl (κ 0, 240, .inl mo_text)), (mo_readA, .inl (κ 0, 37, .inl mo_read)), (mo_aheadA, .inl (κ 0, 340, .inl mo_ahead)), (mo_asideA, .inl (κ 0, 17, .inl mo_aside)), (mo_weighingsA, .inl (κ 0, 12, .inl mo_weighings)), (mo_bookA, .inl (κ 0, 30, .inl mo_book)), (mo_isKeptA, .inl (κ 1, 2, .inl mo_isKept)), (mo_keptA, .inl (κ 0, 34, .inl mo_kept)), (mo_seedsA, .inl (κ 0, 2, .inl mo_seeds))]) H → va_D A ([(moo, .inr (9, [.ref mo_toldA, .ref mo_stA, .int mo_isThere, .int mo_seed, .ref mo_textA, .int mo_typed, .int mo_faultAt, .int mo_place, .int mo_wrong, .int mo_value, .ref mo_readA, .ref mo_aheadA, .int w_mo_undoMany, .ref mo_asideA, .ref mo_weighingsA, .int mo_weighed, .ref mo_bookA, .int mo_entries, .ref mo_isKeptA, .ref mo_keptA, .ref mo_seedsA])), (mo_toldA, .inl (κ 0, 37, .inl mo_told)), (mo_stA, .inl (κ 0, 17, .inl w_mo_st)), (mo_textA, .inl (κ 0, 240, .inl mo_text)), (mo_readA, .inl (κ 0, 37, .inl mo_read)), (mo_aheadA, .inl (κ 0, 340, .inl mo_ahead)), (mo_asideA, .inl (κ 0, 17, .inl mo_aside)), (mo_weighingsA, .inl (κ 0, 12, .inl mo_weighings)), (mo_bookA, .inl (κ 0, 30, .inl mo_book)), (mo_isKeptA, .inl (κ 1, 2, .inl mo_isKept)), (mo_keptA, .inl (κ 0, 34, .inl mo_kept)), (mo_seedsA, .inl (κ 0, 2, .inl mo_seeds))]) → va_S A s.heap H locs → lv_has ls 2 [(0, .ref moo), (1, .int v1)] → pX9_undo_L22 mo_ahead n22 v1 w_mo_st w_mo_undoMany = some (r0, z_mo_st, z_mo_undoMany) → W p l e { frames := 0, cells := 0, slots := 0, locals := 0 } s m args below meth c H locs 0 0 Q (F0 m 22 ls []) := by
    intro n22
    induction n22 with
    | zero =>
      intro v1 w_mo_st w_mo_undoMany H locs ls hP hD hS hl hres
      exact absurd (show none = some _ from hres) (by simp)
    | succ n22 ih22 =>
      intro v1 w_mo_st w_mo_undoMany H locs ls hP hD hS hl hres
      rw [pX9_undo_L22] at hres
      refine lv_iload_n hx hb dX9_undo_22 rfl (lv_at hl 1 rfl) ?_
      refine lv_bipush (v := 17) hx hb dX9_undo_23 (by decide) ?_
      refine lv_icmp_ge (tgt := 54) hx hb dX9_undo_25 (by decide) (fun c2 => ?_) (fun c2 => ?_)
      · replace hres := og_t c2 hres
        refine lv_aload_n hx hb dX9_undo_54 rfl (lv_at hl 0 rfl) ?_
        refine va_get (D := D) (ci := 9) (v := .int w_mo_undoMany) (C := RX9) (T := TX9) (N := 21) hx hb hts iw9 hown hK.1 hP 0 rfl rfl 12 (by decide) k0 (fun _ h9 => h9) rfl dX9_undo_55 ?_
        have hres := Option.some.inj hres
        have h0 := (Prod.mk.inj hres).1
        replace hres := (Prod.mk.inj hres).2
        have h1 := (Prod.mk.inj hres).1
        replace hres := (Prod.mk.inj hres).2
        have h2 := hres
        subst h0
        subst h1
        subst h2
        exact hret _ _ _ _ (vp_nar_int _) hP hD hS dX9_undo_58
      · replace hres := og_f c2 hres
        refine lv_aload_n hx hb dX9_undo_28 rfl (lv_at hl 0 rfl) ?_
        refine va_get (D := D) (ci := 9) (v := .ref mo_stA) (C := RX9) (T := TX9) (N := 21) hx hb hts iw9 hown hK.1 hP 0 rfl rfl 1 (by decide) k2 (fun _ h9 => h9) rfl dX9_undo_29 ?_
        refine lv_iload_n hx hb dX9_undo_32 rfl (lv_at hl 1 rfl) ?_
        refine lv_aload_n hx hb dX9_undo_33 rfl (lv_at hl 0 rfl) ?_
        refine va_get (D := D) (ci := 9) (v := .ref mo_aheadA) (C := RX9) (T := TX9) (N := 21) hx hb hts iw9 hown hK.1 hP 0 rfl rfl 11 (by decide) k3 (fun _ h9 => h9) rfl dX9_undo_34 ?_
        refine lv_bipush (v := 17) hx hb dX9_undo_37 (by decide) ?_
        refine lv_aload_n hx hb dX9_undo_39 rfl (lv_at hl 0 rfl) ?_
        refine va_get (D := D) (ci := 9) (v := .int w_mo_undoMany) (C := RX9) (T := TX9) (N := 21) hx hb hts iw9 hown hK.1 hP 0 rfl rfl 12 (by decide) k0 (fun _ h9 => h9) rfl dX9_undo_40 ?_
        refine lv_imul hx hb dX9_undo_43 ?_
        refine lv_iload_n hx hb dX9_undo_44 rfl (lv_at hl 1 rfl) ?_
        refine lv_iadd hx hb dX9_undo_45 ?_
        obtain ⟨g3, hres⟩ := og_no hres
        refine kr_iald (f := mo_ahead) (j := ((17 * w_mo_undoMany) + v1).toNatClampNeg) hx hb hK hP 5 rfl g3 rfl dX9_undo_46 ?_
        obtain ⟨y4, ey4, hres⟩ := kl_s hres
        refine kr_tope ey4 ?_
        obtain ⟨g5, hres⟩ := og_no hres
        refine kr_iast (f := w_mo_st) (j := v1.toNatClampNeg) (x := y4) hx hb hK hP hD hS 2 rfl g5 rfl dX9_undo_47 (fun H locs hP hD hS => ?_)
        have hP : va_P D vwCl ([(moo, .inr (9, [.ref mo_toldA, .ref mo_stA, .int mo_isThere, .int mo_seed, .ref mo_textA, .int mo_typed, .int mo_faultAt, .int mo_place, .int mo_wrong, .int mo_value, .ref mo_readA, .ref mo_aheadA, .int w_mo_undoMany, .ref mo_asideA, .ref mo_weighingsA, .int mo_weighed, .ref mo_bookA, .int mo_entries, .ref mo_isKeptA, .ref mo_keptA, .ref mo_seedsA])), (mo_toldA, .inl (κ 0, 37, .inl mo_told)), (mo_stA, .inl (κ 0, 17, .inl (upd w_mo_st v1.toNatClampNeg y4))), (mo_textA, .inl (κ 0, 240, .inl mo_text)), (mo_readA, .inl (κ 0, 37, .inl mo_read)), (mo_aheadA, .inl (κ 0, 340, .inl mo_ahead)), (mo_asideA, .inl (κ 0, 17, .inl mo_aside)), (mo_weighingsA, .inl (κ 0, 12, .inl mo_weighings)), (mo_bookA, .inl (κ 0, 30, .inl mo_book)), (mo_isKeptA, .inl (κ 1, 2, .inl mo_isKept)), (mo_keptA, .inl (κ 0, 34, .inl mo_kept)), (mo_seedsA, .inl (κ 0, 2, .inl mo_seeds))]) H := hP
        have hD : va_D A ([(moo, .inr (9, [.ref mo_toldA, .ref mo_stA, .int mo_isThere, .int mo_seed, .ref mo_textA, .int mo_typed, .int mo_faultAt, .int mo_place, .int mo_wrong, .int mo_value, .ref mo_readA, .ref mo_aheadA, .int w_mo_undoMany, .ref mo_asideA, .ref mo_weighingsA, .int mo_weighed, .ref mo_bookA, .int mo_entries, .ref mo_isKeptA, .ref mo_keptA, .ref mo_seedsA])), (mo_toldA, .inl (κ 0, 37, .inl mo_told)), (mo_stA, .inl (κ 0, 17, .inl (upd w_mo_st v1.toNatClampNeg y4))), (mo_textA, .inl (κ 0, 240, .inl mo_text)), (mo_readA, .inl (κ 0, 37, .inl mo_read)), (mo_aheadA, .inl (κ 0, 340, .inl mo_ahead)), (mo_asideA, .inl (κ 0, 17, .inl mo_aside)), (mo_weighingsA, .inl (κ 0, 12, .inl mo_weighings)), (mo_bookA, .inl (κ 0, 30, .inl mo_book)), (mo_isKeptA, .inl (κ 1, 2, .inl mo_isKept)), (mo_keptA, .inl (κ 0, 34, .inl mo_kept)), (mo_seedsA, .inl (κ 0, 2, .inl mo_seeds))]) := hD
        refine lv_iinc (v := (v1 + 1)) (lv' := [(1, .int (v1 + 1)), (0, .ref moo)]) hx hb dX9_undo_48 hl (k := 1) rfl rfl (by decide) rfl (fun ls hl => ?_)
        refine lv_goto (tgt := 22) hx hb dX9_undo_51 (by decide) ?_
        exact ih22 (v1 + 1) (upd w_mo_st v1.toNatClampNeg y4) w_mo_undoMany _ _ _ hP hD hS (lv_sub hl [1, 0] rfl) hres
  unfold pX9_undo at hres
  refine lv_aload_n hx hb dX9_undo_0 rfl (lv_at hl 0 rfl) ?_
  refine va_get (D := D) (ci := 9) (v := .int mo_undoMany) (C := RX9) (T := TX9) (N := 21) hx hb hts iw9 hown hK.1 hP 0 rfl rfl 12 (by decide) k0 (fun _ h9 => h9) rfl dX9_undo_1 ?_
  refine lv_if_ne (tgt := 10) hx hb dX9_undo_4 (by decide) (fun c1 => ?_) (fun c1 => ?_)
  · replace hres := og_f c1 hres
    refine lv_aload_n hx hb dX9_undo_10 rfl (lv_at hl 0 rfl) ?_
    refine lv_dup hx hb dX9_undo_11 rfl ?_
    refine va_get (D := D) (ci := 9) (v := .int mo_undoMany) (C := RX9) (T := TX9) (N := 21) hx hb hts iw9 hown hK.1 hP 0 rfl rfl 12 (by decide) k0 (fun _ h9 => h9) rfl dX9_undo_12 ?_
    refine lv_iconst (v := 1) hx hb dX9_undo_15 (by decide) ?_
    refine lv_isub hx hb dX9_undo_16 ?_
    refine va_put (D := D) (ci := 9) (v := .int (mo_undoMany - 1)) (ty := .int) (C := RX9) (T := TX9) (N := 21) hx hb hts iw9 tyX9 tyX9_ok nmX9 hown hK.1 hP hD hS 0 rfl rfl 12 (by decide) k0 (fun _ h9 => h9) rfl (tyX9_ok 12 (by decide)) rfl rfl (Nat.le_of_ble_eq_true rfl) dX9_undo_17 (fun H locs hP hD hS => ?_)
    have hP : va_P D vwCl ([(moo, .inr (9, [.ref mo_toldA, .ref mo_stA, .int mo_isThere, .int mo_seed, .ref mo_textA, .int mo_typed, .int mo_faultAt, .int mo_place, .int mo_wrong, .int mo_value, .ref mo_readA, .ref mo_aheadA, .int (mo_undoMany - 1), .ref mo_asideA, .ref mo_weighingsA, .int mo_weighed, .ref mo_bookA, .int mo_entries, .ref mo_isKeptA, .ref mo_keptA, .ref mo_seedsA])), (mo_toldA, .inl (κ 0, 37, .inl mo_told)), (mo_stA, .inl (κ 0, 17, .inl mo_st)), (mo_textA, .inl (κ 0, 240, .inl mo_text)), (mo_readA, .inl (κ 0, 37, .inl mo_read)), (mo_aheadA, .inl (κ 0, 340, .inl mo_ahead)), (mo_asideA, .inl (κ 0, 17, .inl mo_aside)), (mo_weighingsA, .inl (κ 0, 12, .inl mo_weighings)), (mo_bookA, .inl (κ 0, 30, .inl mo_book)), (mo_isKeptA, .inl (κ 1, 2, .inl mo_isKept)), (mo_keptA, .inl (κ 0, 34, .inl mo_kept)), (mo_seedsA, .inl (κ 0, 2, .inl mo_seeds))]) H := hP
    have hD : va_D A ([(moo, .inr (9, [.ref mo_toldA, .ref mo_stA, .int mo_isThere, .int mo_seed, .ref mo_textA, .int mo_typed, .int mo_faultAt, .int mo_place, .int mo_wrong, .int mo_value, .ref mo_readA, .ref mo_aheadA, .int (mo_undoMany - 1), .ref mo_asideA, .ref mo_weighingsA, .int mo_weighed, .ref mo_bookA, .int mo_entries, .ref mo_isKeptA, .ref mo_keptA, .ref mo_seedsA])), (mo_toldA, .inl (κ 0, 37, .inl mo_told)), (mo_stA, .inl (κ 0, 17, .inl mo_st)), (mo_textA, .inl (κ 0, 240, .inl mo_text)), (mo_readA, .inl (κ 0, 37, .inl mo_read)), (mo_aheadA, .inl (κ 0, 340, .inl mo_ahead)), (mo_asideA, .inl (κ 0, 17, .inl mo_aside)), (mo_weighingsA, .inl (κ 0, 12, .inl mo_weighings)), (mo_bookA, .inl (κ 0, 30, .inl mo_book)), (mo_isKeptA, .inl (κ 1, 2, .inl mo_isKept)), (mo_keptA, .inl (κ 0, 34, .inl mo_kept)), (mo_seedsA, .inl (κ 0, 2, .inl mo_seeds))]) := hD
    refine lv_iconst (v := 0) hx hb dX9_undo_20 (by decide) ?_
    refine lv_istore_n (lv' := [(1, .int 0), (0, .ref moo)]) hx hb dX9_undo_21 rfl hl (by decide) rfl (fun ls hl => ?_)
    exact L22 N 0 mo_st (mo_undoMany - 1) _ _ _ hP hD hS (lv_sub hl [1, 0] rfl) hres
  · replace hres := og_t c1 hres
    refine lv_ldc (v := (-1000000003)) hx hb hown k1 dX9_undo_7 ?_
    have hres := Option.some.inj hres
    have h0 := (Prod.mk.inj hres).1
    replace hres := (Prod.mk.inj hres).2
    have h1 := (Prod.mk.inj hres).1
    replace hres := (Prod.mk.inj hres).2
    have h2 := hres
    subst h0
    subst h1
    subst h2
    exact hret _ _ _ _ (vp_nar_int _) hP hD hS dX9_undo_9

def pX9_bringsBy_L37 (k5 : Int32 → Int32 → Option (Int32)) (v4 : Int32) (s0 : Int32) (s1 : Int32) : Option (Int32) :=
    k5 (s1 + s0) (v4 + 1)
def pX9_bringsBy_L5 (x1 : Int32) (x2 : Int32) (mo_told : Nat → Int32) (mo_st : Nat → Int32) : Nat → Int32 → Int32 → Option (Int32)
  | 0, _, _ => none
  | n5 + 1, v3, v4 =>
    (if (mo_told 2) ≤ v4 then
    some (v3)
    else
    kb1 (pX9_has x2 v4) fun r2 =>
    (if r2 = 0 then
    kb1 (pX9_paysBy v4 x1 mo_told mo_st) fun r5 =>
    pX9_bringsBy_L37 (pX9_bringsBy_L5 x1 x2 mo_told mo_st n5) v4 r5 v3
    else
    pX9_bringsBy_L37 (pX9_bringsBy_L5 x1 x2 mo_told mo_st n5) v4 0 v3))
def pX9_bringsBy (N : Nat) (x1 : Int32) (x2 : Int32) (mo_told : Nat → Int32) (mo_st : Nat → Int32) : Option (Int32) :=
    pX9_bringsBy_L5 x1 x2 mo_told mo_st N 0 0
set_option maxHeartbeats 8000000 in
set_option maxRecDepth 100000 in
theorem tX9_bringsBy (l : Launch) (D : va_G) (κ : Nat → ClassId) (moo : Nat) (mo_toldA : Nat) (mo_stA : Nat) (mo_textA : Nat) (mo_readA : Nat) (mo_aheadA : Nat) (mo_asideA : Nat) (mo_weighingsA : Nat) (mo_bookA : Nat) (mo_isKeptA : Nat) (mo_keptA : Nat) (mo_seedsA : Nat) (N : Nat) (mo_told : Nat → Int32) (mo_st : Nat → Int32) (mo_isThere : Int32) (mo_seed : Int32) (mo_text : Nat → Int32) (mo_typed : Int32) (mo_faultAt : Int32) (mo_place : Int32) (mo_wrong : Int32) (mo_value : Int32) (mo_read : Nat → Int32) (mo_ahead : Nat → Int32) (mo_undoMany : Int32) (mo_aside : Nat → Int32) (mo_weighings : Nat → Int32) (mo_weighed : Int32) (mo_book : Nat → Int32) (mo_entries : Int32) (mo_isKept : Nat → Int32) (mo_kept : Nat → Int32) (mo_seeds : Nat → Int32) (x1 : Int32) (x2 : Int32) (r0 : Int32) (hres : pX9_bringsBy N x1 x2 mo_told mo_st = some (r0)) : krI l yX9_bringsBy wsX9_bringsBy { frames := 2, cells := 0, slots := 0, locals := 200 } D κ [.ref moo, .int x1, .int x2] ([(moo, .inr (9, [.ref mo_toldA, .ref mo_stA, .int mo_isThere, .int mo_seed, .ref mo_textA, .int mo_typed, .int mo_faultAt, .int mo_place, .int mo_wrong, .int mo_value, .ref mo_readA, .ref mo_aheadA, .int mo_undoMany, .ref mo_asideA, .ref mo_weighingsA, .int mo_weighed, .ref mo_bookA, .int mo_entries, .ref mo_isKeptA, .ref mo_keptA, .ref mo_seedsA])), (mo_toldA, .inl (κ 0, 37, .inl mo_told)), (mo_stA, .inl (κ 0, 17, .inl mo_st)), (mo_textA, .inl (κ 0, 240, .inl mo_text)), (mo_readA, .inl (κ 0, 37, .inl mo_read)), (mo_aheadA, .inl (κ 0, 340, .inl mo_ahead)), (mo_asideA, .inl (κ 0, 17, .inl mo_aside)), (mo_weighingsA, .inl (κ 0, 12, .inl mo_weighings)), (mo_bookA, .inl (κ 0, 30, .inl mo_book)), (mo_isKeptA, .inl (κ 1, 2, .inl mo_isKept)), (mo_keptA, .inl (κ 0, 34, .inl mo_kept)), (mo_seedsA, .inl (κ 0, 2, .inl mo_seeds))]) ([(moo, .inr (9, [.ref mo_toldA, .ref mo_stA, .int mo_isThere, .int mo_seed, .ref mo_textA, .int mo_typed, .int mo_faultAt, .int mo_place, .int mo_wrong, .int mo_value, .ref mo_readA, .ref mo_aheadA, .int mo_undoMany, .ref mo_asideA, .ref mo_weighingsA, .int mo_weighed, .ref mo_bookA, .int mo_entries, .ref mo_isKeptA, .ref mo_keptA, .ref mo_seedsA])), (mo_toldA, .inl (κ 0, 37, .inl mo_told)), (mo_stA, .inl (κ 0, 17, .inl mo_st)), (mo_textA, .inl (κ 0, 240, .inl mo_text)), (mo_readA, .inl (κ 0, 37, .inl mo_read)), (mo_aheadA, .inl (κ 0, 340, .inl mo_ahead)), (mo_asideA, .inl (κ 0, 17, .inl mo_aside)), (mo_weighingsA, .inl (κ 0, 12, .inl mo_weighings)), (mo_bookA, .inl (κ 0, 30, .inl mo_book)), (mo_isKeptA, .inl (κ 1, 2, .inl mo_isKept)), (mo_keptA, .inl (κ 0, 34, .inl mo_kept)), (mo_seedsA, .inl (κ 0, 2, .inl mo_seeds))]) r0 := by
  refine krI_of (cc := cX9_bringsBy) (maxL := 5) (rt := .int) (by decide) rfl (Nat.le_of_ble_eq_true rfl) ?_
  intro p e s m args below meth c A Q ls hx hb hml hown hts hK hA hret hP hD hS hl
  have hown : s.vm.findClass RX9 = some m.cls := hown
  have hl : lv_has ls 5 [(0, .ref moo), (1, .int x1), (2, .int x2)] := hl
  have iw9 : ∀ w ∈ u_ws RX9 TX9 21, w ∈ wsX9_bringsBy := (fun _ h => List.mem_cons_of_mem _ (List.mem_append_right _ h))
  have k0 : (Cond.fieldLink RX9 7 "KingRansomModel" "told" "[I").before args s = true := hts _ (List.mem_of_getElem? (i := 1) rfl)
  have L5 : ∀ (n5 : Nat) (v3 : Int32) (v4 : Int32) (H : Heap) (locs : List Loc) (ls : Array Slot), va_P D vwCl ([(moo, .inr (9, [.ref mo_toldA, .ref mo_stA, .int mo_isThere, .int mo_seed, .ref mo_textA, .int mo_typed, .int mo_faultAt, .int mo_place, .int mo_wrong, .int mo_value, .ref mo_readA, .ref mo_aheadA, .int mo_undoMany, .ref mo_asideA, .ref mo_weighingsA, .int mo_weighed, .ref mo_bookA, .int mo_entries, .ref mo_isKeptA, .ref mo_keptA, .ref mo_seedsA])), (mo_toldA, .inl (κ 0, 37, .inl mo_told)), (mo_stA, .inl (κ 0, 17, .inl mo_st)), (mo_textA, .inl (κ 0, 240, .inl mo_text)), (mo_readA, .inl (κ 0, 37, .inl mo_read)), (mo_aheadA, .inl (κ 0, 340, .inl mo_ahead)), (mo_asideA, .inl (κ 0, 17, .inl mo_aside)), (mo_weighingsA, .inl (κ 0, 12, .inl mo_weighings)), (mo_bookA, .inl (κ 0, 30, .inl mo_book)), (mo_isKeptA, .inl (κ 1, 2, .inl mo_isKept)), (mo_keptA, .inl (κ 0, 34, .inl mo_kept)), (mo_seedsA, .inl (κ 0, 2, .inl mo_seeds))]) H → va_D A ([(moo, .inr (9, [.ref mo_toldA, .ref mo_stA, .int mo_isThere, .int mo_seed, .ref mo_textA, .int mo_typed, .int mo_faultAt, .int mo_place, .int mo_wrong, .int mo_value, .ref mo_readA, .ref mo_aheadA, .int mo_undoMany, .ref mo_asideA, .ref mo_weighingsA, .int mo_weighed, .ref mo_bookA, .int mo_entries, .ref mo_isKeptA, .ref mo_keptA, .ref mo_seedsA])), (mo_toldA, .inl (κ 0, 37, .inl mo_told)), (mo_stA, .inl (κ 0, 17, .inl mo_st)), (mo_textA, .inl (κ 0, 240, .inl mo_text)), (mo_readA, .inl (κ 0, 37, .inl mo_read)), (mo_aheadA, .inl (κ 0, 340, .inl mo_ahead)), (mo_asideA, .inl (κ 0, 17, .inl mo_aside)), (mo_weighingsA, .inl (κ 0, 12, .inl mo_weighings)), (mo_bookA, .inl (κ 0, 30, .inl mo_book)), (mo_isKeptA, .inl (κ 1, 2, .inl mo_isKept)), (mo_keptA, .inl (κ 0, 34, .inl mo_kept)), (mo_seedsA, .inl (κ 0, 2, .inl mo_seeds))]) → va_S A s.heap H locs → lv_has ls 5 [(0, .ref moo), (1, .int x1), (2, .int x2), (3, .int v3), (4, .int v4)] → pX9_bringsBy_L5 x1 x2 mo_told mo_st n5 v3 v4 = some (r0) → W p l e { frames := 2, cells := 0, slots := 0, locals := 200 } s m args below meth c H locs 0 0 Q (F0 m 5 ls []) := by
    intro n5
    induction n5 with
    | zero =>
      intro v3 v4 H locs ls hP hD hS hl hres
      exact absurd (show none = some _ from hres) (by simp)
    | succ n5 ih5 =>
      intro v3 v4 H locs ls hP hD hS hl hres
      have L37 : ∀ (v4 : Int32) (s0 : Int32) (s1 : Int32) (H : Heap) (locs : List Loc) (ls : Array Slot), va_P D vwCl ([(moo, .inr (9, [.ref mo_toldA, .ref mo_stA, .int mo_isThere, .int mo_seed, .ref mo_textA, .int mo_typed, .int mo_faultAt, .int mo_place, .int mo_wrong, .int mo_value, .ref mo_readA, .ref mo_aheadA, .int mo_undoMany, .ref mo_asideA, .ref mo_weighingsA, .int mo_weighed, .ref mo_bookA, .int mo_entries, .ref mo_isKeptA, .ref mo_keptA, .ref mo_seedsA])), (mo_toldA, .inl (κ 0, 37, .inl mo_told)), (mo_stA, .inl (κ 0, 17, .inl mo_st)), (mo_textA, .inl (κ 0, 240, .inl mo_text)), (mo_readA, .inl (κ 0, 37, .inl mo_read)), (mo_aheadA, .inl (κ 0, 340, .inl mo_ahead)), (mo_asideA, .inl (κ 0, 17, .inl mo_aside)), (mo_weighingsA, .inl (κ 0, 12, .inl mo_weighings)), (mo_bookA, .inl (κ 0, 30, .inl mo_book)), (mo_isKeptA, .inl (κ 1, 2, .inl mo_isKept)), (mo_keptA, .inl (κ 0, 34, .inl mo_kept)), (mo_seedsA, .inl (κ 0, 2, .inl mo_seeds))]) H → va_D A ([(moo, .inr (9, [.ref mo_toldA, .ref mo_stA, .int mo_isThere, .int mo_seed, .ref mo_textA, .int mo_typed, .int mo_faultAt, .int mo_place, .int mo_wrong, .int mo_value, .ref mo_readA, .ref mo_aheadA, .int mo_undoMany, .ref mo_asideA, .ref mo_weighingsA, .int mo_weighed, .ref mo_bookA, .int mo_entries, .ref mo_isKeptA, .ref mo_keptA, .ref mo_seedsA])), (mo_toldA, .inl (κ 0, 37, .inl mo_told)), (mo_stA, .inl (κ 0, 17, .inl mo_st)), (mo_textA, .inl (κ 0, 240, .inl mo_text)), (mo_readA, .inl (κ 0, 37, .inl mo_read)), (mo_aheadA, .inl (κ 0, 340, .inl mo_ahead)), (mo_asideA, .inl (κ 0, 17, .inl mo_aside)), (mo_weighingsA, .inl (κ 0, 12, .inl mo_weighings)), (mo_bookA, .inl (κ 0, 30, .inl mo_book)), (mo_isKeptA, .inl (κ 1, 2, .inl mo_isKept)), (mo_keptA, .inl (κ 0, 34, .inl mo_kept)), (mo_seedsA, .inl (κ 0, 2, .inl mo_seeds))]) → va_S A s.heap H locs → lv_has ls 5 [(0, .ref moo), (1, .int x1), (2, .int x2), (4, .int v4)] → pX9_bringsBy_L37 (pX9_bringsBy_L5 x1 x2 mo_told mo_st n5) v4 s0 s1 = some (r0) → W p l e { frames := 2, cells := 0, slots := 0, locals := 200 } s m args below meth c H locs 0 0 Q (F0 m 37 ls [.int s0, .int s1]) := by
        intro v4 s0 s1 H locs ls hP hD hS hl hres
        unfold pX9_bringsBy_L37 at hres
        refine lv_iadd hx hb dX9_bringsBy_37 ?_
        refine lv_istore_n (lv' := [(3, .int (s1 + s0)), (0, .ref moo), (1, .int x1), (2, .int x2), (4, .int v4)]) hx hb dX9_bringsBy_38 rfl hl (by decide) rfl (fun ls hl => ?_)
        refine lv_iinc (v := (v4 + 1)) (lv' := [(4, .int (v4 + 1)), (3, .int (s1 + s0)), (0, .ref moo), (1, .int x1), (2, .int x2)]) hx hb dX9_bringsBy_39 hl (k := 4) rfl rfl (by decide) rfl (fun ls hl => ?_)
        refine lv_goto (tgt := 5) hx hb dX9_bringsBy_42 (by decide) ?_
        exact ih5 (s1 + s0) (v4 + 1) _ _ _ hP hD hS (lv_sub hl [2, 3, 4, 1, 0] rfl) hres
      rw [pX9_bringsBy_L5] at hres
      refine lv_iload hx hb dX9_bringsBy_5 (lv_at hl 4 rfl) ?_
      refine lv_aload_n hx hb dX9_bringsBy_7 rfl (lv_at hl 0 rfl) ?_
      refine va_get (D := D) (ci := 9) (v := .ref mo_toldA) (C := RX9) (T := TX9) (N := 21) hx hb hts iw9 hown hK.1 hP 0 rfl rfl 0 (by decide) k0 (fun _ h9 => h9) rfl dX9_bringsBy_8 ?_
      refine lv_iconst (v := 2) hx hb dX9_bringsBy_11 (by decide) ?_
      refine kr_iald (f := mo_told) (j := 2) hx hb hK hP 1 rfl (by decide) (by decide) dX9_bringsBy_12 ?_
      refine lv_icmp_ge (tgt := 45) hx hb dX9_bringsBy_13 (by decide) (fun c1 => ?_) (fun c1 => ?_)
      · replace hres := og_t c1 hres
        refine lv_iload_n hx hb dX9_bringsBy_45 rfl (lv_at hl 3 rfl) ?_
        have hres := Option.some.inj hres
        have h0 := hres
        subst h0
        exact hret _ _ _ _ (vp_nar_int _) hP hD hS dX9_bringsBy_46
      · replace hres := og_f c1 hres
        refine lv_iload_n hx hb dX9_bringsBy_16 rfl (lv_at hl 3 rfl) ?_
        refine lv_iload_n hx hb dX9_bringsBy_17 rfl (lv_at hl 2 rfl) ?_
        refine lv_iload hx hb dX9_bringsBy_18 (lv_at hl 4 rfl) ?_
        obtain ⟨r2, hc3, hres⟩ := kb1_s hres
        refine krI_S0 (As := [.int x2, .int v4]) (rest := [.int v3]) ⟨hx, hb, hml, hown, hts⟩ hK (tX9_has l D κ x2 v4 r2 hc3) (va_cwS 2 hts gX9_bringsBy_X9_has rfl rfl rfl (by decide +kernel) ⟨(Nat.le_of_ble_eq_true rfl), (Nat.le_of_ble_eq_true rfl)⟩) hP hD hS hA rfl hl.1 rfl (Nat.le_of_ble_eq_true rfl) dX9_bringsBy_20 ⟨Nat.zero_le _, Nat.zero_le _⟩ (fun H locs hP hD hS => ?_)
        refine lv_if_eq (tgt := 30) hx hb dX9_bringsBy_23 (by decide) (fun c4 => ?_) (fun c4 => ?_)
        · replace hres := og_t c4 hres
          refine lv_aload_n hx hb dX9_bringsBy_30 rfl (lv_at hl 0 rfl) ?_
          refine lv_iload hx hb dX9_bringsBy_31 (lv_at hl 4 rfl) ?_
          refine lv_iload_n hx hb dX9_bringsBy_33 rfl (lv_at hl 1 rfl) ?_
          obtain ⟨r5, hc6, hres⟩ := kb1_s hres
          refine krI_V (As := [.int v4, .int x1]) (rest := [.int v3]) (wr := []) ⟨hx, hb, hml, hown, hts⟩ hK (tX9_paysBy l D κ moo mo_toldA mo_stA mo_textA mo_readA mo_aheadA mo_asideA mo_weighingsA mo_bookA mo_isKeptA mo_keptA mo_seedsA mo_told mo_st mo_isThere mo_seed mo_text mo_typed mo_faultAt mo_place mo_wrong mo_value mo_read mo_ahead mo_undoMany mo_aside mo_weighings mo_weighed mo_book mo_entries mo_isKept mo_kept mo_seeds v4 x1 r5 hc6) (cwV 2 hts gX9_bringsBy_X9_paysBy rfl rfl rfl (by decide +kernel) ⟨(Nat.le_of_ble_eq_true rfl), (Nat.le_of_ble_eq_true rfl)⟩) rfl rfl rfl hP hD hS hA [0, 1, 2, 3, 4, 5, 6, 7, 8, 9, 10, 11] [] rfl rfl rfl rfl (by decide) rfl hl.1 rfl (Nat.le_of_ble_eq_true rfl) dX9_bringsBy_34 ⟨Nat.zero_le _, Nat.zero_le _⟩ (fun H locs hP hD hS => ?_)
          have hP : va_P D vwCl ([(moo, .inr (9, [.ref mo_toldA, .ref mo_stA, .int mo_isThere, .int mo_seed, .ref mo_textA, .int mo_typed, .int mo_faultAt, .int mo_place, .int mo_wrong, .int mo_value, .ref mo_readA, .ref mo_aheadA, .int mo_undoMany, .ref mo_asideA, .ref mo_weighingsA, .int mo_weighed, .ref mo_bookA, .int mo_entries, .ref mo_isKeptA, .ref mo_keptA, .ref mo_seedsA])), (mo_toldA, .inl (κ 0, 37, .inl mo_told)), (mo_stA, .inl (κ 0, 17, .inl mo_st)), (mo_textA, .inl (κ 0, 240, .inl mo_text)), (mo_readA, .inl (κ 0, 37, .inl mo_read)), (mo_aheadA, .inl (κ 0, 340, .inl mo_ahead)), (mo_asideA, .inl (κ 0, 17, .inl mo_aside)), (mo_weighingsA, .inl (κ 0, 12, .inl mo_weighings)), (mo_bookA, .inl (κ 0, 30, .inl mo_book)), (mo_isKeptA, .inl (κ 1, 2, .inl mo_isKept)), (mo_keptA, .inl (κ 0, 34, .inl mo_kept)), (mo_seedsA, .inl (κ 0, 2, .inl mo_seeds))]) H := hP
          have hD : va_D A ([(moo, .inr (9, [.ref mo_toldA, .ref mo_stA, .int mo_isThere, .int mo_seed, .ref mo_textA, .int mo_typed, .int mo_faultAt, .int mo_place, .int mo_wrong, .int mo_value, .ref mo_readA, .ref mo_aheadA, .int mo_undoMany, .ref mo_asideA, .ref mo_weighingsA, .int mo_weighed, .ref mo_bookA, .int mo_entries, .ref mo_isKeptA, .ref mo_keptA, .ref mo_seedsA])), (mo_toldA, .inl (κ 0, 37, .inl mo_told)), (mo_stA, .inl (κ 0, 17, .inl mo_st)), (mo_textA, .inl (κ 0, 240, .inl mo_text)), (mo_readA, .inl (κ 0, 37, .inl mo_read)), (mo_aheadA, .inl (κ 0, 340, .inl mo_ahead)), (mo_asideA, .inl (κ 0, 17, .inl mo_aside)), (mo_weighingsA, .inl (κ 0, 12, .inl mo_weighings)), (mo_bookA, .inl (κ 0, 30, .inl mo_book)), (mo_isKeptA, .inl (κ 1, 2, .inl mo_isKept)), (mo_keptA, .inl (κ 0, 34, .inl mo_kept)), (mo_seedsA, .inl (κ 0, 2, .inl mo_seeds))]) := hD
          exact L37 v4 r5 v3 _ _ _ hP hD hS (lv_sub hl [0, 1, 2, 4] rfl) hres
        · replace hres := og_f c4 hres
          refine lv_iconst (v := 0) hx hb dX9_bringsBy_26 (by decide) ?_
          refine lv_goto (tgt := 37) hx hb dX9_bringsBy_27 (by decide) ?_
          exact L37 v4 0 v3 _ _ _ hP hD hS (lv_sub hl [0, 1, 2, 4] rfl) hres
  unfold pX9_bringsBy at hres
  refine lv_iconst (v := 0) hx hb dX9_bringsBy_0 (by decide) ?_
  refine lv_istore_n (lv' := [(3, .int 0), (0, .ref moo), (1, .int x1), (2, .int x2)]) hx hb dX9_bringsBy_1 rfl hl (by decide) rfl (fun ls hl => ?_)
  refine lv_iconst (v := 0) hx hb dX9_bringsBy_2 (by decide) ?_
  refine lv_istore (lv' := [(4, .int 0), (3, .int 0), (0, .ref moo), (1, .int x1), (2, .int x2)]) hx hb dX9_bringsBy_3 hl (by decide) rfl (fun ls hl => ?_)
  exact L5 N 0 0 _ _ _ hP hD hS (lv_sub hl [2, 3, 4, 1, 0] rfl) hres

def pX9_brings (N : Nat) (x1 : Int32) (mo_told : Nat → Int32) (mo_st : Nat → Int32) : Option (Int32) :=
    kb1 (pX9_in (x1.toInt64) 0 100) fun r1 =>
    (if r1 = 0 then
    some ((-1000000002))
    else
    kb1 (pX9_bringsBy N x1 0 mo_told mo_st) fun r4 =>
    some (r4))
set_option maxHeartbeats 8000000 in
set_option maxRecDepth 100000 in
theorem tX9_brings (l : Launch) (D : va_G) (κ : Nat → ClassId) (moo : Nat) (mo_toldA : Nat) (mo_stA : Nat) (mo_textA : Nat) (mo_readA : Nat) (mo_aheadA : Nat) (mo_asideA : Nat) (mo_weighingsA : Nat) (mo_bookA : Nat) (mo_isKeptA : Nat) (mo_keptA : Nat) (mo_seedsA : Nat) (N : Nat) (mo_told : Nat → Int32) (mo_st : Nat → Int32) (mo_isThere : Int32) (mo_seed : Int32) (mo_text : Nat → Int32) (mo_typed : Int32) (mo_faultAt : Int32) (mo_place : Int32) (mo_wrong : Int32) (mo_value : Int32) (mo_read : Nat → Int32) (mo_ahead : Nat → Int32) (mo_undoMany : Int32) (mo_aside : Nat → Int32) (mo_weighings : Nat → Int32) (mo_weighed : Int32) (mo_book : Nat → Int32) (mo_entries : Int32) (mo_isKept : Nat → Int32) (mo_kept : Nat → Int32) (mo_seeds : Nat → Int32) (x1 : Int32) (r0 : Int32) (hres : pX9_brings N x1 mo_told mo_st = some (r0)) : krI l yX9_brings wsX9_brings { frames := 3, cells := 0, slots := 0, locals := 300 } D κ [.ref moo, .int x1] ([(moo, .inr (9, [.ref mo_toldA, .ref mo_stA, .int mo_isThere, .int mo_seed, .ref mo_textA, .int mo_typed, .int mo_faultAt, .int mo_place, .int mo_wrong, .int mo_value, .ref mo_readA, .ref mo_aheadA, .int mo_undoMany, .ref mo_asideA, .ref mo_weighingsA, .int mo_weighed, .ref mo_bookA, .int mo_entries, .ref mo_isKeptA, .ref mo_keptA, .ref mo_seedsA])), (mo_toldA, .inl (κ 0, 37, .inl mo_told)), (mo_stA, .inl (κ 0, 17, .inl mo_st)), (mo_textA, .inl (κ 0, 240, .inl mo_text)), (mo_readA, .inl (κ 0, 37, .inl mo_read)), (mo_aheadA, .inl (κ 0, 340, .inl mo_ahead)), (mo_asideA, .inl (κ 0, 17, .inl mo_aside)), (mo_weighingsA, .inl (κ 0, 12, .inl mo_weighings)), (mo_bookA, .inl (κ 0, 30, .inl mo_book)), (mo_isKeptA, .inl (κ 1, 2, .inl mo_isKept)), (mo_keptA, .inl (κ 0, 34, .inl mo_kept)), (mo_seedsA, .inl (κ 0, 2, .inl mo_seeds))]) ([(moo, .inr (9, [.ref mo_toldA, .ref mo_stA, .int mo_isThere, .int mo_seed, .ref mo_textA, .int mo_typed, .int mo_faultAt, .int mo_place, .int mo_wrong, .int mo_value, .ref mo_readA, .ref mo_aheadA, .int mo_undoMany, .ref mo_asideA, .ref mo_weighingsA, .int mo_weighed, .ref mo_bookA, .int mo_entries, .ref mo_isKeptA, .ref mo_keptA, .ref mo_seedsA])), (mo_toldA, .inl (κ 0, 37, .inl mo_told)), (mo_stA, .inl (κ 0, 17, .inl mo_st)), (mo_textA, .inl (κ 0, 240, .inl mo_text)), (mo_readA, .inl (κ 0, 37, .inl mo_read)), (mo_aheadA, .inl (κ 0, 340, .inl mo_ahead)), (mo_asideA, .inl (κ 0, 17, .inl mo_aside)), (mo_weighingsA, .inl (κ 0, 12, .inl mo_weighings)), (mo_bookA, .inl (κ 0, 30, .inl mo_book)), (mo_isKeptA, .inl (κ 1, 2, .inl mo_isKept)), (mo_keptA, .inl (κ 0, 34, .inl mo_kept)), (mo_seedsA, .inl (κ 0, 2, .inl mo_seeds))]) r0 := by
  refine krI_of (cc := cX9_brings) (maxL := 2) (rt := .int) (by decide) rfl (Nat.le_of_ble_eq_true rfl) ?_
  intro p e s m args below meth c A Q ls hx hb hml hown hts hK hA hret hP hD hS hl
  have hown : s.vm.findClass RX9 = some m.cls := hown
  have hl : lv_has ls 2 [(0, .ref moo), (1, .int x1)] := hl
  have k0 : (Cond.constantLong RX9 137 (100)).before args s = true := hts _ (List.mem_of_getElem? (i := 1) rfl)
  have k1 : (Cond.constant RX9 54 (-1000000002)).before args s = true := hts _ (List.mem_of_getElem? (i := 2) rfl)
  unfold pX9_brings at hres
  refine lv_iload_n hx hb dX9_brings_0 rfl (lv_at hl 1 rfl) ?_
  refine lv_i2l (v := x1.toInt64) hx hb dX9_brings_1 rfl ?_
  refine lv_lconst (v := 0) hx hb dX9_brings_2 (by decide) ?_
  refine lv_ldc2 (v := 100) hx hb hown k0 dX9_brings_3 ?_
  obtain ⟨r1, hc2, hres⟩ := kb1_s hres
  refine krI_S0 (As := [.long (x1.toInt64), .long 0, .long 100]) (rest := []) ⟨hx, hb, hml, hown, hts⟩ hK (tX9_in l D κ (x1.toInt64) 0 100 r1 hc2) (va_cwS 3 hts gX9_brings_X9_in rfl rfl rfl (by decide +kernel) ⟨(Nat.le_of_ble_eq_true rfl), (Nat.le_of_ble_eq_true rfl)⟩) hP hD hS hA rfl hl.1 rfl (Nat.le_of_ble_eq_true rfl) dX9_brings_6 ⟨Nat.zero_le _, Nat.zero_le _⟩ (fun H locs hP hD hS => ?_)
  refine lv_if_eq (tgt := 21) hx hb dX9_brings_9 (by decide) (fun c3 => ?_) (fun c3 => ?_)
  · replace hres := og_t c3 hres
    refine lv_ldc (v := (-1000000002)) hx hb hown k1 dX9_brings_21 ?_
    have hres := Option.some.inj hres
    have h0 := hres
    subst h0
    exact hret _ _ _ _ (vp_nar_int _) hP hD hS dX9_brings_23
  · replace hres := og_f c3 hres
    refine lv_aload_n hx hb dX9_brings_12 rfl (lv_at hl 0 rfl) ?_
    refine lv_iload_n hx hb dX9_brings_13 rfl (lv_at hl 1 rfl) ?_
    refine lv_iconst (v := 0) hx hb dX9_brings_14 (by decide) ?_
    obtain ⟨r4, hc5, hres⟩ := kb1_s hres
    refine krI_V (As := [.int x1, .int 0]) (rest := []) (wr := []) ⟨hx, hb, hml, hown, hts⟩ hK (tX9_bringsBy l D κ moo mo_toldA mo_stA mo_textA mo_readA mo_aheadA mo_asideA mo_weighingsA mo_bookA mo_isKeptA mo_keptA mo_seedsA N mo_told mo_st mo_isThere mo_seed mo_text mo_typed mo_faultAt mo_place mo_wrong mo_value mo_read mo_ahead mo_undoMany mo_aside mo_weighings mo_weighed mo_book mo_entries mo_isKept mo_kept mo_seeds x1 0 r4 hc5) (cwV 2 hts gX9_brings_X9_bringsBy rfl rfl rfl (by decide +kernel) ⟨(Nat.le_of_ble_eq_true rfl), (Nat.le_of_ble_eq_true rfl)⟩) rfl rfl rfl hP hD hS hA [0, 1, 2, 3, 4, 5, 6, 7, 8, 9, 10, 11] [] rfl rfl rfl rfl (by decide) rfl hl.1 rfl (Nat.le_of_ble_eq_true rfl) dX9_brings_15 ⟨Nat.zero_le _, Nat.zero_le _⟩ (fun H locs hP hD hS => ?_)
    have hP : va_P D vwCl ([(moo, .inr (9, [.ref mo_toldA, .ref mo_stA, .int mo_isThere, .int mo_seed, .ref mo_textA, .int mo_typed, .int mo_faultAt, .int mo_place, .int mo_wrong, .int mo_value, .ref mo_readA, .ref mo_aheadA, .int mo_undoMany, .ref mo_asideA, .ref mo_weighingsA, .int mo_weighed, .ref mo_bookA, .int mo_entries, .ref mo_isKeptA, .ref mo_keptA, .ref mo_seedsA])), (mo_toldA, .inl (κ 0, 37, .inl mo_told)), (mo_stA, .inl (κ 0, 17, .inl mo_st)), (mo_textA, .inl (κ 0, 240, .inl mo_text)), (mo_readA, .inl (κ 0, 37, .inl mo_read)), (mo_aheadA, .inl (κ 0, 340, .inl mo_ahead)), (mo_asideA, .inl (κ 0, 17, .inl mo_aside)), (mo_weighingsA, .inl (κ 0, 12, .inl mo_weighings)), (mo_bookA, .inl (κ 0, 30, .inl mo_book)), (mo_isKeptA, .inl (κ 1, 2, .inl mo_isKept)), (mo_keptA, .inl (κ 0, 34, .inl mo_kept)), (mo_seedsA, .inl (κ 0, 2, .inl mo_seeds))]) H := hP
    have hD : va_D A ([(moo, .inr (9, [.ref mo_toldA, .ref mo_stA, .int mo_isThere, .int mo_seed, .ref mo_textA, .int mo_typed, .int mo_faultAt, .int mo_place, .int mo_wrong, .int mo_value, .ref mo_readA, .ref mo_aheadA, .int mo_undoMany, .ref mo_asideA, .ref mo_weighingsA, .int mo_weighed, .ref mo_bookA, .int mo_entries, .ref mo_isKeptA, .ref mo_keptA, .ref mo_seedsA])), (mo_toldA, .inl (κ 0, 37, .inl mo_told)), (mo_stA, .inl (κ 0, 17, .inl mo_st)), (mo_textA, .inl (κ 0, 240, .inl mo_text)), (mo_readA, .inl (κ 0, 37, .inl mo_read)), (mo_aheadA, .inl (κ 0, 340, .inl mo_ahead)), (mo_asideA, .inl (κ 0, 17, .inl mo_aside)), (mo_weighingsA, .inl (κ 0, 12, .inl mo_weighings)), (mo_bookA, .inl (κ 0, 30, .inl mo_book)), (mo_isKeptA, .inl (κ 1, 2, .inl mo_isKept)), (mo_keptA, .inl (κ 0, 34, .inl mo_kept)), (mo_seedsA, .inl (κ 0, 2, .inl mo_seeds))]) := hD
    refine lv_goto (tgt := 23) hx hb dX9_brings_18 (by decide) ?_
    have hres := Option.some.inj hres
    have h0 := hres
    subst h0
    exact hret _ _ _ _ (vp_nar_int _) hP hD hS dX9_brings_23

def pX9_leastRate_L17 (N : Nat) (x1 : Int32) (mo_told : Nat → Int32) (mo_st : Nat → Int32) : Nat → Int32 → Option (Int32)
  | 0, _ => none
  | n17 + 1, v2 =>
    (if 100 < v2 then
    some ((-1))
    else
    kb1 (pX9_bringsBy N v2 0 mo_told mo_st) fun r5 =>
    (if r5 < x1 then
    pX9_leastRate_L17 N x1 mo_told mo_st n17 (v2 + 1)
    else
    some (v2)))
def pX9_leastRate (N : Nat) (x1 : Int32) (mo_told : Nat → Int32) (mo_st : Nat → Int32) : Option (Int32) :=
    kb1 (pX9_in (x1.toInt64) 0 9999) fun r1 =>
    (if r1 = 0 then
    some ((-1000000002))
    else
    pX9_leastRate_L17 N x1 mo_told mo_st N 0)
set_option maxHeartbeats 8000000 in
set_option maxRecDepth 100000 in
theorem tX9_leastRate (l : Launch) (D : va_G) (κ : Nat → ClassId) (moo : Nat) (mo_toldA : Nat) (mo_stA : Nat) (mo_textA : Nat) (mo_readA : Nat) (mo_aheadA : Nat) (mo_asideA : Nat) (mo_weighingsA : Nat) (mo_bookA : Nat) (mo_isKeptA : Nat) (mo_keptA : Nat) (mo_seedsA : Nat) (N : Nat) (mo_told : Nat → Int32) (mo_st : Nat → Int32) (mo_isThere : Int32) (mo_seed : Int32) (mo_text : Nat → Int32) (mo_typed : Int32) (mo_faultAt : Int32) (mo_place : Int32) (mo_wrong : Int32) (mo_value : Int32) (mo_read : Nat → Int32) (mo_ahead : Nat → Int32) (mo_undoMany : Int32) (mo_aside : Nat → Int32) (mo_weighings : Nat → Int32) (mo_weighed : Int32) (mo_book : Nat → Int32) (mo_entries : Int32) (mo_isKept : Nat → Int32) (mo_kept : Nat → Int32) (mo_seeds : Nat → Int32) (x1 : Int32) (r0 : Int32) (hres : pX9_leastRate N x1 mo_told mo_st = some (r0)) : krI l yX9_leastRate wsX9_leastRate { frames := 3, cells := 0, slots := 0, locals := 300 } D κ [.ref moo, .int x1] ([(moo, .inr (9, [.ref mo_toldA, .ref mo_stA, .int mo_isThere, .int mo_seed, .ref mo_textA, .int mo_typed, .int mo_faultAt, .int mo_place, .int mo_wrong, .int mo_value, .ref mo_readA, .ref mo_aheadA, .int mo_undoMany, .ref mo_asideA, .ref mo_weighingsA, .int mo_weighed, .ref mo_bookA, .int mo_entries, .ref mo_isKeptA, .ref mo_keptA, .ref mo_seedsA])), (mo_toldA, .inl (κ 0, 37, .inl mo_told)), (mo_stA, .inl (κ 0, 17, .inl mo_st)), (mo_textA, .inl (κ 0, 240, .inl mo_text)), (mo_readA, .inl (κ 0, 37, .inl mo_read)), (mo_aheadA, .inl (κ 0, 340, .inl mo_ahead)), (mo_asideA, .inl (κ 0, 17, .inl mo_aside)), (mo_weighingsA, .inl (κ 0, 12, .inl mo_weighings)), (mo_bookA, .inl (κ 0, 30, .inl mo_book)), (mo_isKeptA, .inl (κ 1, 2, .inl mo_isKept)), (mo_keptA, .inl (κ 0, 34, .inl mo_kept)), (mo_seedsA, .inl (κ 0, 2, .inl mo_seeds))]) ([(moo, .inr (9, [.ref mo_toldA, .ref mo_stA, .int mo_isThere, .int mo_seed, .ref mo_textA, .int mo_typed, .int mo_faultAt, .int mo_place, .int mo_wrong, .int mo_value, .ref mo_readA, .ref mo_aheadA, .int mo_undoMany, .ref mo_asideA, .ref mo_weighingsA, .int mo_weighed, .ref mo_bookA, .int mo_entries, .ref mo_isKeptA, .ref mo_keptA, .ref mo_seedsA])), (mo_toldA, .inl (κ 0, 37, .inl mo_told)), (mo_stA, .inl (κ 0, 17, .inl mo_st)), (mo_textA, .inl (κ 0, 240, .inl mo_text)), (mo_readA, .inl (κ 0, 37, .inl mo_read)), (mo_aheadA, .inl (κ 0, 340, .inl mo_ahead)), (mo_asideA, .inl (κ 0, 17, .inl mo_aside)), (mo_weighingsA, .inl (κ 0, 12, .inl mo_weighings)), (mo_bookA, .inl (κ 0, 30, .inl mo_book)), (mo_isKeptA, .inl (κ 1, 2, .inl mo_isKept)), (mo_keptA, .inl (κ 0, 34, .inl mo_kept)), (mo_seedsA, .inl (κ 0, 2, .inl mo_seeds))]) r0 := by
  refine krI_of (cc := cX9_leastRate) (maxL := 3) (rt := .int) (by decide) rfl (Nat.le_of_ble_eq_true rfl) ?_
  intro p e s m args below meth c A Q ls hx hb hml hown hts hK hA hret hP hD hS hl
  have hown : s.vm.findClass RX9 = some m.cls := hown
  have hl : lv_has ls 3 [(0, .ref moo), (1, .int x1)] := hl
  have k0 : (Cond.constantLong RX9 179 (9999)).before args s = true := hts _ (List.mem_of_getElem? (i := 1) rfl)
  have k1 : (Cond.constant RX9 54 (-1000000002)).before args s = true := hts _ (List.mem_of_getElem? (i := 2) rfl)
  have L17 : ∀ (n17 : Nat) (v2 : Int32) (H : Heap) (locs : List Loc) (ls : Array Slot), va_P D vwCl ([(moo, .inr (9, [.ref mo_toldA, .ref mo_stA, .int mo_isThere, .int mo_seed, .ref mo_textA, .int mo_typed, .int mo_faultAt, .int mo_place, .int mo_wrong, .int mo_value, .ref mo_readA, .ref mo_aheadA, .int mo_undoMany, .ref mo_asideA, .ref mo_weighingsA, .int mo_weighed, .ref mo_bookA, .int mo_entries, .ref mo_isKeptA, .ref mo_keptA, .ref mo_seedsA])), (mo_toldA, .inl (κ 0, 37, .inl mo_told)), (mo_stA, .inl (κ 0, 17, .inl mo_st)), (mo_textA, .inl (κ 0, 240, .inl mo_text)), (mo_readA, .inl (κ 0, 37, .inl mo_read)), (mo_aheadA, .inl (κ 0, 340, .inl mo_ahead)), (mo_asideA, .inl (κ 0, 17, .inl mo_aside)), (mo_weighingsA, .inl (κ 0, 12, .inl mo_weighings)), (mo_bookA, .inl (κ 0, 30, .inl mo_book)), (mo_isKeptA, .inl (κ 1, 2, .inl mo_isKept)), (mo_keptA, .inl (κ 0, 34, .inl mo_kept)), (mo_seedsA, .inl (κ 0, 2, .inl mo_seeds))]) H → va_D A ([(moo, .inr (9, [.ref mo_toldA, .ref mo_stA, .int mo_isThere, .int mo_seed, .ref mo_textA, .int mo_typed, .int mo_faultAt, .int mo_place, .int mo_wrong, .int mo_value, .ref mo_readA, .ref mo_aheadA, .int mo_undoMany, .ref mo_asideA, .ref mo_weighingsA, .int mo_weighed, .ref mo_bookA, .int mo_entries, .ref mo_isKeptA, .ref mo_keptA, .ref mo_seedsA])), (mo_toldA, .inl (κ 0, 37, .inl mo_told)), (mo_stA, .inl (κ 0, 17, .inl mo_st)), (mo_textA, .inl (κ 0, 240, .inl mo_text)), (mo_readA, .inl (κ 0, 37, .inl mo_read)), (mo_aheadA, .inl (κ 0, 340, .inl mo_ahead)), (mo_asideA, .inl (κ 0, 17, .inl mo_aside)), (mo_weighingsA, .inl (κ 0, 12, .inl mo_weighings)), (mo_bookA, .inl (κ 0, 30, .inl mo_book)), (mo_isKeptA, .inl (κ 1, 2, .inl mo_isKept)), (mo_keptA, .inl (κ 0, 34, .inl mo_kept)), (mo_seedsA, .inl (κ 0, 2, .inl mo_seeds))]) → va_S A s.heap H locs → lv_has ls 3 [(0, .ref moo), (1, .int x1), (2, .int v2)] → pX9_leastRate_L17 N x1 mo_told mo_st n17 v2 = some (r0) → W p l e { frames := 3, cells := 0, slots := 0, locals := 300 } s m args below meth c H locs 0 0 Q (F0 m 17 ls []) := by
    intro n17
    induction n17 with
    | zero =>
      intro v2 H locs ls hP hD hS hl hres
      exact absurd (show none = some _ from hres) (by simp)
    | succ n17 ih17 =>
      intro v2 H locs ls hP hD hS hl hres
      rw [pX9_leastRate_L17] at hres
      refine lv_iload_n hx hb dX9_leastRate_17 rfl (lv_at hl 2 rfl) ?_
      refine lv_bipush (v := 100) hx hb dX9_leastRate_18 (by decide) ?_
      refine lv_icmp_gt (tgt := 41) hx hb dX9_leastRate_20 (by decide) (fun c4 => ?_) (fun c4 => ?_)
      · replace hres := og_t c4 hres
        refine lv_iconst (v := (-1)) hx hb dX9_leastRate_41 (by decide) ?_
        have hres := Option.some.inj hres
        have h0 := hres
        subst h0
        exact hret _ _ _ _ (vp_nar_int _) hP hD hS dX9_leastRate_42
      · replace hres := og_f c4 hres
        refine lv_aload_n hx hb dX9_leastRate_23 rfl (lv_at hl 0 rfl) ?_
        refine lv_iload_n hx hb dX9_leastRate_24 rfl (lv_at hl 2 rfl) ?_
        refine lv_iconst (v := 0) hx hb dX9_leastRate_25 (by decide) ?_
        obtain ⟨r5, hc6, hres⟩ := kb1_s hres
        refine krI_V (As := [.int v2, .int 0]) (rest := []) (wr := []) ⟨hx, hb, hml, hown, hts⟩ hK (tX9_bringsBy l D κ moo mo_toldA mo_stA mo_textA mo_readA mo_aheadA mo_asideA mo_weighingsA mo_bookA mo_isKeptA mo_keptA mo_seedsA N mo_told mo_st mo_isThere mo_seed mo_text mo_typed mo_faultAt mo_place mo_wrong mo_value mo_read mo_ahead mo_undoMany mo_aside mo_weighings mo_weighed mo_book mo_entries mo_isKept mo_kept mo_seeds v2 0 r5 hc6) (cwV 2 hts gX9_leastRate_X9_bringsBy rfl rfl rfl (by decide +kernel) ⟨(Nat.le_of_ble_eq_true rfl), (Nat.le_of_ble_eq_true rfl)⟩) rfl rfl rfl hP hD hS hA [0, 1, 2, 3, 4, 5, 6, 7, 8, 9, 10, 11] [] rfl rfl rfl rfl (by decide) rfl hl.1 rfl (Nat.le_of_ble_eq_true rfl) dX9_leastRate_26 ⟨Nat.zero_le _, Nat.zero_le _⟩ (fun H locs hP hD hS => ?_)
        have hP : va_P D vwCl ([(moo, .inr (9, [.ref mo_toldA, .ref mo_stA, .int mo_isThere, .int mo_seed, .ref mo_textA, .int mo_typed, .int mo_faultAt, .int mo_place, .int mo_wrong, .int mo_value, .ref mo_readA, .ref mo_aheadA, .int mo_undoMany, .ref mo_asideA, .ref mo_weighingsA, .int mo_weighed, .ref mo_bookA, .int mo_entries, .ref mo_isKeptA, .ref mo_keptA, .ref mo_seedsA])), (mo_toldA, .inl (κ 0, 37, .inl mo_told)), (mo_stA, .inl (κ 0, 17, .inl mo_st)), (mo_textA, .inl (κ 0, 240, .inl mo_text)), (mo_readA, .inl (κ 0, 37, .inl mo_read)), (mo_aheadA, .inl (κ 0, 340, .inl mo_ahead)), (mo_asideA, .inl (κ 0, 17, .inl mo_aside)), (mo_weighingsA, .inl (κ 0, 12, .inl mo_weighings)), (mo_bookA, .inl (κ 0, 30, .inl mo_book)), (mo_isKeptA, .inl (κ 1, 2, .inl mo_isKept)), (mo_keptA, .inl (κ 0, 34, .inl mo_kept)), (mo_seedsA, .inl (κ 0, 2, .inl mo_seeds))]) H := hP
        have hD : va_D A ([(moo, .inr (9, [.ref mo_toldA, .ref mo_stA, .int mo_isThere, .int mo_seed, .ref mo_textA, .int mo_typed, .int mo_faultAt, .int mo_place, .int mo_wrong, .int mo_value, .ref mo_readA, .ref mo_aheadA, .int mo_undoMany, .ref mo_asideA, .ref mo_weighingsA, .int mo_weighed, .ref mo_bookA, .int mo_entries, .ref mo_isKeptA, .ref mo_keptA, .ref mo_seedsA])), (mo_toldA, .inl (κ 0, 37, .inl mo_told)), (mo_stA, .inl (κ 0, 17, .inl mo_st)), (mo_textA, .inl (κ 0, 240, .inl mo_text)), (mo_readA, .inl (κ 0, 37, .inl mo_read)), (mo_aheadA, .inl (κ 0, 340, .inl mo_ahead)), (mo_asideA, .inl (κ 0, 17, .inl mo_aside)), (mo_weighingsA, .inl (κ 0, 12, .inl mo_weighings)), (mo_bookA, .inl (κ 0, 30, .inl mo_book)), (mo_isKeptA, .inl (κ 1, 2, .inl mo_isKept)), (mo_keptA, .inl (κ 0, 34, .inl mo_kept)), (mo_seedsA, .inl (κ 0, 2, .inl mo_seeds))]) := hD
        refine lv_iload_n hx hb dX9_leastRate_29 rfl (lv_at hl 1 rfl) ?_
        refine lv_icmp_lt (tgt := 35) hx hb dX9_leastRate_30 (by decide) (fun c7 => ?_) (fun c7 => ?_)
        · replace hres := og_t c7 hres
          refine lv_iinc (v := (v2 + 1)) (lv' := [(2, .int (v2 + 1)), (0, .ref moo), (1, .int x1)]) hx hb dX9_leastRate_35 hl (k := 2) rfl rfl (by decide) rfl (fun ls hl => ?_)
          refine lv_goto (tgt := 17) hx hb dX9_leastRate_38 (by decide) ?_
          exact ih17 (v2 + 1) _ _ _ hP hD hS (lv_sub hl [1, 2, 0] rfl) hres
        · replace hres := og_f c7 hres
          refine lv_iload_n hx hb dX9_leastRate_33 rfl (lv_at hl 2 rfl) ?_
          have hres := Option.some.inj hres
          have h0 := hres
          subst h0
          exact hret _ _ _ _ (vp_nar_int _) hP hD hS dX9_leastRate_34
  unfold pX9_leastRate at hres
  refine lv_iload_n hx hb dX9_leastRate_0 rfl (lv_at hl 1 rfl) ?_
  refine lv_i2l (v := x1.toInt64) hx hb dX9_leastRate_1 rfl ?_
  refine lv_lconst (v := 0) hx hb dX9_leastRate_2 (by decide) ?_
  refine lv_ldc2 (v := 9999) hx hb hown k0 dX9_leastRate_3 ?_
  obtain ⟨r1, hc2, hres⟩ := kb1_s hres
  refine krI_S0 (As := [.long (x1.toInt64), .long 0, .long 9999]) (rest := []) ⟨hx, hb, hml, hown, hts⟩ hK (tX9_in l D κ (x1.toInt64) 0 9999 r1 hc2) (va_cwS 3 hts gX9_leastRate_X9_in rfl rfl rfl (by decide +kernel) ⟨(Nat.le_of_ble_eq_true rfl), (Nat.le_of_ble_eq_true rfl)⟩) hP hD hS hA rfl hl.1 rfl (Nat.le_of_ble_eq_true rfl) dX9_leastRate_6 ⟨Nat.zero_le _, Nat.zero_le _⟩ (fun H locs hP hD hS => ?_)
  refine lv_if_ne (tgt := 15) hx hb dX9_leastRate_9 (by decide) (fun c3 => ?_) (fun c3 => ?_)
  · replace hres := og_f c3 hres
    refine lv_iconst (v := 0) hx hb dX9_leastRate_15 (by decide) ?_
    refine lv_istore_n (lv' := [(2, .int 0), (0, .ref moo), (1, .int x1)]) hx hb dX9_leastRate_16 rfl hl (by decide) rfl (fun ls hl => ?_)
    exact L17 N 0 _ _ _ hP hD hS (lv_sub hl [1, 2, 0] rfl) hres
  · replace hres := og_t c3 hres
    refine lv_ldc (v := (-1000000002)) hx hb hown k1 dX9_leastRate_12 ?_
    have hres := Option.some.inj hres
    have h0 := hres
    subst h0
    exact hret _ _ _ _ (vp_nar_int _) hP hD hS dX9_leastRate_14

def pX9_rateOfMost_L30 (k4 : Int32 → Int32 → Option (Int32)) (v2 : Int32) (s0 : Int32) : Option (Int32) :=
    k4 s0 (v2 + 1)
def pX9_rateOfMost_L4 (N : Nat) (mo_told : Nat → Int32) (mo_st : Nat → Int32) : Nat → Int32 → Int32 → Option (Int32)
  | 0, _, _ => none
  | n4 + 1, v1, v2 =>
    (if 100 < v2 then
    some (v1)
    else
    kb1 (pX9_bringsBy N v2 0 mo_told mo_st) fun r2 =>
    kb1 (pX9_bringsBy N v1 0 mo_told mo_st) fun r4 =>
    (if r2 ≤ r4 then
    pX9_rateOfMost_L30 (pX9_rateOfMost_L4 N mo_told mo_st n4) v2 v1
    else
    pX9_rateOfMost_L30 (pX9_rateOfMost_L4 N mo_told mo_st n4) v2 v2))
def pX9_rateOfMost (N : Nat) (mo_told : Nat → Int32) (mo_st : Nat → Int32) : Option (Int32) :=
    pX9_rateOfMost_L4 N mo_told mo_st N 0 1
set_option maxHeartbeats 8000000 in
set_option maxRecDepth 100000 in
theorem tX9_rateOfMost (l : Launch) (D : va_G) (κ : Nat → ClassId) (moo : Nat) (mo_toldA : Nat) (mo_stA : Nat) (mo_textA : Nat) (mo_readA : Nat) (mo_aheadA : Nat) (mo_asideA : Nat) (mo_weighingsA : Nat) (mo_bookA : Nat) (mo_isKeptA : Nat) (mo_keptA : Nat) (mo_seedsA : Nat) (N : Nat) (mo_told : Nat → Int32) (mo_st : Nat → Int32) (mo_isThere : Int32) (mo_seed : Int32) (mo_text : Nat → Int32) (mo_typed : Int32) (mo_faultAt : Int32) (mo_place : Int32) (mo_wrong : Int32) (mo_value : Int32) (mo_read : Nat → Int32) (mo_ahead : Nat → Int32) (mo_undoMany : Int32) (mo_aside : Nat → Int32) (mo_weighings : Nat → Int32) (mo_weighed : Int32) (mo_book : Nat → Int32) (mo_entries : Int32) (mo_isKept : Nat → Int32) (mo_kept : Nat → Int32) (mo_seeds : Nat → Int32) (r0 : Int32) (hres : pX9_rateOfMost N mo_told mo_st = some (r0)) : krI l yX9_rateOfMost wsX9_rateOfMost { frames := 3, cells := 0, slots := 0, locals := 300 } D κ [.ref moo] ([(moo, .inr (9, [.ref mo_toldA, .ref mo_stA, .int mo_isThere, .int mo_seed, .ref mo_textA, .int mo_typed, .int mo_faultAt, .int mo_place, .int mo_wrong, .int mo_value, .ref mo_readA, .ref mo_aheadA, .int mo_undoMany, .ref mo_asideA, .ref mo_weighingsA, .int mo_weighed, .ref mo_bookA, .int mo_entries, .ref mo_isKeptA, .ref mo_keptA, .ref mo_seedsA])), (mo_toldA, .inl (κ 0, 37, .inl mo_told)), (mo_stA, .inl (κ 0, 17, .inl mo_st)), (mo_textA, .inl (κ 0, 240, .inl mo_text)), (mo_readA, .inl (κ 0, 37, .inl mo_read)), (mo_aheadA, .inl (κ 0, 340, .inl mo_ahead)), (mo_asideA, .inl (κ 0, 17, .inl mo_aside)), (mo_weighingsA, .inl (κ 0, 12, .inl mo_weighings)), (mo_bookA, .inl (κ 0, 30, .inl mo_book)), (mo_isKeptA, .inl (κ 1, 2, .inl mo_isKept)), (mo_keptA, .inl (κ 0, 34, .inl mo_kept)), (mo_seedsA, .inl (κ 0, 2, .inl mo_seeds))]) ([(moo, .inr (9, [.ref mo_toldA, .ref mo_stA, .int mo_isThere, .int mo_seed, .ref mo_textA, .int mo_typed, .int mo_faultAt, .int mo_place, .int mo_wrong, .int mo_value, .ref mo_readA, .ref mo_aheadA, .int mo_undoMany, .ref mo_asideA, .ref mo_weighingsA, .int mo_weighed, .ref mo_bookA, .int mo_entries, .ref mo_isKeptA, .ref mo_keptA, .ref mo_seedsA])), (mo_toldA, .inl (κ 0, 37, .inl mo_told)), (mo_stA, .inl (κ 0, 17, .inl mo_st)), (mo_textA, .inl (κ 0, 240, .inl mo_text)), (mo_readA, .inl (κ 0, 37, .inl mo_read)), (mo_aheadA, .inl (κ 0, 340, .inl mo_ahead)), (mo_asideA, .inl (κ 0, 17, .inl mo_aside)), (mo_weighingsA, .inl (κ 0, 12, .inl mo_weighings)), (mo_bookA, .inl (κ 0, 30, .inl mo_book)), (mo_isKeptA, .inl (κ 1, 2, .inl mo_isKept)), (mo_keptA, .inl (κ 0, 34, .inl mo_kept)), (mo_seedsA, .inl (κ 0, 2, .inl mo_seeds))]) r0 := by
  refine krI_of (cc := cX9_rateOfMost) (maxL := 3) (rt := .int) (by decide) rfl (Nat.le_of_ble_eq_true rfl) ?_
  intro p e s m args below meth c A Q ls hx hb hml hown hts hK hA hret hP hD hS hl
  have hown : s.vm.findClass RX9 = some m.cls := hown
  have hl : lv_has ls 3 [(0, .ref moo)] := hl
  have L4 : ∀ (n4 : Nat) (v1 : Int32) (v2 : Int32) (H : Heap) (locs : List Loc) (ls : Array Slot), va_P D vwCl ([(moo, .inr (9, [.ref mo_toldA, .ref mo_stA, .int mo_isThere, .int mo_seed, .ref mo_textA, .int mo_typed, .int mo_faultAt, .int mo_place, .int mo_wrong, .int mo_value, .ref mo_readA, .ref mo_aheadA, .int mo_undoMany, .ref mo_asideA, .ref mo_weighingsA, .int mo_weighed, .ref mo_bookA, .int mo_entries, .ref mo_isKeptA, .ref mo_keptA, .ref mo_seedsA])), (mo_toldA, .inl (κ 0, 37, .inl mo_told)), (mo_stA, .inl (κ 0, 17, .inl mo_st)), (mo_textA, .inl (κ 0, 240, .inl mo_text)), (mo_readA, .inl (κ 0, 37, .inl mo_read)), (mo_aheadA, .inl (κ 0, 340, .inl mo_ahead)), (mo_asideA, .inl (κ 0, 17, .inl mo_aside)), (mo_weighingsA, .inl (κ 0, 12, .inl mo_weighings)), (mo_bookA, .inl (κ 0, 30, .inl mo_book)), (mo_isKeptA, .inl (κ 1, 2, .inl mo_isKept)), (mo_keptA, .inl (κ 0, 34, .inl mo_kept)), (mo_seedsA, .inl (κ 0, 2, .inl mo_seeds))]) H → va_D A ([(moo, .inr (9, [.ref mo_toldA, .ref mo_stA, .int mo_isThere, .int mo_seed, .ref mo_textA, .int mo_typed, .int mo_faultAt, .int mo_place, .int mo_wrong, .int mo_value, .ref mo_readA, .ref mo_aheadA, .int mo_undoMany, .ref mo_asideA, .ref mo_weighingsA, .int mo_weighed, .ref mo_bookA, .int mo_entries, .ref mo_isKeptA, .ref mo_keptA, .ref mo_seedsA])), (mo_toldA, .inl (κ 0, 37, .inl mo_told)), (mo_stA, .inl (κ 0, 17, .inl mo_st)), (mo_textA, .inl (κ 0, 240, .inl mo_text)), (mo_readA, .inl (κ 0, 37, .inl mo_read)), (mo_aheadA, .inl (κ 0, 340, .inl mo_ahead)), (mo_asideA, .inl (κ 0, 17, .inl mo_aside)), (mo_weighingsA, .inl (κ 0, 12, .inl mo_weighings)), (mo_bookA, .inl (κ 0, 30, .inl mo_book)), (mo_isKeptA, .inl (κ 1, 2, .inl mo_isKept)), (mo_keptA, .inl (κ 0, 34, .inl mo_kept)), (mo_seedsA, .inl (κ 0, 2, .inl mo_seeds))]) → va_S A s.heap H locs → lv_has ls 3 [(0, .ref moo), (1, .int v1), (2, .int v2)] → pX9_rateOfMost_L4 N mo_told mo_st n4 v1 v2 = some (r0) → W p l e { frames := 3, cells := 0, slots := 0, locals := 300 } s m args below meth c H locs 0 0 Q (F0 m 4 ls []) := by
    intro n4
    induction n4 with
    | zero =>
      intro v1 v2 H locs ls hP hD hS hl hres
      exact absurd (show none = some _ from hres) (by simp)
    | succ n4 ih4 =>
      intro v1 v2 H locs ls hP hD hS hl hres
      have L30 : ∀ (v2 : Int32) (s0 : Int32) (H : Heap) (locs : List Loc) (ls : Array Slot), va_P D vwCl ([(moo, .inr (9, [.ref mo_toldA, .ref mo_stA, .int mo_isThere, .int mo_seed, .ref mo_textA, .int mo_typed, .int mo_faultAt, .int mo_place, .int mo_wrong, .int mo_value, .ref mo_readA, .ref mo_aheadA, .int mo_undoMany, .ref mo_asideA, .ref mo_weighingsA, .int mo_weighed, .ref mo_bookA, .int mo_entries, .ref mo_isKeptA, .ref mo_keptA, .ref mo_seedsA])), (mo_toldA, .inl (κ 0, 37, .inl mo_told)), (mo_stA, .inl (κ 0, 17, .inl mo_st)), (mo_textA, .inl (κ 0, 240, .inl mo_text)), (mo_readA, .inl (κ 0, 37, .inl mo_read)), (mo_aheadA, .inl (κ 0, 340, .inl mo_ahead)), (mo_asideA, .inl (κ 0, 17, .inl mo_aside)), (mo_weighingsA, .inl (κ 0, 12, .inl mo_weighings)), (mo_bookA, .inl (κ 0, 30, .inl mo_book)), (mo_isKeptA, .inl (κ 1, 2, .inl mo_isKept)), (mo_keptA, .inl (κ 0, 34, .inl mo_kept)), (mo_seedsA, .inl (κ 0, 2, .inl mo_seeds))]) H → va_D A ([(moo, .inr (9, [.ref mo_toldA, .ref mo_stA, .int mo_isThere, .int mo_seed, .ref mo_textA, .int mo_typed, .int mo_faultAt, .int mo_place, .int mo_wrong, .int mo_value, .ref mo_readA, .ref mo_aheadA, .int mo_undoMany, .ref mo_asideA, .ref mo_weighingsA, .int mo_weighed, .ref mo_bookA, .int mo_entries, .ref mo_isKeptA, .ref mo_keptA, .ref mo_seedsA])), (mo_toldA, .inl (κ 0, 37, .inl mo_told)), (mo_stA, .inl (κ 0, 17, .inl mo_st)), (mo_textA, .inl (κ 0, 240, .inl mo_text)), (mo_readA, .inl (κ 0, 37, .inl mo_read)), (mo_aheadA, .inl (κ 0, 340, .inl mo_ahead)), (mo_asideA, .inl (κ 0, 17, .inl mo_aside)), (mo_weighingsA, .inl (κ 0, 12, .inl mo_weighings)), (mo_bookA, .inl (κ 0, 30, .inl mo_book)), (mo_isKeptA, .inl (κ 1, 2, .inl mo_isKept)), (mo_keptA, .inl (κ 0, 34, .inl mo_kept)), (mo_seedsA, .inl (κ 0, 2, .inl mo_seeds))]) → va_S A s.heap H locs → lv_has ls 3 [(0, .ref moo), (2, .int v2)] → pX9_rateOfMost_L30 (pX9_rateOfMost_L4 N mo_told mo_st n4) v2 s0 = some (r0) → W p l e { frames := 3, cells := 0, slots := 0, locals := 300 } s m args below meth c H locs 0 0 Q (F0 m 30 ls [.int s0]) := by
        intro v2 s0 H locs ls hP hD hS hl hres
        unfold pX9_rateOfMost_L30 at hres
        refine lv_istore_n (lv' := [(1, .int s0), (0, .ref moo), (2, .int v2)]) hx hb dX9_rateOfMost_30 rfl hl (by decide) rfl (fun ls hl => ?_)
        refine lv_iinc (v := (v2 + 1)) (lv' := [(2, .int (v2 + 1)), (1, .int s0), (0, .ref moo)]) hx hb dX9_rateOfMost_31 hl (k := 2) rfl rfl (by decide) rfl (fun ls hl => ?_)
        refine lv_goto (tgt := 4) hx hb dX9_rateOfMost_34 (by decide) ?_
        exact ih4 s0 (v2 + 1) _ _ _ hP hD hS (lv_sub hl [2, 1, 0] rfl) hres
      rw [pX9_rateOfMost_L4] at hres
      refine lv_iload_n hx hb dX9_rateOfMost_4 rfl (lv_at hl 2 rfl) ?_
      refine lv_bipush (v := 100) hx hb dX9_rateOfMost_5 (by decide) ?_
      refine lv_icmp_gt (tgt := 37) hx hb dX9_rateOfMost_7 (by decide) (fun c1 => ?_) (fun c1 => ?_)
      · replace hres := og_t c1 hres
        refine lv_iload_n hx hb dX9_rateOfMost_37 rfl (lv_at hl 1 rfl) ?_
        have hres := Option.some.inj hres
        have h0 := hres
        subst h0
        exact hret _ _ _ _ (vp_nar_int _) hP hD hS dX9_rateOfMost_38
      · replace hres := og_f c1 hres
        refine lv_aload_n hx hb dX9_rateOfMost_10 rfl (lv_at hl 0 rfl) ?_
        refine lv_iload_n hx hb dX9_rateOfMost_11 rfl (lv_at hl 2 rfl) ?_
        refine lv_iconst (v := 0) hx hb dX9_rateOfMost_12 (by decide) ?_
        obtain ⟨r2, hc3, hres⟩ := kb1_s hres
        refine krI_V (As := [.int v2, .int 0]) (rest := []) (wr := []) ⟨hx, hb, hml, hown, hts⟩ hK (tX9_bringsBy l D κ moo mo_toldA mo_stA mo_textA mo_readA mo_aheadA mo_asideA mo_weighingsA mo_bookA mo_isKeptA mo_keptA mo_seedsA N mo_told mo_st mo_isThere mo_seed mo_text mo_typed mo_faultAt mo_place mo_wrong mo_value mo_read mo_ahead mo_undoMany mo_aside mo_weighings mo_weighed mo_book mo_entries mo_isKept mo_kept mo_seeds v2 0 r2 hc3) (cwV 2 hts gX9_rateOfMost_X9_bringsBy rfl rfl rfl (by decide +kernel) ⟨(Nat.le_of_ble_eq_true rfl), (Nat.le_of_ble_eq_true rfl)⟩) rfl rfl rfl hP hD hS hA [0, 1, 2, 3, 4, 5, 6, 7, 8, 9, 10, 11] [] rfl rfl rfl rfl (by decide) rfl hl.1 rfl (Nat.le_of_ble_eq_true rfl) dX9_rateOfMost_13 ⟨Nat.zero_le _, Nat.zero_le _⟩ (fun H locs hP hD hS => ?_)
        have hP : va_P D vwCl ([(moo, .inr (9, [.ref mo_toldA, .ref mo_stA, .int mo_isThere, .int mo_seed, .ref mo_textA, .int mo_typed, .int mo_faultAt, .int mo_place, .int mo_wrong, .int mo_value, .ref mo_readA, .ref mo_aheadA, .int mo_undoMany, .ref mo_asideA, .ref mo_weighingsA, .int mo_weighed, .ref mo_bookA, .int mo_entries, .ref mo_isKeptA, .ref mo_keptA, .ref mo_seedsA])), (mo_toldA, .inl (κ 0, 37, .inl mo_told)), (mo_stA, .inl (κ 0, 17, .inl mo_st)), (mo_textA, .inl (κ 0, 240, .inl mo_text)), (mo_readA, .inl (κ 0, 37, .inl mo_read)), (mo_aheadA, .inl (κ 0, 340, .inl mo_ahead)), (mo_asideA, .inl (κ 0, 17, .inl mo_aside)), (mo_weighingsA, .inl (κ 0, 12, .inl mo_weighings)), (mo_bookA, .inl (κ 0, 30, .inl mo_book)), (mo_isKeptA, .inl (κ 1, 2, .inl mo_isKept)), (mo_keptA, .inl (κ 0, 34, .inl mo_kept)), (mo_seedsA, .inl (κ 0, 2, .inl mo_seeds))]) H := hP
        have hD : va_D A ([(moo, .inr (9, [.ref mo_toldA, .ref mo_stA, .int mo_isThere, .int mo_seed, .ref mo_textA, .int mo_typed, .int mo_faultAt, .int mo_place, .int mo_wrong, .int mo_value, .ref mo_readA, .ref mo_aheadA, .int mo_undoMany, .ref mo_asideA, .ref mo_weighingsA, .int mo_weighed, .ref mo_bookA, .int mo_entries, .ref mo_isKeptA, .ref mo_keptA, .ref mo_seedsA])), (mo_toldA, .inl (κ 0, 37, .inl mo_told)), (mo_stA, .inl (κ 0, 17, .inl mo_st)), (mo_textA, .inl (κ 0, 240, .inl mo_text)), (mo_readA, .inl (κ 0, 37, .inl mo_read)), (mo_aheadA, .inl (κ 0, 340, .inl mo_ahead)), (mo_asideA, .inl (κ 0, 17, .inl mo_aside)), (mo_weighingsA, .inl (κ 0, 12, .inl mo_weighings)), (mo_bookA, .inl (κ 0, 30, .inl mo_book)), (mo_isKeptA, .inl (κ 1, 2, .inl mo_isKept)), (mo_keptA, .inl (κ 0, 34, .inl mo_kept)), (mo_seedsA, .inl (κ 0, 2, .inl mo_seeds))]) := hD
        refine lv_aload_n hx hb dX9_rateOfMost_16 rfl (lv_at hl 0 rfl) ?_
        refine lv_iload_n hx hb dX9_rateOfMost_17 rfl (lv_at hl 1 rfl) ?_
        refine lv_iconst (v := 0) hx hb dX9_rateOfMost_18 (by decide) ?_
        obtain ⟨r4, hc5, hres⟩ := kb1_s hres
        refine krI_V (As := [.int v1, .int 0]) (rest := [.int r2]) (wr := []) ⟨hx, hb, hml, hown, hts⟩ hK (tX9_bringsBy l D κ moo mo_toldA mo_stA mo_textA mo_readA mo_aheadA mo_asideA mo_weighingsA mo_bookA mo_isKeptA mo_keptA mo_seedsA N mo_told mo_st mo_isThere mo_seed mo_text mo_typed mo_faultAt mo_place mo_wrong mo_value mo_read mo_ahead mo_undoMany mo_aside mo_weighings mo_weighed mo_book mo_entries mo_isKept mo_kept mo_seeds v1 0 r4 hc5) (cwV 2 hts gX9_rateOfMost_X9_bringsBy rfl rfl rfl (by decide +kernel) ⟨(Nat.le_of_ble_eq_true rfl), (Nat.le_of_ble_eq_true rfl)⟩) rfl rfl rfl hP hD hS hA [0, 1, 2, 3, 4, 5, 6, 7, 8, 9, 10, 11] [] rfl rfl rfl rfl (by decide) rfl hl.1 rfl (Nat.le_of_ble_eq_true rfl) dX9_rateOfMost_19 ⟨Nat.zero_le _, Nat.zero_le _⟩ (fun H locs hP hD hS => ?_)
        have hP : va_P D vwCl ([(moo, .inr (9, [.ref mo_toldA, .ref mo_stA, .int mo_isThere, .int mo_seed, .ref mo_textA, .int mo_typed, .int mo_faultAt, .int mo_place, .int mo_wrong, .int mo_value, .ref mo_readA, .ref mo_aheadA, .int mo_undoMany, .ref mo_asideA, .ref mo_weighingsA, .int mo_weighed, .ref mo_bookA, .int mo_entries, .ref mo_isKeptA, .ref mo_keptA, .ref mo_seedsA])), (mo_toldA, .inl (κ 0, 37, .inl mo_told)), (mo_stA, .inl (κ 0, 17, .inl mo_st)), (mo_textA, .inl (κ 0, 240, .inl mo_text)), (mo_readA, .inl (κ 0, 37, .inl mo_read)), (mo_aheadA, .inl (κ 0, 340, .inl mo_ahead)), (mo_asideA, .inl (κ 0, 17, .inl mo_aside)), (mo_weighingsA, .inl (κ 0, 12, .inl mo_weighings)), (mo_bookA, .inl (κ 0, 30, .inl mo_book)), (mo_isKeptA, .inl (κ 1, 2, .inl mo_isKept)), (mo_keptA, .inl (κ 0, 34, .inl mo_kept)), (mo_seedsA, .inl (κ 0, 2, .inl mo_seeds))]) H := hP
        have hD : va_D A ([(moo, .inr (9, [.ref mo_toldA, .ref mo_stA, .int mo_isThere, .int mo_seed, .ref mo_textA, .int mo_typed, .int mo_faultAt, .int mo_place, .int mo_wrong, .int mo_value, .ref mo_readA, .ref mo_aheadA, .int mo_undoMany, .ref mo_asideA, .ref mo_weighingsA, .int mo_weighed, .ref mo_bookA, .int mo_entries, .ref mo_isKeptA, .ref mo_keptA, .ref mo_seedsA])), (mo_toldA, .inl (κ 0, 37, .inl mo_told)), (mo_stA, .inl (κ 0, 17, .inl mo_st)), (mo_textA, .inl (κ 0, 240, .inl mo_text)), (mo_readA, .inl (κ 0, 37, .inl mo_read)), (mo_aheadA, .inl (κ 0, 340, .inl mo_ahead)), (mo_asideA, .inl (κ 0, 17, .inl mo_aside)), (mo_weighingsA, .inl (κ 0, 12, .inl mo_weighings)), (mo_bookA, .inl (κ 0, 30, .inl mo_book)), (mo_isKeptA, .inl (κ 1, 2, .inl mo_isKept)), (mo_keptA, .inl (κ 0, 34, .inl mo_kept)), (mo_seedsA, .inl (κ 0, 2, .inl mo_seeds))]) := hD
        refine lv_icmp_le (tgt := 29) hx hb dX9_rateOfMost_22 (by decide) (fun c6 => ?_) (fun c6 => ?_)
        · replace hres := og_t c6 hres
          refine lv_iload_n hx hb dX9_rateOfMost_29 rfl (lv_at hl 1 rfl) ?_
          exact L30 v2 v1 _ _ _ hP hD hS (lv_sub hl [0, 2] rfl) hres
        · replace hres := og_f c6 hres
          refine lv_iload_n hx hb dX9_rateOfMost_25 rfl (lv_at hl 2 rfl) ?_
          refine lv_goto (tgt := 30) hx hb dX9_rateOfMost_26 (by decide) ?_
          exact L30 v2 v2 _ _ _ hP hD hS (lv_sub hl [0, 2] rfl) hres
  unfold pX9_rateOfMost at hres
  refine lv_iconst (v := 0) hx hb dX9_rateOfMost_0 (by decide) ?_
  refine lv_istore_n (lv' := [(1, .int 0), (0, .ref moo)]) hx hb dX9_rateOfMost_1 rfl hl (by decide) rfl (fun ls hl => ?_)
  refine lv_iconst (v := 1) hx hb dX9_rateOfMost_2 (by decide) ?_
  refine lv_istore_n (lv' := [(2, .int 1), (1, .int 0), (0, .ref moo)]) hx hb dX9_rateOfMost_3 rfl hl (by decide) rfl (fun ls hl => ?_)
  exact L4 N 0 1 _ _ _ hP hD hS (lv_sub hl [2, 1, 0] rfl) hres
