def pX8_behindLetters_L37 (k15 : Int64 → Int32 → Option (Int64)) (v6 : Int32) (s0 : Int32) (s1 : Int64) : Option (Int64) :=
    k15 ((s1 * (s0.toInt64)) / 100) (v6 + 1)
def pX8_behindLetters_L15 (x2 : Int32) (x3 : Int32) (x4 : Int32) : Nat → Int64 → Int32 → Option (Int64)
  | 0, _, _ => none
  | n15 + 1, v4, v6 =>
    (if x3 ≤ v6 then
    some (v4)
    else
    (if x4 ≤ v6 then
    pX8_behindLetters_L37 (pX8_behindLetters_L15 x2 x3 x4 n15) v6 (100 - x2) v4
    else
    pX8_behindLetters_L37 (pX8_behindLetters_L15 x2 x3 x4 n15) v6 x2 v4))
def pX8_behindLetters (N : Nat) (x1 : Int32) (x2 : Int32) (x3 : Int32) (x4 : Int32) : Option (Int64) :=
    kl ((1000000000 * (x1.toInt64)) / 100) fun y1 =>
    pX8_behindLetters_L15 x2 x3 x4 N y1 0
set_option maxHeartbeats 8000000 in
set_option maxRecDepth 100000 in
theorem tX8_behindLetters (l : Launch) (D : va_G) (κ : Nat → ClassId) (N : Nat) (x1 : Int32) (x2 : Int32) (x3 : Int32) (x4 : Int32) (r0 : Int64) (hres : pX8_behindLetters N x1 x2 x3 x4 = some (r0)) : krL l yX8_behindLetters wsX8_behindLetters { frames := 0, cells := 0, slots := 0, locals := 0 } D κ [.int x1, .int x2, .int x3, .int x4] ([]) ([]) r0 := by
  refine krL_of (cc := cX8_behindLetters) (maxL := 7) (by decide) rfl (Nat.le_of_ble_eq_true rfl) ?_
  intro p e s m args below meth c A Q ls hx hb hml hown hts hK hA hret hP hD hS hl
  have hown : s.vm.findClass RX8 = some m.cls := hown
  have hl : lv_has ls 7 [(0, .int x1), (1, .int x2), (2, .int x3), (3, .int x4)] := hl
  have k0 : (Cond.constantLong RX8 289 (1000000000)).before args s = true := hts _ (List.mem_of_getElem? (i := 1) rfl)
  have k1 : (Cond.constantLong RX8 291 (100)).before args s = true := hts _ (List.mem_of_getElem? (i := 2) rfl)
  have L15 : ∀ (n15 : Nat) (v4 : Int64) (v6 : Int32) (H : Heap) (locs : List Loc) (ls : Array Slot), va_P D vwCl ([]) H → va_D A ([]) → va_S A s.heap H locs → lv_has ls 7 [(1, .int x2), (2, .int x3), (3, .int x4), (4, .long v4), (6, .int v6)] → pX8_behindLetters_L15 x2 x3 x4 n15 v4 v6 = some (r0) → W p l e { frames := 0, cells := 0, slots := 0, locals := 0 } s m args below meth c H locs 0 0 Q (F0 m 15 ls []) := by
    intro n15
    induction n15 with
    | zero =>
      intro v4 v6 H locs ls hP hD hS hl hres
      exact absurd (show none = some _ from hres) (by simp)
    | succ n15 ih15 =>
      intro v4 v6 H locs ls hP hD hS hl hres
      have L37 : ∀ (v6 : Int32) (s0 : Int32) (s1 : Int64) (H : Heap) (locs : List Loc) (ls : Array Slot), va_P D vwCl ([]) H → va_D A ([]) → va_S A s.heap H locs → lv_has ls 7 [(1, .int x2), (2, .int x3), (3, .int x4), (6, .int v6)] → pX8_behindLetters_L37 (pX8_behindLetters_L15 x2 x3 x4 n15) v6 s0 s1 = some (r0) → W p l e { frames := 0, cells := 0, slots := 0, locals := 0 } s m args below meth c H locs 0 0 Q (F0 m 37 ls [.int s0, .long s1]) := by
        intro v6 s0 s1 H locs ls hP hD hS hl hres
        unfold pX8_behindLetters_L37 at hres
        refine lv_i2l (v := s0.toInt64) hx hb dX8_behindLetters_37 rfl ?_
        refine lv_lmul hx hb dX8_behindLetters_38 ?_
        refine lv_ldc2 (v := 100) hx hb hown k1 dX8_behindLetters_39 ?_
        refine lv_ldiv hx hb dX8_behindLetters_42 (by decide) ?_
        refine lv_lstore (lv' := [(4, .long ((s1 * (s0.toInt64)) / 100)), (1, .int x2), (2, .int x3), (3, .int x4), (6, .int v6)]) hx hb dX8_behindLetters_43 hl (by decide) rfl (fun ls hl => ?_)
        refine lv_iinc (v := (v6 + 1)) (lv' := [(6, .int (v6 + 1)), (4, .long ((s1 * (s0.toInt64)) / 100)), (1, .int x2), (2, .int x3), (3, .int x4)]) hx hb dX8_behindLetters_45 hl (k := 4) rfl rfl (by decide) rfl (fun ls hl => ?_)
        refine lv_goto (tgt := 15) hx hb dX8_behindLetters_48 (by decide) ?_
        exact ih15 ((s1 * (s0.toInt64)) / 100) (v6 + 1) _ _ _ hP hD hS (lv_sub hl [2, 3, 4, 1, 0] rfl) hres
      rw [pX8_behindLetters_L15] at hres
      refine lv_iload hx hb dX8_behindLetters_15 (lv_at hl 4 rfl) ?_
      refine lv_iload_n hx hb dX8_behindLetters_17 rfl (lv_at hl 1 rfl) ?_
      refine lv_icmp_ge (tgt := 51) hx hb dX8_behindLetters_18 (by decide) (fun c2 => ?_) (fun c2 => ?_)
      · replace hres := og_t c2 hres
        refine lv_lload hx hb dX8_behindLetters_51 (lv_at hl 3 rfl) ?_
        have hres := Option.some.inj hres
        have h0 := hres
        subst h0
        exact hret _ _ _ _ hP hD hS dX8_behindLetters_53
      · replace hres := og_f c2 hres
        refine lv_lload hx hb dX8_behindLetters_21 (lv_at hl 3 rfl) ?_
        refine lv_iload hx hb dX8_behindLetters_23 (lv_at hl 4 rfl) ?_
        refine lv_iload_n hx hb dX8_behindLetters_25 rfl (lv_at hl 2 rfl) ?_
        refine lv_icmp_ge (tgt := 33) hx hb dX8_behindLetters_26 (by decide) (fun c3 => ?_) (fun c3 => ?_)
        · replace hres := og_t c3 hres
          refine lv_bipush (v := 100) hx hb dX8_behindLetters_33 (by decide) ?_
          refine lv_iload_n hx hb dX8_behindLetters_35 rfl (lv_at hl 0 rfl) ?_
          refine lv_isub hx hb dX8_behindLetters_36 ?_
          exact L37 v6 (100 - x2) v4 _ _ _ hP hD hS (lv_sub hl [0, 1, 2, 4] rfl) hres
        · replace hres := og_f c3 hres
          refine lv_iload_n hx hb dX8_behindLetters_29 rfl (lv_at hl 0 rfl) ?_
          refine lv_goto (tgt := 37) hx hb dX8_behindLetters_30 (by decide) ?_
          exact L37 v6 x2 v4 _ _ _ hP hD hS (lv_sub hl [0, 1, 2, 4] rfl) hres
  unfold pX8_behindLetters at hres
  refine lv_ldc2 (v := 1000000000) hx hb hown k0 dX8_behindLetters_0 ?_
  refine lv_iload_n hx hb dX8_behindLetters_3 rfl (lv_at hl 0 rfl) ?_
  refine lv_i2l (v := x1.toInt64) hx hb dX8_behindLetters_4 rfl ?_
  refine lv_lmul hx hb dX8_behindLetters_5 ?_
  refine lv_ldc2 (v := 100) hx hb hown k1 dX8_behindLetters_6 ?_
  refine lv_ldiv hx hb dX8_behindLetters_9 (by decide) ?_
  obtain ⟨y1, ey1, hres⟩ := kl_s hres
  refine kr_topl ey1 ?_
  refine lv_lstore (lv' := [(4, .long y1), (0, .int x1), (1, .int x2), (2, .int x3), (3, .int x4)]) hx hb dX8_behindLetters_10 hl (by decide) rfl (fun ls hl => ?_)
  refine lv_iconst (v := 0) hx hb dX8_behindLetters_12 (by decide) ?_
  refine lv_istore (lv' := [(6, .int 0), (4, .long y1), (0, .int x1), (1, .int x2), (2, .int x3), (3, .int x4)]) hx hb dX8_behindLetters_13 hl (by decide) rfl (fun ls hl => ?_)
  exact L15 N y1 0 _ _ _ hP hD hS (lv_sub hl [3, 4, 5, 1, 0] rfl) hres

def pX8_letters (N : Nat) (x1 : Int32) (x2 : Int32) (x3 : Int32) (x4 : Int32) (x5 : Int32) : Option (Int32) :=
    kb1 (pX8_isPercent x1) fun r1 =>
    (if r1 = 0 then
    some ((-1000000002))
    else
    kb1 (pX8_isPercent x2) fun r4 =>
    (if r4 = 0 then
    some ((-1000000002))
    else
    kb1 (pX8_isPercent x3) fun r7 =>
    (if r7 = 0 then
    some ((-1000000002))
    else
    (if x4 < 0 then
    some ((-1000000002))
    else
    (if 9 < x4 then
    some ((-1000000002))
    else
    (if x5 < 0 then
    some ((-1000000002))
    else
    (if x5 ≤ x4 then
    kb1 (pX8_behindLetters N x1 x2 x4 x5) fun r14 =>
    kb1 (pX8_behindLetters N (100 - x1) x3 x4 x5) fun r16 =>
    (if (lg_cmp (r14 + r16) 0) = 0 then
    some (0)
    else
    if (r14 + r16) = 0 then none else
    some ((((r14 * 1000000) / (r14 + r16)).toInt32)))
    else
    some ((-1000000002)))))))))
set_option maxHeartbeats 8000000 in
set_option maxRecDepth 100000 in
theorem tX8_letters (l : Launch) (D : va_G) (κ : Nat → ClassId) (kro : Nat) (txo : Nat) (tlo : Nat) (dfo : Nat) (nwo : Nat) (aho : Nat) (pao : Nat) (iaA : Nat) (sco : Nat) (bko : Nat) (spo : Nat) (N : Nat) (kr_drawn : Int32) (x1 : Int32) (x2 : Int32) (x3 : Int32) (x4 : Int32) (x5 : Int32) (r0 : Int32) (hres : pX8_letters N x1 x2 x3 x4 x5 = some (r0)) : krI l yX8_letters wsX8_letters { frames := 1, cells := 0, slots := 0, locals := 100 } D κ [.ref kro, .int x1, .int x2, .int x3, .int x4, .int x5] ([(kro, .inr (8, [.ref txo, .ref tlo, .ref dfo, .ref nwo, .ref aho, .ref pao, .ref iaA, .ref sco, .ref bko, .ref spo, .int kr_drawn]))]) ([(kro, .inr (8, [.ref txo, .ref tlo, .ref dfo, .ref nwo, .ref aho, .ref pao, .ref iaA, .ref sco, .ref bko, .ref spo, .int kr_drawn]))]) r0 := by
  refine krI_of (cc := cX8_letters) (maxL := 10) (rt := .int) (by decide) rfl (Nat.le_of_ble_eq_true rfl) ?_
  intro p e s m args below meth c A Q ls hx hb hml hown hts hK hA hret hP hD hS hl
  have hown : s.vm.findClass RX8 = some m.cls := hown
  have hl : lv_has ls 10 [(0, .ref kro), (1, .int x1), (2, .int x2), (3, .int x3), (4, .int x4), (5, .int x5)] := hl
  have k0 : (Cond.constant RX8 71 (-1000000002)).before args s = true := hts _ (List.mem_of_getElem? (i := 1) rfl)
  have k1 : (Cond.constantLong RX8 235 (1000000)).before args s = true := hts _ (List.mem_of_getElem? (i := 2) rfl)
  unfold pX8_letters at hres
  refine lv_iload_n hx hb dX8_letters_0 rfl (lv_at hl 1 rfl) ?_
  obtain ⟨r1, hc2, hres⟩ := kb1_s hres
  refine krI_S0 (As := [.int x1]) (rest := []) ⟨hx, hb, hml, hown, hts⟩ hK (tX8_isPercent l D κ x1 r1 hc2) (va_cwS 1 hts gX8_letters_X8_isPercent rfl rfl rfl (by decide +kernel) ⟨(Nat.le_of_ble_eq_true rfl), (Nat.le_of_ble_eq_true rfl)⟩) hP hD hS hA rfl hl.1 rfl (Nat.le_of_ble_eq_true rfl) dX8_letters_1 ⟨Nat.zero_le _, Nat.zero_le _⟩ (fun H locs hP hD hS => ?_)
  refine lv_if_eq (tgt := 21) hx hb dX8_letters_4 (by decide) (fun c3 => ?_) (fun c3 => ?_)
  · replace hres := og_t c3 hres
    refine lv_ldc (v := (-1000000002)) hx hb hown k0 dX8_letters_21 ?_
    have hres := Option.some.inj hres
    have h0 := hres
    subst h0
    exact hret _ _ _ _ (vp_nar_int _) hP hD hS dX8_letters_23
  · replace hres := og_f c3 hres
    refine lv_iload_n hx hb dX8_letters_7 rfl (lv_at hl 2 rfl) ?_
    obtain ⟨r4, hc5, hres⟩ := kb1_s hres
    refine krI_S0 (As := [.int x2]) (rest := []) ⟨hx, hb, hml, hown, hts⟩ hK (tX8_isPercent l D κ x2 r4 hc5) (va_cwS 1 hts gX8_letters_X8_isPercent rfl rfl rfl (by decide +kernel) ⟨(Nat.le_of_ble_eq_true rfl), (Nat.le_of_ble_eq_true rfl)⟩) hP hD hS hA rfl hl.1 rfl (Nat.le_of_ble_eq_true rfl) dX8_letters_8 ⟨Nat.zero_le _, Nat.zero_le _⟩ (fun H locs hP hD hS => ?_)
    refine lv_if_eq (tgt := 21) hx hb dX8_letters_11 (by decide) (fun c6 => ?_) (fun c6 => ?_)
    · replace hres := og_t c6 hres
      refine lv_ldc (v := (-1000000002)) hx hb hown k0 dX8_letters_21 ?_
      have hres := Option.some.inj hres
      have h0 := hres
      subst h0
      exact hret _ _ _ _ (vp_nar_int _) hP hD hS dX8_letters_23
    · replace hres := og_f c6 hres
      refine lv_iload_n hx hb dX8_letters_14 rfl (lv_at hl 3 rfl) ?_
      obtain ⟨r7, hc8, hres⟩ := kb1_s hres
      refine krI_S0 (As := [.int x3]) (rest := []) ⟨hx, hb, hml, hown, hts⟩ hK (tX8_isPercent l D κ x3 r7 hc8) (va_cwS 1 hts gX8_letters_X8_isPercent rfl rfl rfl (by decide +kernel) ⟨(Nat.le_of_ble_eq_true rfl), (Nat.le_of_ble_eq_true rfl)⟩) hP hD hS hA rfl hl.1 rfl (Nat.le_of_ble_eq_true rfl) dX8_letters_15 ⟨Nat.zero_le _, Nat.zero_le _⟩ (fun H locs hP hD hS => ?_)
      refine lv_if_ne (tgt := 24) hx hb dX8_letters_18 (by decide) (fun c9 => ?_) (fun c9 => ?_)
      · replace hres := og_f c9 hres
        refine lv_iload hx hb dX8_letters_24 (lv_at hl 4 rfl) ?_
        refine lv_if_lt (tgt := 48) hx hb dX8_letters_26 (by decide) (fun c10 => ?_) (fun c10 => ?_)
        · replace hres := og_t c10 hres
          refine lv_ldc (v := (-1000000002)) hx hb hown k0 dX8_letters_48 ?_
          have hres := Option.some.inj hres
          have h0 := hres
          subst h0
          exact hret _ _ _ _ (vp_nar_int _) hP hD hS dX8_letters_50
        · replace hres := og_f c10 hres
          refine lv_iload hx hb dX8_letters_29 (lv_at hl 4 rfl) ?_
          refine lv_bipush (v := 9) hx hb dX8_letters_31 (by decide) ?_
          refine lv_icmp_gt (tgt := 48) hx hb dX8_letters_33 (by decide) (fun c11 => ?_) (fun c11 => ?_)
          · replace hres := og_t c11 hres
            refine lv_ldc (v := (-1000000002)) hx hb hown k0 dX8_letters_48 ?_
            have hres := Option.some.inj hres
            have h0 := hres
            subst h0
            exact hret _ _ _ _ (vp_nar_int _) hP hD hS dX8_letters_50
          · replace hres := og_f c11 hres
            refine lv_iload hx hb dX8_letters_36 (lv_at hl 5 rfl) ?_
            refine lv_if_lt (tgt := 48) hx hb dX8_letters_38 (by decide) (fun c12 => ?_) (fun c12 => ?_)
            · replace hres := og_t c12 hres
              refine lv_ldc (v := (-1000000002)) hx hb hown k0 dX8_letters_48 ?_
              have hres := Option.some.inj hres
              have h0 := hres
              subst h0
              exact hret _ _ _ _ (vp_nar_int _) hP hD hS dX8_letters_50
            · replace hres := og_f c12 hres
              refine lv_iload hx hb dX8_letters_41 (lv_at hl 5 rfl) ?_
              refine lv_iload hx hb dX8_letters_43 (lv_at hl 4 rfl) ?_
              refine lv_icmp_le (tgt := 51) hx hb dX8_letters_45 (by decide) (fun c13 => ?_) (fun c13 => ?_)
              · replace hres := og_t c13 hres
                refine lv_iload_n hx hb dX8_letters_51 rfl (lv_at hl 1 rfl) ?_
                refine lv_iload_n hx hb dX8_letters_52 rfl (lv_at hl 2 rfl) ?_
                refine lv_iload hx hb dX8_letters_53 (lv_at hl 4 rfl) ?_
                refine lv_iload hx hb dX8_letters_55 (lv_at hl 5 rfl) ?_
                obtain ⟨r14, hc15, hres⟩ := kb1_s hres
                refine krL_S0 (As := [.int x1, .int x2, .int x4, .int x5]) (rest := []) ⟨hx, hb, hml, hown, hts⟩ hK (tX8_behindLetters l D κ N x1 x2 x4 x5 r14 hc15) (va_cwS 4 hts gX8_letters_X8_behindLetters rfl rfl rfl (by decide +kernel) ⟨(Nat.le_of_ble_eq_true rfl), (Nat.le_of_ble_eq_true rfl)⟩) hP hD hS hA rfl hl.1 rfl (Nat.le_of_ble_eq_true rfl) dX8_letters_57 ⟨Nat.zero_le _, Nat.zero_le _⟩ (fun H locs hP hD hS => ?_)
                refine lv_lstore (lv' := [(6, .long r14), (0, .ref kro), (1, .int x1), (2, .int x2), (3, .int x3), (4, .int x4), (5, .int x5)]) hx hb dX8_letters_60 hl (by decide) rfl (fun ls hl => ?_)
                refine lv_lload hx hb dX8_letters_62 (lv_at hl 0 rfl) ?_
                refine lv_bipush (v := 100) hx hb dX8_letters_64 (by decide) ?_
                refine lv_iload_n hx hb dX8_letters_66 rfl (lv_at hl 2 rfl) ?_
                refine lv_isub hx hb dX8_letters_67 ?_
                refine lv_iload_n hx hb dX8_letters_68 rfl (lv_at hl 4 rfl) ?_
                refine lv_iload hx hb dX8_letters_69 (lv_at hl 5 rfl) ?_
                refine lv_iload hx hb dX8_letters_71 (lv_at hl 6 rfl) ?_
                obtain ⟨r16, hc17, hres⟩ := kb1_s hres
                refine krL_S0 (As := [.int (100 - x1), .int x3, .int x4, .int x5]) (rest := [.long r14]) ⟨hx, hb, hml, hown, hts⟩ hK (tX8_behindLetters l D κ N (100 - x1) x3 x4 x5 r16 hc17) (va_cwS 4 hts gX8_letters_X8_behindLetters rfl rfl rfl (by decide +kernel) ⟨(Nat.le_of_ble_eq_true rfl), (Nat.le_of_ble_eq_true rfl)⟩) hP hD hS hA rfl hl.1 rfl (Nat.le_of_ble_eq_true rfl) dX8_letters_73 ⟨Nat.zero_le _, Nat.zero_le _⟩ (fun H locs hP hD hS => ?_)
                refine lv_ladd hx hb dX8_letters_76 ?_
                refine lv_lstore (lv' := [(8, .long (r14 + r16)), (6, .long r14), (0, .ref kro), (1, .int x1), (2, .int x2), (3, .int x3), (4, .int x4), (5, .int x5)]) hx hb dX8_letters_77 hl (by decide) rfl (fun ls hl => ?_)
                refine lv_lload hx hb dX8_letters_79 (lv_at hl 0 rfl) ?_
                refine lv_lconst (v := 0) hx hb dX8_letters_81 (by decide) ?_
                refine W.lcmp hx hb dX8_letters_82 ?_
                refine lv_if_ne (tgt := 90) hx hb dX8_letters_83 (by decide) (fun c18 => ?_) (fun c18 => ?_)
                · replace hres := og_f c18 hres
                  refine lv_lload hx hb dX8_letters_90 (lv_at hl 1 rfl) ?_
                  refine lv_ldc2 (v := 1000000) hx hb hown k1 dX8_letters_92 ?_
                  refine lv_lmul hx hb dX8_letters_95 ?_
                  refine lv_lload hx hb dX8_letters_96 (lv_at hl 0 rfl) ?_
                  obtain ⟨g19, hres⟩ := og_no hres
                  refine lv_ldiv hx hb dX8_letters_98 g19 ?_
                  refine lv_l2i (v := ((r14 * 1000000) / (r14 + r16)).toInt32) hx hb dX8_letters_99 rfl ?_
                  have hres := Option.some.inj hres
                  have h0 := hres
                  subst h0
                  exact hret _ _ _ _ (vp_nar_int _) hP hD hS dX8_letters_100
                · replace hres := og_t c18 hres
                  refine lv_iconst (v := 0) hx hb dX8_letters_86 (by decide) ?_
                  refine lv_goto (tgt := 100) hx hb dX8_letters_87 (by decide) ?_
                  have hres := Option.some.inj hres
                  have h0 := hres
                  subst h0
                  exact hret _ _ _ _ (vp_nar_int _) hP hD hS dX8_letters_100
              · replace hres := og_f c13 hres
                refine lv_ldc (v := (-1000000002)) hx hb hown k0 dX8_letters_48 ?_
                have hres := Option.some.inj hres
                have h0 := hres
                subst h0
                exact hret _ _ _ _ (vp_nar_int _) hP hD hS dX8_letters_50
      · replace hres := og_t c9 hres
        refine lv_ldc (v := (-1000000002)) hx hb hown k0 dX8_letters_21 ?_
        have hres := Option.some.inj hres
        have h0 := hres
        subst h0
        exact hret _ _ _ _ (vp_nar_int _) hP hD hS dX8_letters_23

def pX8_spared_L71 (k25 : Int32 → Int32 → Int32 → Option (Int32)) (v3 : Int32) (v4 : Int32) (v5 : Int32) : Option (Int32) :=
    k25 v3 v4 (v5 + 1)
def pX8_spared_L25 (N : Nat) (x1 : Int32) (x2 : Int32) (tl_payers : Int32) (tl_shy : Nat → Int32) (nw_goods : Nat → Int32) : Nat → Int32 → Int32 → Int32 → Option (Int32)
  | 0, _, _, _ => none
  | n25 + 1, v3, v4, v5 =>
    (if ((1 : Int32) <<< (tl_payers &&& 31)) ≤ v5 then
    some (v3)
    else
    kb1 (pJ6_bitCount_0f7a4 v5) fun r8 =>
    (if r8 ≤ v4 then
    pX8_spared_L71 (pX8_spared_L25 N x1 x2 tl_payers tl_shy nw_goods n25) v3 v4 v5
    else
    kb1 (pX8_comesBy N x1 v5 tl_payers tl_shy nw_goods) fun r11 =>
    (if r11 < x2 then
    pX8_spared_L71 (pX8_spared_L25 N x1 x2 tl_payers tl_shy nw_goods n25) v3 v4 v5
    else
    pX8_spared_L71 (pX8_spared_L25 N x1 x2 tl_payers tl_shy nw_goods n25) v5 r8 v5)))
def pX8_spared (N : Nat) (x1 : Int32) (x2 : Int32) (tl_payers : Int32) (tl_shy : Nat → Int32) (nw_goods : Nat → Int32) : Option (Int32) :=
    kb1 (pX8_isRate x1) fun r1 =>
    (if r1 = 0 then
    some ((-1000000002))
    else
    kb1 (pX8_isMuch x2) fun r4 =>
    (if r4 = 0 then
    some ((-1000000002))
    else
    pX8_spared_L25 N x1 x2 tl_payers tl_shy nw_goods N (-1) (-1) 0))
set_option maxHeartbeats 8000000 in
set_option maxRecDepth 100000 in
theorem tX8_spared (l : Launch) (D : va_G) (κ : Nat → ClassId) (kro : Nat) (txo : Nat) (tlo : Nat) (dfo : Nat) (nwo : Nat) (aho : Nat) (pao : Nat) (iaA : Nat) (sco : Nat) (bko : Nat) (spo : Nat) (tl_goodsA : Nat) (tl_shyA : Nat) (tl_bidOfA : Nat) (tl_daysOfA : Nat) (nw_goodsA : Nat) (nw_ratesA : Nat) (N : Nat) (kr_drawn : Int32) (tl_stands : Int32) (tl_price : Int32) (tl_death : Int32) (tl_payers : Int32) (tl_bids : Int32) (tl_hostages : Int32) (tl_bags : Int32) (tl_bagMarks : Int32) (tl_goods : Nat → Int32) (tl_shy : Nat → Int32) (tl_bidOf : Nat → Int32) (tl_daysOf : Nat → Int32) (nw_price : Int32) (nw_months : Int32) (nw_chest : Int32) (nw_given : Int32) (nw_fate : Int32) (nw_goods : Nat → Int32) (nw_rates : Nat → Int32) (x1 : Int32) (x2 : Int32) (r0 : Int32) (hres : pX8_spared N x1 x2 tl_payers tl_shy nw_goods = some (r0)) : krI l yX8_spared wsX8_spared { frames := 4, cells := 0, slots := 0, locals := 400 } D κ [.ref kro, .int x1, .int x2] ([(kro, .inr (8, [.ref txo, .ref tlo, .ref dfo, .ref nwo, .ref aho, .ref pao, .ref iaA, .ref sco, .ref bko, .ref spo, .int kr_drawn])), (tlo, .inr (6, [.int tl_stands, .int tl_price, .int tl_death, .int tl_payers, .int tl_bids, .int tl_hostages, .int tl_bags, .int tl_bagMarks, .ref tl_goodsA, .ref tl_shyA, .ref tl_bidOfA, .ref tl_daysOfA])), (tl_goodsA, .inl (κ 0, 6, .inl tl_goods)), (tl_shyA, .inl (κ 0, 6, .inl tl_shy)), (tl_bidOfA, .inl (κ 0, 9, .inl tl_bidOf)), (tl_daysOfA, .inl (κ 0, 6, .inl tl_daysOf)), (nwo, .inr (5, [.int nw_price, .int nw_months, .int nw_chest, .int nw_given, .int nw_fate, .ref nw_goodsA, .ref nw_ratesA])), (nw_goodsA, .inl (κ 0, 6, .inl nw_goods)), (nw_ratesA, .inl (κ 0, 6, .inl nw_rates))]) ([(kro, .inr (8, [.ref txo, .ref tlo, .ref dfo, .ref nwo, .ref aho, .ref pao, .ref iaA, .ref sco, .ref bko, .ref spo, .int kr_drawn])), (tlo, .inr (6, [.int tl_stands, .int tl_price, .int tl_death, .int tl_payers, .int tl_bids, .int tl_hostages, .int tl_bags, .int tl_bagMarks, .ref tl_goodsA, .ref tl_shyA, .ref tl_bidOfA, .ref tl_daysOfA])), (tl_goodsA, .inl (κ 0, 6, .inl tl_goods)), (tl_shyA, .inl (κ 0, 6, .inl tl_shy)), (tl_bidOfA, .inl (κ 0, 9, .inl tl_bidOf)), (tl_daysOfA, .inl (κ 0, 6, .inl tl_daysOf)), (nwo, .inr (5, [.int nw_price, .int nw_months, .int nw_chest, .int nw_given, .int nw_fate, .ref nw_goodsA, .ref nw_ratesA])), (nw_goodsA, .inl (κ 0, 6, .inl nw_goods)), (nw_ratesA, .inl (κ 0, 6, .inl nw_rates))]) r0 := by
  refine krI_of (cc := cX8_spared) (maxL := 7) (rt := .int) (by decide) rfl (Nat.le_of_ble_eq_true rfl) ?_
  intro p e s m args below meth c A Q ls hx hb hml hown hts hK hA hret hP hD hS hl
  have hown : s.vm.findClass RX8 = some m.cls := hown
  have hl : lv_has ls 7 [(0, .ref kro), (1, .int x1), (2, .int x2)] := hl
  have iw8 : ∀ w ∈ u_ws RX8 TX8 11, w ∈ wsX8_spared := (fun _ h => List.mem_cons_of_mem _ (List.mem_append_left _ (List.mem_append_left _ (List.mem_append_right _ h))))
  have iw6 : ∀ w ∈ u_ws RX6 TX6 12, w ∈ wsX8_spared := (fun _ h => List.mem_cons_of_mem _ (List.mem_append_left _ (List.mem_append_right _ h)))
  have k0 : (Cond.constant RX8 71 (-1000000002)).before args s = true := hts _ (List.mem_of_getElem? (i := 1) rfl)
  have k1 : (Cond.fieldLink RX8 19 "KingRansom" "tale" "LKingRansom$Tale;").before args s = true := hts _ (List.mem_of_getElem? (i := 2) rfl)
  have L25 : ∀ (n25 : Nat) (v3 : Int32) (v4 : Int32) (v5 : Int32) (H : Heap) (locs : List Loc) (ls : Array Slot), va_P D vwCl ([(kro, .inr (8, [.ref txo, .ref tlo, .ref dfo, .ref nwo, .ref aho, .ref pao, .ref iaA, .ref sco, .ref bko, .ref spo, .int kr_drawn])), (tlo, .inr (6, [.int tl_stands, .int tl_price, .int tl_death, .int tl_payers, .int tl_bids, .int tl_hostages, .int tl_bags, .int tl_bagMarks, .ref tl_goodsA, .ref tl_shyA, .ref tl_bidOfA, .ref tl_daysOfA])), (tl_goodsA, .inl (κ 0, 6, .inl tl_goods)), (tl_shyA, .inl (κ 0, 6, .inl tl_shy)), (tl_bidOfA, .inl (κ 0, 9, .inl tl_bidOf)), (tl_daysOfA, .inl (κ 0, 6, .inl tl_daysOf)), (nwo, .inr (5, [.int nw_price, .int nw_months, .int nw_chest, .int nw_given, .int nw_fate, .ref nw_goodsA, .ref nw_ratesA])), (nw_goodsA, .inl (κ 0, 6, .inl nw_goods)), (nw_ratesA, .inl (κ 0, 6, .inl nw_rates))]) H → va_D A ([(kro, .inr (8, [.ref txo, .ref tlo, .ref dfo, .ref nwo, .ref aho, .ref pao, .ref iaA, .ref sco, .ref bko, .ref spo, .int kr_drawn])), (tlo, .inr (6, [.int tl_stands, .int tl_price, .int tl_death, .int tl_payers, .int tl_bids, .int tl_hostages, .int tl_bags, .int tl_bagMarks, .ref tl_goodsA, .ref tl_shyA, .ref tl_bidOfA, .ref tl_daysOfA])), (tl_goodsA, .inl (κ 0, 6, .inl tl_goods)), (tl_shyA, .inl (κ 0, 6, .inl tl_shy)), (tl_bidOfA, .inl (κ 0, 9, .inl tl_bidOf)), (tl_daysOfA, .inl (κ 0, 6, .inl tl_daysOf)), (nwo, .inr (5, [.int nw_price, .int nw_months, .int nw_chest, .int nw_given, .int nw_fate, .ref nw_goodsA, .ref nw_ratesA])), (nw_goodsA, .inl (κ 0, 6, .inl nw_goods)), (nw_ratesA, .inl (κ 0, 6, .inl nw_rates))]) → va_S A s.heap H locs → lv_has ls 7 [(0, .ref kro), (1, .int x1), (2, .int x2), (3, .int v3), (4, .int v4), (5, .int v5)] → pX8_spared_L25 N x1 x2 tl_payers tl_shy nw_goods n25 v3 v4 v5 = some (r0) → W p l e { frames := 4, cells := 0, slots := 0, locals := 400 } s m args below meth c H locs 0 0 Q (F0 m 25 ls []) := by
    intro n25
    induction n25 with
    | zero =>
      intro v3 v4 v5 H locs ls hP hD hS hl hres
      exact absurd (show none = some _ from hres) (by simp)
    | succ n25 ih25 =>
      intro v3 v4 v5 H locs ls hP hD hS hl hres
      have L71 : ∀ (v3 : Int32) (v4 : Int32) (v5 : Int32) (H : Heap) (locs : List Loc) (ls : Array Slot), va_P D vwCl ([(kro, .inr (8, [.ref txo, .ref tlo, .ref dfo, .ref nwo, .ref aho, .ref pao, .ref iaA, .ref sco, .ref bko, .ref spo, .int kr_drawn])), (tlo, .inr (6, [.int tl_stands, .int tl_price, .int tl_death, .int tl_payers, .int tl_bids, .int tl_hostages, .int tl_bags, .int tl_bagMarks, .ref tl_goodsA, .ref tl_shyA, .ref tl_bidOfA, .ref tl_daysOfA])), (tl_goodsA, .inl (κ 0, 6, .inl tl_goods)), (tl_shyA, .inl (κ 0, 6, .inl tl_shy)), (tl_bidOfA, .inl (κ 0, 9, .inl tl_bidOf)), (tl_daysOfA, .inl (κ 0, 6, .inl tl_daysOf)), (nwo, .inr (5, [.int nw_price, .int nw_months, .int nw_chest, .int nw_given, .int nw_fate, .ref nw_goodsA, .ref nw_ratesA])), (nw_goodsA, .inl (κ 0, 6, .inl nw_goods)), (nw_ratesA, .inl (κ 0, 6, .inl nw_rates))]) H → va_D A ([(kro, .inr (8, [.ref txo, .ref tlo, .ref dfo, .ref nwo, .ref aho, .ref pao, .ref iaA, .ref sco, .ref bko, .ref spo, .int kr_drawn])), (tlo, .inr (6, [.int tl_stands, .int tl_price, .int tl_death, .int tl_payers, .int tl_bids, .int tl_hostages, .int tl_bags, .int tl_bagMarks, .ref tl_goodsA, .ref tl_shyA, .ref tl_bidOfA, .ref tl_daysOfA])), (tl_goodsA, .inl (κ 0, 6, .inl tl_goods)), (tl_shyA, .inl (κ 0, 6, .inl tl_shy)), (tl_bidOfA, .inl (κ 0, 9, .inl tl_bidOf)), (tl_daysOfA, .inl (κ 0, 6, .inl tl_daysOf)), (nwo, .inr (5, [.int nw_price, .int nw_months, .int nw_chest, .int nw_given, .int nw_fate, .ref nw_goodsA, .ref nw_ratesA])), (nw_goodsA, .inl (κ 0, 6, .inl nw_goods)), (nw_ratesA, .inl (κ 0, 6, .inl nw_rates))]) → va_S A s.heap H locs → lv_has ls 7 [(0, .ref kro), (1, .int x1), (2, .int x2), (3, .int v3), (4, .int v4), (5, .int v5)] → pX8_spared_L71 (pX8_spared_L25 N x1 x2 tl_payers tl_shy nw_goods n25) v3 v4 v5 = some (r0) → W p l e { frames := 4, cells := 0, slots := 0, locals := 400 } s m args below meth c H locs 0 0 Q (F0 m 71 ls []) := by
        intro v3 v4 v5 H locs ls hP hD hS hl hres
        unfold pX8_spared_L71 at hres
        refine lv_iinc (v := (v5 + 1)) (lv' := [(5, .int (v5 + 1)), (0, .ref kro), (1, .int x1), (2, .int x2), (3, .int v3), (4, .int v4)]) hx hb dX8_spared_71 hl (k := 5) rfl rfl (by decide) rfl (fun ls hl => ?_)
        refine lv_goto (tgt := 25) hx hb dX8_spared_74 (by decide) ?_
        exact ih25 v3 v4 (v5 + 1) _ _ _ hP hD hS (lv_sub hl [1, 2, 3, 4, 5, 0] rfl) hres
      rw [pX8_spared_L25] at hres
      refine lv_iload hx hb dX8_spared_25 (lv_at hl 5 rfl) ?_
      refine lv_iconst (v := 1) hx hb dX8_spared_27 (by decide) ?_
      refine lv_aload_n hx hb dX8_spared_28 rfl (lv_at hl 0 rfl) ?_
      refine va_get (D := D) (ci := 8) (v := .ref tlo) (C := RX8) (T := TX8) (N := 11) hx hb hts iw8 hown hK.1 hP 0 rfl rfl 1 (by decide) k1 (fun _ h9 => h9) rfl dX8_spared_29 ?_
      refine va_getN (D := D) (ci := 6) (v := .int tl_payers) (C := RX6) (T := TX6) (N := 12) hx hb hts iw6 hown hK.1 hP 1 rfl rfl 3 (by decide) (hK.fl 10 rfl) (fun _ h9 => h9) rfl dX8_spared_32 ?_
      refine lv_ishl hx hb dX8_spared_35 ?_
      refine lv_icmp_ge (tgt := 77) hx hb dX8_spared_36 (by decide) (fun c7 => ?_) (fun c7 => ?_)
      · replace hres := og_t c7 hres
        refine lv_iload_n hx hb dX8_spared_77 rfl (lv_at hl 3 rfl) ?_
        have hres := Option.some.inj hres
        have h0 := hres
        subst h0
        exact hret _ _ _ _ (vp_nar_int _) hP hD hS dX8_spared_78
      · replace hres := og_f c7 hres
        refine lv_iload hx hb dX8_spared_39 (lv_at hl 5 rfl) ?_
        obtain ⟨r8, hc9, hres⟩ := kb1_s hres
        refine krI_S0 (As := [.int v5]) (rest := []) ⟨hx, hb, hml, hown, hts⟩ hK (tJ6_bitCount_0f7a4 l D κ v5 r8 hc9) (va_cwS 1 hts gX8_spared_J6_bitCount_0f7a4 rfl rfl rfl (by decide +kernel) ⟨(Nat.le_of_ble_eq_true rfl), (Nat.le_of_ble_eq_true rfl)⟩) hP hD hS hA rfl hl.1 rfl (Nat.le_of_ble_eq_true rfl) dX8_spared_41 ⟨Nat.zero_le _, Nat.zero_le _⟩ (fun H locs hP hD hS => ?_)
        refine lv_istore (lv' := [(6, .int r8), (0, .ref kro), (1, .int x1), (2, .int x2), (3, .int v3), (4, .int v4), (5, .int v5)]) hx hb dX8_spared_44 hl (by decide) rfl (fun ls hl => ?_)
        refine lv_iload hx hb dX8_spared_46 (lv_at hl 0 rfl) ?_
        refine lv_iload hx hb dX8_spared_48 (lv_at hl 5 rfl) ?_
        refine lv_icmp_le (tgt := 71) hx hb dX8_spared_50 (by decide) (fun c10 => ?_) (fun c10 => ?_)
        · replace hres := og_t c10 hres
          exact L71 v3 v4 v5 _ _ _ hP hD hS (lv_sub hl [1, 2, 3, 4, 5, 6] rfl) hres
        · replace hres := og_f c10 hres
          refine lv_aload_n hx hb dX8_spared_53 rfl (lv_at hl 1 rfl) ?_
          refine lv_iload_n hx hb dX8_spared_54 rfl (lv_at hl 2 rfl) ?_
          refine lv_iload hx hb dX8_spared_55 (lv_at hl 6 rfl) ?_
          obtain ⟨r11, hc12, hres⟩ := kb1_s hres
          refine krI_V (As := [.int x1, .int v5]) (rest := []) (wr := []) ⟨hx, hb, hml, hown, hts⟩ hK (tX8_comesBy l D κ kro txo tlo dfo nwo aho pao iaA sco bko spo tl_goodsA tl_shyA tl_bidOfA tl_daysOfA nw_goodsA nw_ratesA N kr_drawn tl_stands tl_price tl_death tl_payers tl_bids tl_hostages tl_bags tl_bagMarks tl_goods tl_shy tl_bidOf tl_daysOf nw_price nw_months nw_chest nw_given nw_fate nw_goods nw_rates x1 v5 r11 hc12) (cwV 2 hts gX8_spared_X8_comesBy rfl rfl rfl (by decide +kernel) ⟨(Nat.le_of_ble_eq_true rfl), (Nat.le_of_ble_eq_true rfl)⟩) rfl rfl rfl hP hD hS hA [0, 1, 2, 3, 4, 5, 6, 7, 8] [] rfl rfl rfl rfl (by decide) rfl hl.1 rfl (Nat.le_of_ble_eq_true rfl) dX8_spared_57 ⟨Nat.zero_le _, Nat.zero_le _⟩ (fun H locs hP hD hS => ?_)
          have hP : va_P D vwCl ([(kro, .inr (8, [.ref txo, .ref tlo, .ref dfo, .ref nwo, .ref aho, .ref pao, .ref iaA, .ref sco, .ref bko, .ref spo, .int kr_drawn])), (tlo, .inr (6, [.int tl_stands, .int tl_price, .int tl_death, .int tl_payers, .int tl_bids, .int tl_hostages, .int tl_bags, .int tl_bagMarks, .ref tl_goodsA, .ref tl_shyA, .ref tl_bidOfA, .ref tl_daysOfA])), (tl_goodsA, .inl (κ 0, 6, .inl tl_goods)), (tl_shyA, .inl (κ 0, 6, .inl tl_shy)), (tl_bidOfA, .inl (κ 0, 9, .inl tl_bidOf)), (tl_daysOfA, .inl (κ 0, 6, .inl tl_daysOf)), (nwo, .inr (5, [.int nw_price, .int nw_months, .int nw_chest, .int nw_given, .int nw_fate, .ref nw_goodsA, .ref nw_ratesA])), (nw_goodsA, .inl (κ 0, 6, .inl nw_goods)), (nw_ratesA, .inl (κ 0, 6, .inl nw_rates))]) H := hP
          have hD : va_D A ([(kro, .inr (8, [.ref txo, .ref tlo, .ref dfo, .ref nwo, .ref aho, .ref pao, .ref iaA, .ref sco, .ref bko, .ref spo, .int kr_drawn])), (tlo, .inr (6, [.int tl_stands, .int tl_price, .int tl_death, .int tl_payers, .int tl_bids, .int tl_hostages, .int tl_bags, .int tl_bagMarks, .ref tl_goodsA, .ref tl_shyA, .ref tl_bidOfA, .ref tl_daysOfA])), (tl_goodsA, .inl (κ 0, 6, .inl tl_goods)), (tl_shyA, .inl (κ 0, 6, .inl tl_shy)), (tl_bidOfA, .inl (κ 0, 9, .inl tl_bidOf)), (tl_daysOfA, .inl (κ 0, 6, .inl tl_daysOf)), (nwo, .inr (5, [.int nw_price, .int nw_months, .int nw_chest, .int nw_given, .int nw_fate, .ref nw_goodsA, .ref nw_ratesA])), (nw_goodsA, .inl (κ 0, 6, .inl nw_goods)), (nw_ratesA, .inl (κ 0, 6, .inl nw_rates))]) := hD
          refine lv_iload_n hx hb dX8_spared_60 rfl (lv_at hl 3 rfl) ?_
          refine lv_icmp_lt (tgt := 71) hx hb dX8_spared_61 (by decide) (fun c13 => ?_) (fun c13 => ?_)
          · replace hres := og_t c13 hres
            exact L71 v3 v4 v5 _ _ _ hP hD hS (lv_sub hl [1, 2, 3, 4, 5, 6] rfl) hres
          · replace hres := og_f c13 hres
            refine lv_iload hx hb dX8_spared_64 (lv_at hl 0 rfl) ?_
            refine lv_istore (lv' := [(4, .int r8), (6, .int r8), (0, .ref kro), (1, .int x1), (2, .int x2), (3, .int v3), (5, .int v5)]) hx hb dX8_spared_66 hl (by decide) rfl (fun ls hl => ?_)
            refine lv_iload hx hb dX8_spared_68 (lv_at hl 6 rfl) ?_
            refine lv_istore_n (lv' := [(3, .int v5), (4, .int r8), (6, .int r8), (0, .ref kro), (1, .int x1), (2, .int x2), (5, .int v5)]) hx hb dX8_spared_70 rfl hl (by decide) rfl (fun ls hl => ?_)
            exact L71 v5 r8 v5 _ _ _ hP hD hS (lv_sub hl [3, 4, 5, 0, 1, 6] rfl) hres
  unfold pX8_spared at hres
  refine lv_iload_n hx hb dX8_spared_0 rfl (lv_at hl 1 rfl) ?_
  obtain ⟨r1, hc2, hres⟩ := kb1_s hres
  refine krI_S0 (As := [.int x1]) (rest := []) ⟨hx, hb, hml, hown, hts⟩ hK (tX8_isRate l D κ x1 r1 hc2) (va_cwS 1 hts gX8_spared_X8_isRate rfl rfl rfl (by decide +kernel) ⟨(Nat.le_of_ble_eq_true rfl), (Nat.le_of_ble_eq_true rfl)⟩) hP hD hS hA rfl hl.1 rfl (Nat.le_of_ble_eq_true rfl) dX8_spared_1 ⟨Nat.zero_le _, Nat.zero_le _⟩ (fun H locs hP hD hS => ?_)
  refine lv_if_eq (tgt := 14) hx hb dX8_spared_4 (by decide) (fun c3 => ?_) (fun c3 => ?_)
  · replace hres := og_t c3 hres
    refine lv_ldc (v := (-1000000002)) hx hb hown k0 dX8_spared_14 ?_
    have hres := Option.some.inj hres
    have h0 := hres
    subst h0
    exact hret _ _ _ _ (vp_nar_int _) hP hD hS dX8_spared_16
  · replace hres := og_f c3 hres
    refine lv_iload_n hx hb dX8_spared_7 rfl (lv_at hl 2 rfl) ?_
    obtain ⟨r4, hc5, hres⟩ := kb1_s hres
    refine krI_S0 (As := [.int x2]) (rest := []) ⟨hx, hb, hml, hown, hts⟩ hK (tX8_isMuch l D κ x2 r4 hc5) (va_cwS 1 hts gX8_spared_X8_isMuch rfl rfl rfl (by decide +kernel) ⟨(Nat.le_of_ble_eq_true rfl), (Nat.le_of_ble_eq_true rfl)⟩) hP hD hS hA rfl hl.1 rfl (Nat.le_of_ble_eq_true rfl) dX8_spared_8 ⟨Nat.zero_le _, Nat.zero_le _⟩ (fun H locs hP hD hS => ?_)
    refine lv_if_ne (tgt := 17) hx hb dX8_spared_11 (by decide) (fun c6 => ?_) (fun c6 => ?_)
    · replace hres := og_f c6 hres
      refine lv_iconst (v := (-1)) hx hb dX8_spared_17 (by decide) ?_
      refine lv_istore_n (lv' := [(3, .int (-1)), (0, .ref kro), (1, .int x1), (2, .int x2)]) hx hb dX8_spared_18 rfl hl (by decide) rfl (fun ls hl => ?_)
      refine lv_iconst (v := (-1)) hx hb dX8_spared_19 (by decide) ?_
      refine lv_istore (lv' := [(4, .int (-1)), (3, .int (-1)), (0, .ref kro), (1, .int x1), (2, .int x2)]) hx hb dX8_spared_20 hl (by decide) rfl (fun ls hl => ?_)
      refine lv_iconst (v := 0) hx hb dX8_spared_22 (by decide) ?_
      refine lv_istore (lv' := [(5, .int 0), (4, .int (-1)), (3, .int (-1)), (0, .ref kro), (1, .int x1), (2, .int x2)]) hx hb dX8_spared_23 hl (by decide) rfl (fun ls hl => ?_)
      exact L25 N (-1) (-1) 0 _ _ _ hP hD hS (lv_sub hl [3, 4, 5, 2, 1, 0] rfl) hres
    · replace hres := og_t c6 hres
      refine lv_ldc (v := (-1000000002)) hx hb hown k0 dX8_spared_14 ?_
      have hres := Option.some.inj hres
      have h0 := hres
      subst h0
      exact hret _ _ _ _ (vp_nar_int _) hP hD hS dX8_spared_16

def pX8_lives_L18 (x1 : Int32) (tl_death : Int32) : Nat → Int32 → Int32 → Option (Int32)
  | 0, _, _ => none
  | n18 + 1, v2, v3 =>
    (if x1 ≤ v3 then
    some (v2)
    else
    kl ((v2 * (100 - tl_death)) / 100) fun y4 =>
    pX8_lives_L18 x1 tl_death n18 y4 (v3 + 1))
def pX8_lives (N : Nat) (x1 : Int32) (tl_death : Int32) : Option (Int32) :=
    (if x1 < 0 then
    some ((-1000000002))
    else
    (if x1 ≤ 60 then
    pX8_lives_L18 x1 tl_death N 1000000 0
    else
    some ((-1000000002))))
set_option maxHeartbeats 8000000 in
set_option maxRecDepth 100000 in
theorem tX8_lives (l : Launch) (D : va_G) (κ : Nat → ClassId) (kro : Nat) (txo : Nat) (tlo : Nat) (dfo : Nat) (nwo : Nat) (aho : Nat) (pao : Nat) (iaA : Nat) (sco : Nat) (bko : Nat) (spo : Nat) (tl_goodsA : Nat) (tl_shyA : Nat) (tl_bidOfA : Nat) (tl_daysOfA : Nat) (N : Nat) (kr_drawn : Int32) (tl_stands : Int32) (tl_price : Int32) (tl_death : Int32) (tl_payers : Int32) (tl_bids : Int32) (tl_hostages : Int32) (tl_bags : Int32) (tl_bagMarks : Int32) (tl_goods : Nat → Int32) (tl_shy : Nat → Int32) (tl_bidOf : Nat → Int32) (tl_daysOf : Nat → Int32) (x1 : Int32) (r0 : Int32) (hres : pX8_lives N x1 tl_death = some (r0)) : krI l yX8_lives wsX8_lives { frames := 0, cells := 0, slots := 0, locals := 0 } D κ [.ref kro, .int x1] ([(kro, .inr (8, [.ref txo, .ref tlo, .ref dfo, .ref nwo, .ref aho, .ref pao, .ref iaA, .ref sco, .ref bko, .ref spo, .int kr_drawn])), (tlo, .inr (6, [.int tl_stands, .int tl_price, .int tl_death, .int tl_payers, .int tl_bids, .int tl_hostages, .int tl_bags, .int tl_bagMarks, .ref tl_goodsA, .ref tl_shyA, .ref tl_bidOfA, .ref tl_daysOfA])), (tl_goodsA, .inl (κ 0, 6, .inl tl_goods)), (tl_shyA, .inl (κ 0, 6, .inl tl_shy)), (tl_bidOfA, .inl (κ 0, 9, .inl tl_bidOf)), (tl_daysOfA, .inl (κ 0, 6, .inl tl_daysOf))]) ([(kro, .inr (8, [.ref txo, .ref tlo, .ref dfo, .ref nwo, .ref aho, .ref pao, .ref iaA, .ref sco, .ref bko, .ref spo, .int kr_drawn])), (tlo, .inr (6, [.int tl_stands, .int tl_price, .int tl_death, .int tl_payers, .int tl_bids, .int tl_hostages, .int tl_bags, .int tl_bagMarks, .ref tl_goodsA, .ref tl_shyA, .ref tl_bidOfA, .ref tl_daysOfA])), (tl_goodsA, .inl (κ 0, 6, .inl tl_goods)), (tl_shyA, .inl (κ 0, 6, .inl tl_shy)), (tl_bidOfA, .inl (κ 0, 9, .inl tl_bidOf)), (tl_daysOfA, .inl (κ 0, 6, .inl tl_daysOf))]) r0 := by
  refine krI_of (cc := cX8_lives) (maxL := 4) (rt := .int) (by decide) rfl (Nat.le_of_ble_eq_true rfl) ?_
  intro p e s m args below meth c A Q ls hx hb hml hown hts hK hA hret hP hD hS hl
  have hown : s.vm.findClass RX8 = some m.cls := hown
  have hl : lv_has ls 4 [(0, .ref kro), (1, .int x1)] := hl
  have iw8 : ∀ w ∈ u_ws RX8 TX8 11, w ∈ wsX8_lives := (fun _ h => List.mem_cons_of_mem _ (List.mem_append_left _ (List.mem_append_right _ h)))
  have iw6 : ∀ w ∈ u_ws RX6 TX6 12, w ∈ wsX8_lives := (fun _ h => List.mem_cons_of_mem _ (List.mem_append_right _ h))
  have k0 : (Cond.constant RX8 71 (-1000000002)).before args s = true := hts _ (List.mem_of_getElem? (i := 1) rfl)
  have k1 : (Cond.constant RX8 242 (1000000)).before args s = true := hts _ (List.mem_of_getElem? (i := 2) rfl)
  have k2 : (Cond.fieldLink RX8 19 "KingRansom" "tale" "LKingRansom$Tale;").before args s = true := hts _ (List.mem_of_getElem? (i := 3) rfl)
  have L18 : ∀ (n18 : Nat) (v2 : Int32) (v3 : Int32) (H : Heap) (locs : List Loc) (ls : Array Slot), va_P D vwCl ([(kro, .inr (8, [.ref txo, .ref tlo, .ref dfo, .ref nwo, .ref aho, .ref pao, .ref iaA, .ref sco, .ref bko, .ref spo, .int kr_drawn])), (tlo, .inr (6, [.int tl_stands, .int tl_price, .int tl_death, .int tl_payers, .int tl_bids, .int tl_hostages, .int tl_bags, .int tl_bagMarks, .ref tl_goodsA, .ref tl_shyA, .ref tl_bidOfA, .ref tl_daysOfA])), (tl_goodsA, .inl (κ 0, 6, .inl tl_goods)), (tl_shyA, .inl (κ 0, 6, .inl tl_shy)), (tl_bidOfA, .inl (κ 0, 9, .inl tl_bidOf)), (tl_daysOfA, .inl (κ 0, 6, .inl tl_daysOf))]) H → va_D A ([(kro, .inr (8, [.ref txo, .ref tlo, .ref dfo, .ref nwo, .ref aho, .ref pao, .ref iaA, .ref sco, .ref bko, .ref spo, .int kr_drawn])), (tlo, .inr (6, [.int tl_stands, .int tl_price, .int tl_death, .int tl_payers, .int tl_bids, .int tl_hostages, .int tl_bags, .int tl_bagMarks, .ref tl_goodsA, .ref tl_shyA, .ref tl_bidOfA, .ref tl_daysOfA])), (tl_goodsA, .inl (κ 0, 6, .inl tl_goods)), (tl_shyA, .inl (κ 0, 6, .inl tl_shy)), (tl_bidOfA, .inl (κ 0, 9, .inl tl_bidOf)), (tl_daysOfA, .inl (κ 0, 6, .inl tl_daysOf))]) → va_S A s.heap H locs → lv_has ls 4 [(0, .ref kro), (1, .int x1), (2, .int v2), (3, .int v3)] → pX8_lives_L18 x1 tl_death n18 v2 v3 = some (r0) → W p l e { frames := 0, cells := 0, slots := 0, locals := 0 } s m args below meth c H locs 0 0 Q (F0 m 18 ls []) := by
    intro n18
    induction n18 with
    | zero =>
      intro v2 v3 H locs ls hP hD hS hl hres
      exact absurd (show none = some _ from hres) (by simp)
    | succ n18 ih18 =>
      intro v2 v3 H locs ls hP hD hS hl hres
      rw [pX8_lives_L18] at hres
      refine lv_iload_n hx hb dX8_lives_18 rfl (lv_at hl 3 rfl) ?_
      refine lv_iload_n hx hb dX8_lives_19 rfl (lv_at hl 1 rfl) ?_
      refine lv_icmp_ge (tgt := 45) hx hb dX8_lives_20 (by decide) (fun c3 => ?_) (fun c3 => ?_)
      · replace hres := og_t c3 hres
        refine lv_iload_n hx hb dX8_lives_45 rfl (lv_at hl 2 rfl) ?_
        have hres := Option.some.inj hres
        have h0 := hres
        subst h0
        exact hret _ _ _ _ (vp_nar_int _) hP hD hS dX8_lives_46
      · replace hres := og_f c3 hres
        refine lv_iload_n hx hb dX8_lives_23 rfl (lv_at hl 2 rfl) ?_
        refine lv_bipush (v := 100) hx hb dX8_lives_24 (by decide) ?_
        refine lv_aload_n hx hb dX8_lives_26 rfl (lv_at hl 0 rfl) ?_
        refine va_get (D := D) (ci := 8) (v := .ref tlo) (C := RX8) (T := TX8) (N := 11) hx hb hts iw8 hown hK.1 hP 0 rfl rfl 1 (by decide) k2 (fun _ h9 => h9) rfl dX8_lives_27 ?_
        refine va_getN (D := D) (ci := 6) (v := .int tl_death) (C := RX6) (T := TX6) (N := 12) hx hb hts iw6 hown hK.1 hP 1 rfl rfl 2 (by decide) (hK.fl 8 rfl) (fun _ h9 => h9) rfl dX8_lives_30 ?_
        refine lv_isub hx hb dX8_lives_33 ?_
        refine lv_imul hx hb dX8_lives_34 ?_
        refine lv_bipush (v := 100) hx hb dX8_lives_35 (by decide) ?_
        refine lv_idiv hx hb dX8_lives_37 (by decide) ?_
        obtain ⟨y4, ey4, hres⟩ := kl_s hres
        refine kr_tope ey4 ?_
        refine lv_istore_n (lv' := [(2, .int y4), (0, .ref kro), (1, .int x1), (3, .int v3)]) hx hb dX8_lives_38 rfl hl (by decide) rfl (fun ls hl => ?_)
        refine lv_iinc (v := (v3 + 1)) (lv' := [(3, .int (v3 + 1)), (2, .int y4), (0, .ref kro), (1, .int x1)]) hx hb dX8_lives_39 hl (k := 3) rfl rfl (by decide) rfl (fun ls hl => ?_)
        refine lv_goto (tgt := 18) hx hb dX8_lives_42 (by decide) ?_
        exact ih18 y4 (v3 + 1) _ _ _ hP hD hS (lv_sub hl [2, 3, 1, 0] rfl) hres
  unfold pX8_lives at hres
  refine lv_iload_n hx hb dX8_lives_0 rfl (lv_at hl 1 rfl) ?_
  refine lv_if_lt (tgt := 10) hx hb dX8_lives_1 (by decide) (fun c1 => ?_) (fun c1 => ?_)
  · replace hres := og_t c1 hres
    refine lv_ldc (v := (-1000000002)) hx hb hown k0 dX8_lives_10 ?_
    have hres := Option.some.inj hres
    have h0 := hres
    subst h0
    exact hret _ _ _ _ (vp_nar_int _) hP hD hS dX8_lives_12
  · replace hres := og_f c1 hres
    refine lv_iload_n hx hb dX8_lives_4 rfl (lv_at hl 1 rfl) ?_
    refine lv_bipush (v := 60) hx hb dX8_lives_5 (by decide) ?_
    refine lv_icmp_le (tgt := 13) hx hb dX8_lives_7 (by decide) (fun c2 => ?_) (fun c2 => ?_)
    · replace hres := og_t c2 hres
      refine lv_ldc (v := 1000000) hx hb hown k1 dX8_lives_13 ?_
      refine lv_istore_n (lv' := [(2, .int 1000000), (0, .ref kro), (1, .int x1)]) hx hb dX8_lives_15 rfl hl (by decide) rfl (fun ls hl => ?_)
      refine lv_iconst (v := 0) hx hb dX8_lives_16 (by decide) ?_
      refine lv_istore_n (lv' := [(3, .int 0), (2, .int 1000000), (0, .ref kro), (1, .int x1)]) hx hb dX8_lives_17 rfl hl (by decide) rfl (fun ls hl => ?_)
      exact L18 N 1000000 0 _ _ _ hP hD hS (lv_sub hl [2, 3, 1, 0] rfl) hres
    · replace hres := og_f c2 hres
      refine lv_ldc (v := (-1000000002)) hx hb hown k0 dX8_lives_10 ?_
      have hres := Option.some.inj hres
      have h0 := hres
      subst h0
      exact hret _ _ _ _ (vp_nar_int _) hP hD hS dX8_lives_12

def pX8_monthsTo_L31 (N : Nat) (tl_payers : Int32) (tl_shy : Nat → Int32) : Nat → Int32 → Int32 → Int32 → Int32 → Int32 → Int32 → Int32 → (Nat → Int32) → (Nat → Int32) → Option (Int32 × Int32 × Int32 × Int32 × Int32 × Int32 × (Nat → Int32) × (Nat → Int32))
  | 0, _, _, _, _, _, _, _, _, _ => none
  | n31 + 1, v1, v2, w_ah_price, w_ah_months, w_ah_chest, w_ah_given, w_ah_fate, w_ah_goods, w_ah_rates =>
    (if 99 < v2 then
    some ((-1), w_ah_price, w_ah_months, w_ah_chest, w_ah_given, w_ah_fate, w_ah_goods, w_ah_rates)
    else
    (if w_ah_chest < v1 then
    kb3 (pX5_passMonth N w_ah_months w_ah_chest w_ah_goods w_ah_rates tl_payers tl_shy) fun w16 w17 w18 =>
    pX8_monthsTo_L31 N tl_payers tl_shy n31 v1 (v2 + 1) w_ah_price w16 w17 w_ah_given w_ah_fate w18 w_ah_rates
    else
    some (v2, w_ah_price, w_ah_months, w_ah_chest, w_ah_given, w_ah_fate, w_ah_goods, w_ah_rates)))
def pX8_monthsTo (N : Nat) (tl_stands : Int32) (tl_payers : Int32) (tl_shy : Nat → Int32) (nw_price : Int32) (nw_months : Int32) (nw_chest : Int32) (nw_given : Int32) (nw_fate : Int32) (nw_goods : Nat → Int32) (nw_rates : Nat → Int32) (ah_price : Int32) (ah_months : Int32) (ah_chest : Int32) (ah_given : Int32) (ah_fate : Int32) (ah_goods : Nat → Int32) (ah_rates : Nat → Int32) : Option (Int32 × Int32 × Int32 × Int32 × Int32 × Int32 × (Nat → Int32) × (Nat → Int32)) :=
    kb1 (pX8_isKept tl_stands nw_fate) fun r1 =>
    (if r1 = 0 then
    some ((-1000000003), ah_price, ah_months, ah_chest, ah_given, ah_fate, ah_goods, ah_rates)
    else
    kb7 (pX5_become N ah_goods ah_rates nw_price nw_months nw_chest nw_given nw_fate nw_goods nw_rates) fun w4 w5 w6 w7 w8 w9 w10 =>
    kb1 (pX5_cost w4 w7) fun r12 =>
    pX8_monthsTo_L31 N tl_payers tl_shy N r12 0 w4 w5 w6 w7 w8 w9 w10)
set_option maxHeartbeats 8000000 in
set_option maxRecDepth 100000 in
theorem tX8_monthsTo (l : Launch) (D : va_G) (κ : Nat → ClassId) (kro : Nat) (txo : Nat) (tlo : Nat) (dfo : Nat) (nwo : Nat) (aho : Nat) (pao : Nat) (iaA : Nat) (sco : Nat) (bko : Nat) (spo : Nat) (tl_goodsA : Nat) (tl_shyA : Nat) (tl_bidOfA : Nat) (tl_daysOfA : Nat) (nw_goodsA : Nat) (nw_ratesA : Nat) (ah_goodsA : Nat) (ah_ratesA : Nat) (N : Nat) (kr_drawn : Int32) (tl_stands : Int32) (tl_price : Int32) (tl_death : Int32) (tl_payers : Int32) (tl_bids : Int32) (tl_hostages : Int32) (tl_bags : Int32) (tl_bagMarks : Int32) (tl_goods : Nat → Int32) (tl_shy : Nat → Int32) (tl_bidOf : Nat → Int32) (tl_daysOf : Nat → Int32) (nw_price : Int32) (nw_months : Int32) (nw_chest : Int32) (nw_given : Int32) (nw_fate : Int32) (nw_goods : Nat → Int32) (nw_rates : Nat → Int32) (ah_price : Int32) (ah_months : Int32) (ah_chest : Int32) (ah_given : Int32) (ah_fate : Int32) (ah_goods : Nat → Int32) (ah_rates : Nat → Int32) (r0 : Int32) (z_ah_price : Int32) (z_ah_months : Int32) (z_ah_chest : Int32) (z_ah_given : Int32) (z_ah_fate : Int32) (z_ah_goods : Nat → Int32) (z_ah_rates : Nat → Int32) (hres : pX8_monthsTo N tl_stands tl_payers tl_shy nw_price nw_months nw_chest nw_given nw_fate nw_goods nw_rates ah_price ah_months ah_chest ah_given ah_fate ah_goods ah_rates = some (r0, z_ah_price, z_ah_months, z_ah_chest, z_ah_given, z_ah_fate, z_ah_goods, z_ah_rates)) : krI l yX8_monthsTo wsX8_monthsTo { frames := 4, cells := 0, slots := 0, locals := 400 } D κ [.ref kro] ([(kro, .inr (8, [.ref txo, .ref tlo, .ref dfo, .ref nwo, .ref aho, .ref pao, .ref iaA, .ref sco, .ref bko, .ref spo, .int kr_drawn])), (tlo, .inr (6, [.int tl_stands, .int tl_price, .int tl_death, .int tl_payers, .int tl_bids, .int tl_hostages, .int tl_bags, .int tl_bagMarks, .ref tl_goodsA, .ref tl_shyA, .ref tl_bidOfA, .ref tl_daysOfA])), (tl_goodsA, .inl (κ 0, 6, .inl tl_goods)), (tl_shyA, .inl (κ 0, 6, .inl tl_shy)), (tl_bidOfA, .inl (κ 0, 9, .inl tl_bidOf)), (tl_daysOfA, .inl (κ 0, 6, .inl tl_daysOf)), (nwo, .inr (5, [.int nw_price, .int nw_months, .int nw_chest, .int nw_given, .int nw_fate, .ref nw_goodsA, .ref nw_ratesA])), (nw_goodsA, .inl (κ 0, 6, .inl nw_goods)), (nw_ratesA, .inl (κ 0, 6, .inl nw_rates)), (aho, .inr (5, [.int ah_price, .int ah_months, .int ah_chest, .int ah_given, .int ah_fate, .ref ah_goodsA, .ref ah_ratesA])), (ah_goodsA, .inl (κ 0, 6, .inl ah_goods)), (ah_ratesA, .inl (κ 0, 6, .inl ah_rates))]) ([(kro, .inr (8, [.ref txo, .ref tlo, .ref dfo, .ref nwo, .ref aho, .ref pao, .ref iaA, .ref sco, .ref bko, .ref spo, .int kr_drawn])), (tlo, .inr (6, [.int tl_stands, .int tl_price, .int tl_death, .int tl_payers, .int tl_bids, .int tl_hostages, .int tl_bags, .int tl_bagMarks, .ref tl_goodsA, .ref tl_shyA, .ref tl_bidOfA, .ref tl_daysOfA])), (tl_goodsA, .inl (κ 0, 6, .inl tl_goods)), (tl_shyA, .inl (κ 0, 6, .inl tl_shy)), (tl_bidOfA, .inl (κ 0, 9, .inl tl_bidOf)), (tl_daysOfA, .inl (κ 0, 6, .inl tl_daysOf)), (nwo, .inr (5, [.int nw_price, .int nw_months, .int nw_chest, .int nw_given, .int nw_fate, .ref nw_goodsA, .ref nw_ratesA])), (nw_goodsA, .inl (κ 0, 6, .inl nw_goods)), (nw_ratesA, .inl (κ 0, 6, .inl nw_rates)), (aho, .inr (5, [.int z_ah_price, .int z_ah_months, .int z_ah_chest, .int z_ah_given, .int z_ah_fate, .ref ah_goodsA, .ref ah_ratesA])), (ah_goodsA, .inl (κ 0, 6, .inl z_ah_goods)), (ah_ratesA, .inl (κ 0, 6, .inl z_ah_rates))]) r0 := by
  refine krI_of (cc := cX8_monthsTo) (maxL := 3) (rt := .int) (by decide) rfl (Nat.le_of_ble_eq_true rfl) ?_
  intro p e s m args below meth c A Q ls hx hb hml hown hts hK hA hret hP hD hS hl
  have hown : s.vm.findClass RX8 = some m.cls := hown
  have hl : lv_has ls 3 [(0, .ref kro)] := hl
  have iw8 : ∀ w ∈ u_ws RX8 TX8 11, w ∈ wsX8_monthsTo := (fun _ h => List.mem_cons_of_mem _ (List.mem_append_left _ (List.mem_append_left _ (List.mem_append_right _ h))))
  have iw5 : ∀ w ∈ u_ws RX5 TX5 7, w ∈ wsX8_monthsTo := (fun _ h => List.mem_cons_of_mem _ (List.mem_append_left _ (List.mem_append_right _ h)))
  have k0 : (Cond.fieldLink RX8 33 "KingRansom" "ahead" "LKingRansom$State;").before args s = true := hts _ (List.mem_of_getElem? (i := 2) rfl)
  have k1 : (Cond.fieldLink RX8 29 "KingRansom" "now" "LKingRansom$State;").before args s = true := hts _ (List.mem_of_getElem? (i := 3) rfl)
  have k2 : (Cond.initialized RX5).before args s = true := hts _ (List.mem_of_getElem? (i := 11) rfl)
  have k3 : (Cond.instanceMethod yX5_become).before args s = true := hts _ (List.mem_of_getElem? (i := 10) rfl)
  have k4 : (Cond.selects RX5 yX5_become yX5_become).before args s = true := hts _ (List.mem_of_getElem? (i := 12) rfl)
  have k5 : (Cond.instanceMethod yX5_cost).before args s = true := hts _ (List.mem_of_getElem? (i := 21) rfl)
  have k6 : (Cond.selects RX5 yX5_cost yX5_cost).before args s = true := hts _ (List.mem_of_getElem? (i := 22) rfl)
  have k7 : (Cond.constant RX8 185 (-1000000003)).before args s = true := hts _ (List.mem_of_getElem? (i := 1) rfl)
  have k8 : (Cond.fieldLink RX8 19 "KingRansom" "tale" "LKingRansom$Tale;").before args s = true := hts _ (List.mem_of_getElem? (i := 4) rfl)
  have k9 : (Cond.instanceMethod yX5_passMonth).before args s = true := hts _ (List.mem_of_getElem? (i := 35) rfl)
  have k10 : (Cond.selects RX5 yX5_passMonth yX5_passMonth).before args s = true := hts _ (List.mem_of_getElem? (i := 36) rfl)
  have L31 : ∀ (n31 : Nat) (v1 : Int32) (v2 : Int32) (w_ah_price : Int32) (w_ah_months : Int32) (w_ah_chest : Int32) (w_ah_given : Int32) (w_ah_fate : Int32) (w_ah_goods : Nat → Int32) (w_ah_rates : Nat → Int32) (H : Heap) (locs : List Loc) (ls : Array Slot), va_P D vwCl ([(kro, .inr (8, [.ref txo, .ref tlo, .ref dfo, .ref nwo, .ref aho, .ref pao, .ref iaA, .ref sco, .ref bko, .ref spo, .int kr_drawn])), (tlo, .inr (6, [.int tl_stands, .int tl_price, .int tl_death, .int tl_payers, .int tl_bids, .int tl_hostages, .int tl_bags, .int tl_bagMarks, .ref tl_goodsA, .ref tl_shyA, .ref tl_bidOfA, .ref tl_daysOfA])), (tl_goodsA, .inl (κ 0, 6, .inl tl_goods)), (tl_shyA, .inl (κ 0, 6, .inl tl_shy)), (tl_bidOfA, .inl (κ 0, 9, .inl tl_bidOf)), (tl_daysOfA, .inl (κ 0, 6, .inl tl_daysOf)), (nwo, .inr (5, [.int nw_price, .int nw_months, .int nw_chest, .int nw_given, .int nw_fate, .ref nw_goodsA, .ref nw_ratesA])), (nw_goodsA, .inl (κ 0, 6, .inl nw_goods)), (nw_ratesA, .inl (κ 0, 6, .inl nw_rates)), (aho, .inr (5, [.int w_ah_price, .int w_ah_months, .int w_ah_chest, .int w_ah_given, .int w_ah_fate, .ref ah_goodsA, .ref ah_ratesA])), (ah_goodsA, .inl (κ 0, 6, .inl w_ah_goods)), (ah_ratesA, .inl (κ 0, 6, .inl w_ah_rates))]) H → va_D A ([(kro, .inr (8, [.ref txo, .ref tlo, .ref dfo, .ref nwo, .ref aho, .ref pao, .ref iaA, .ref sco, .ref bko, .ref spo, .int kr_drawn])), (tlo, .inr (6, [.int tl_stands, .int tl_price, .int tl_death, .int tl_payers, .int tl_bids, .int tl_hostages, .int tl_bags, .int tl_bagMarks, .ref tl_goodsA, .ref tl_shyA, .ref tl_bidOfA, .ref tl_daysOfA])), (tl_goodsA, .inl (κ 0, 6, .inl tl_goods)), (tl_shyA, .inl (κ 0, 6, .inl tl_shy)), (tl_bidOfA, .inl (κ 0, 9, .inl tl_bidOf)), (tl_daysOfA, .inl (κ 0, 6, .inl tl_daysOf)), (nwo, .inr (5, [.int nw_price, .int nw_months, .int nw_chest, .int nw_given, .int nw_fate, .ref nw_goodsA, .ref nw_ratesA])), (nw_goodsA, .inl (κ 0, 6, .inl nw_goods)), (nw_ratesA, .inl (κ 0, 6, .inl nw_rates)), (aho, .inr (5, [.int w_ah_price, .int w_ah_months, .int w_ah_chest, .int w_ah_given, .int w_ah_fate, .ref ah_goodsA, .ref ah_ratesA])), (ah_goodsA, .inl (κ 0, 6, .inl w_ah_goods)), (ah_ratesA, .inl (κ 0, 6, .inl w_ah_rates))]) → va_S A s.heap H locs → lv_has ls 3 [(0, .ref kro), (1, .int v1), (2, .int v2)] → pX8_monthsTo_L31 N tl_payers tl_shy n31 v1 v2 w_ah_price w_ah_months w_ah_chest w_ah_given w_ah_fate w_ah_goods w_ah_rates = some (r0, z_ah_price, z_ah_months, z_ah_chest, z_ah_given, z_ah_fate, z_ah_goods, z_ah_rates) → W p l e { frames := 4, cells := 0, slots := 0, locals := 400 } s m args below meth c H locs 0 0 Q (F0 m 31 ls []) := by
    intro n31
    induction n31 with
    | zero =>
      intro v1 v2 w_ah_price w_ah_months w_ah_chest w_ah_given w_ah_fate w_ah_goods w_ah_rates H locs ls hP hD hS hl hres
      exact absurd (show none = some _ from hres) (by simp)
    | succ n31 ih31 =>
      intro v1 v2 w_ah_price w_ah_months w_ah_chest w_ah_given w_ah_fate w_ah_goods w_ah_rates H locs ls hP hD hS hl hres
      rw [pX8_monthsTo_L31] at hres
      refine lv_iload_n hx hb dX8_monthsTo_31 rfl (lv_at hl 2 rfl) ?_
      refine lv_bipush (v := 99) hx hb dX8_monthsTo_32 (by decide) ?_
      refine lv_icmp_gt (tgt := 67) hx hb dX8_monthsTo_34 (by decide) (fun c14 => ?_) (fun c14 => ?_)
      · replace hres := og_t c14 hres
        refine lv_iconst (v := (-1)) hx hb dX8_monthsTo_67 (by decide) ?_
        have hres := Option.some.inj hres
        have h0 := (Prod.mk.inj hres).1
        replace hres := (Prod.mk.inj hres).2
        have h1 := (Prod.mk.inj hres).1
        replace hres := (Prod.mk.inj hres).2
        have h2 := (Prod.mk.inj hres).1
        replace hres := (Prod.mk.inj hres).2
        have h3 := (Prod.mk.inj hres).1
        replace hres := (Prod.mk.inj hres).2
        have h4 := (Prod.mk.inj hres).1
        replace hres := (Prod.mk.inj hres).2
        have h5 := (Prod.mk.inj hres).1
        replace hres := (Prod.mk.inj hres).2
        have h6 := (Prod.mk.inj hres).1
        replace hres := (Prod.mk.inj hres).2
        have h7 := hres
        subst h0
        subst h1
        subst h2
        subst h3
        subst h4
        subst h5
        subst h6
        subst h7
        exact hret _ _ _ _ (vp_nar_int _) hP hD hS dX8_monthsTo_68
      · replace hres := og_f c14 hres
        refine lv_aload_n hx hb dX8_monthsTo_37 rfl (lv_at hl 0 rfl) ?_
        refine va_get (D := D) (ci := 8) (v := .ref aho) (C := RX8) (T := TX8) (N := 11) hx hb hts iw8 hown hK.1 hP 0 rfl rfl 4 (by decide) k0 (fun _ h9 => h9) rfl dX8_monthsTo_38 ?_
        refine va_getN (D := D) (ci := 5) (v := .int w_ah_chest) (C := RX5) (T := TX5) (N := 7) hx hb hts iw5 hown hK.1 hP 9 rfl rfl 2 (by decide) (hK.fl 31 rfl) (fun _ h9 => h9) rfl dX8_monthsTo_41 ?_
        refine lv_iload_n hx hb dX8_monthsTo_44 rfl (lv_at hl 1 rfl) ?_
        refine lv_icmp_lt (tgt := 50) hx hb dX8_monthsTo_45 (by decide) (fun c15 => ?_) (fun c15 => ?_)
        · replace hres := og_t c15 hres
          refine lv_aload_n hx hb dX8_monthsTo_50 rfl (lv_at hl 0 rfl) ?_
          refine va_get (D := D) (ci := 8) (v := .ref aho) (C := RX8) (T := TX8) (N := 11) hx hb hts iw8 hown hK.1 hP 0 rfl rfl 4 (by decide) k0 (fun _ h9 => h9) rfl dX8_monthsTo_51 ?_
          refine lv_aload_n hx hb dX8_monthsTo_54 rfl (lv_at hl 0 rfl) ?_
          refine va_get (D := D) (ci := 8) (v := .ref tlo) (C := RX8) (T := TX8) (N := 11) hx hb hts iw8 hown hK.1 hP 0 rfl rfl 1 (by decide) k8 (fun _ h9 => h9) rfl dX8_monthsTo_55 ?_
          obtain ⟨w16, w17, w18, hc19, hres⟩ := kb3_s hres
          refine krV_VN (As := [.ref tlo]) (rest := []) (wr := [(kro, .inr (8, [.ref txo, .ref tlo, .ref dfo, .ref nwo, .ref aho, .ref pao, .ref iaA, .ref sco, .ref bko, .ref spo, .int kr_drawn])), (nwo, .inr (5, [.int nw_price, .int nw_months, .int nw_chest, .int nw_given, .int nw_fate, .ref nw_goodsA, .ref nw_ratesA])), (nw_goodsA, .inl (κ 0, 6, .inl nw_goods)), (nw_ratesA, .inl (κ 0, 6, .inl nw_rates))]) ⟨hx, hb, hml, hown, hts⟩ hK (tX5_passMonth l D κ aho ah_goodsA ah_ratesA tlo tl_goodsA tl_shyA tl_bidOfA tl_daysOfA N w_ah_price w_ah_months w_ah_chest w_ah_given w_ah_fate w_ah_goods w_ah_rates tl_stands tl_price tl_death tl_payers tl_bids tl_hostages tl_bags tl_bagMarks tl_goods tl_shy tl_bidOf tl_daysOf w16 w17 w18 hc19) ⟨va_cnB 1 hts gX8_monthsTo_X5_passMonth_n178 rfl rfl rfl (hK.ml 22 rfl) k2 (by decide +kernel) ⟨(Nat.le_of_ble_eq_true rfl), (Nat.le_of_ble_eq_true rfl)⟩, k9, k10⟩ rfl rfl rfl hP hD hS hA [9, 10, 11, 1, 2, 3, 4, 5] [0, 6, 7, 8] rfl rfl rfl rfl (by decide) rfl hl.1 rfl (Nat.le_of_ble_eq_true rfl) dX8_monthsTo_58 ⟨Nat.zero_le _, Nat.zero_le _⟩ (fun H locs hP hD hS => ?_)
          have hP : va_P D vwCl ([(kro, .inr (8, [.ref txo, .ref tlo, .ref dfo, .ref nwo, .ref aho, .ref pao, .ref iaA, .ref sco, .ref bko, .ref spo, .int kr_drawn])), (nwo, .inr (5, [.int nw_price, .int nw_months, .int nw_chest, .int nw_given, .int nw_fate, .ref nw_goodsA, .ref nw_ratesA])), (nw_goodsA, .inl (κ 0, 6, .inl nw_goods)), (nw_ratesA, .inl (κ 0, 6, .inl nw_rates)), (aho, .inr (5, [.int w_ah_price, .int w16, .int w17, .int w_ah_given, .int w_ah_fate, .ref ah_goodsA, .ref ah_ratesA])), (ah_goodsA, .inl (κ 0, 6, .inl w18)), (ah_ratesA, .inl (κ 0, 6, .inl w_ah_rates)), (tlo, .inr (6, [.int tl_stands, .int tl_price, .int tl_death, .int tl_payers, .int tl_bids, .int tl_hostages, .int tl_bags, .int tl_bagMarks, .ref tl_goodsA, .ref tl_shyA, .ref tl_bidOfA, .ref tl_daysOfA])), (tl_goodsA, .inl (κ 0, 6, .inl tl_goods)), (tl_shyA, .inl (κ 0, 6, .inl tl_shy)), (tl_bidOfA, .inl (κ 0, 9, .inl tl_bidOf)), (tl_daysOfA, .inl (κ 0, 6, .inl tl_daysOf))]) H := hP
          have hD : va_D A ([(kro, .inr (8, [.ref txo, .ref tlo, .ref dfo, .ref nwo, .ref aho, .ref pao, .ref iaA, .ref sco, .ref bko, .ref spo, .int kr_drawn])), (nwo, .inr (5, [.int nw_price, .int nw_months, .int nw_chest, .int nw_given, .int nw_fate, .ref nw_goodsA, .ref nw_ratesA])), (nw_goodsA, .inl (κ 0, 6, .inl nw_goods)), (nw_ratesA, .inl (κ 0, 6, .inl nw_rates)), (aho, .inr (5, [.int w_ah_price, .int w16, .int w17, .int w_ah_given, .int w_ah_fate, .ref ah_goodsA, .ref ah_ratesA])), (ah_goodsA, .inl (κ 0, 6, .inl w18)), (ah_ratesA, .inl (κ 0, 6, .inl w_ah_rates)), (tlo, .inr (6, [.int tl_stands, .int tl_price, .int tl_death, .int tl_payers, .int tl_bids, .int tl_hostages, .int tl_bags, .int tl_bagMarks, .ref tl_goodsA, .ref tl_shyA, .ref tl_bidOfA, .ref tl_daysOfA])), (tl_goodsA, .inl (κ 0, 6, .inl tl_goods)), (tl_shyA, .inl (κ 0, 6, .inl tl_shy)), (tl_bidOfA, .inl (κ 0, 9, .inl tl_bidOf)), (tl_daysOfA, .inl (κ 0, 6, .inl tl_daysOf))]) := hD
          refine lv_iinc (v := (v2 + 1)) (lv' := [(2, .int (v2 + 1)), (0, .ref kro), (1, .int v1)]) hx hb dX8_monthsTo_61 hl (k := 2) rfl rfl (by decide) rfl (fun ls hl => ?_)
          refine lv_goto (tgt := 31) hx hb dX8_monthsTo_64 (by decide) ?_
          exact ih31 v1 (v2 + 1) w_ah_price w16 w17 w_ah_given w_ah_fate w18 w_ah_rates _ _ _ (hP.sub [0, 7, 8, 9, 10, 11, 1, 2, 3, 4, 5, 6] rfl) (hD.sub [0, 7, 8, 9, 10, 11, 1, 2, 3, 4, 5, 6] (by decide) rfl) hS (lv_sub hl [1, 2, 0] rfl) hres
        · replace hres := og_f c15 hres
          refine lv_iload_n hx hb dX8_monthsTo_48 rfl (lv_at hl 2 rfl) ?_
          have hres := Option.some.inj hres
          have h0 := (Prod.mk.inj hres).1
          replace hres := (Prod.mk.inj hres).2
          have h1 := (Prod.mk.inj hres).1
          replace hres := (Prod.mk.inj hres).2
          have h2 := (Prod.mk.inj hres).1
          replace hres := (Prod.mk.inj hres).2
          have h3 := (Prod.mk.inj hres).1
          replace hres := (Prod.mk.inj hres).2
          have h4 := (Prod.mk.inj hres).1
          replace hres := (Prod.mk.inj hres).2
          have h5 := (Prod.mk.inj hres).1
          replace hres := (Prod.mk.inj hres).2
          have h6 := (Prod.mk.inj hres).1
          replace hres := (Prod.mk.inj hres).2
          have h7 := hres
          subst h0
          subst h1
          subst h2
          subst h3
          subst h4
          subst h5
          subst h6
          subst h7
          exact hret _ _ _ _ (vp_nar_int _) hP hD hS dX8_monthsTo_49
  unfold pX8_monthsTo at hres
  refine lv_aload_n hx hb dX8_monthsTo_0 rfl (lv_at hl 0 rfl) ?_
  obtain ⟨r1, hc2, hres⟩ := kb1_s hres
  refine krI_V (As := []) (rest := []) (wr := [(aho, .inr (5, [.int ah_price, .int ah_months, .int ah_chest, .int ah_given, .int ah_fate, .ref ah_goodsA, .ref ah_ratesA])), (ah_goodsA, .inl (κ 0, 6, .inl ah_goods)), (ah_ratesA, .inl (κ 0, 6, .inl ah_rates))]) ⟨hx, hb, hml, hown, hts⟩ hK (tX8_isKept l D κ kro txo tlo dfo nwo aho pao iaA sco bko spo tl_goodsA tl_shyA tl_bidOfA tl_daysOfA nw_goodsA nw_ratesA kr_drawn tl_stands tl_price tl_death tl_payers tl_bids tl_hostages tl_bags tl_bagMarks tl_goods tl_shy tl_bidOf tl_daysOf nw_price nw_months nw_chest nw_given nw_fate nw_goods nw_rates r1 hc2) (cwV 0 hts gX8_monthsTo_X8_isKept rfl rfl rfl (by decide +kernel) ⟨(Nat.le_of_ble_eq_true rfl), (Nat.le_of_ble_eq_true rfl)⟩) rfl rfl rfl hP hD hS hA [0, 1, 2, 3, 4, 5, 6, 7, 8] [9, 10, 11] rfl rfl rfl rfl (by decide) rfl hl.1 rfl (Nat.le_of_ble_eq_true rfl) dX8_monthsTo_1 ⟨Nat.zero_le _, Nat.zero_le _⟩ (fun H locs hP hD hS => ?_)
  have hP : va_P D vwCl ([(aho, .inr (5, [.int ah_price, .int ah_months, .int ah_chest, .int ah_given, .int ah_fate, .ref ah_goodsA, .ref ah_ratesA])), (ah_goodsA, .inl (κ 0, 6, .inl ah_goods)), (ah_ratesA, .inl (κ 0, 6, .inl ah_rates)), (kro, .inr (8, [.ref txo, .ref tlo, .ref dfo, .ref nwo, .ref aho, .ref pao, .ref iaA, .ref sco, .ref bko, .ref spo, .int kr_drawn])), (tlo, .inr (6, [.int tl_stands, .int tl_price, .int tl_death, .int tl_payers, .int tl_bids, .int tl_hostages, .int tl_bags, .int tl_bagMarks, .ref tl_goodsA, .ref tl_shyA, .ref tl_bidOfA, .ref tl_daysOfA])), (tl_goodsA, .inl (κ 0, 6, .inl tl_goods)), (tl_shyA, .inl (κ 0, 6, .inl tl_shy)), (tl_bidOfA, .inl (κ 0, 9, .inl tl_bidOf)), (tl_daysOfA, .inl (κ 0, 6, .inl tl_daysOf)), (nwo, .inr (5, [.int nw_price, .int nw_months, .int nw_chest, .int nw_given, .int nw_fate, .ref nw_goodsA, .ref nw_ratesA])), (nw_goodsA, .inl (κ 0, 6, .inl nw_goods)), (nw_ratesA, .inl (κ 0, 6, .inl nw_rates))]) H := hP
  have hD : va_D A ([(aho, .inr (5, [.int ah_price, .int ah_months, .int ah_chest, .int ah_given, .int ah_fate, .ref ah_goodsA, .ref ah_ratesA])), (ah_goodsA, .inl (κ 0, 6, .inl ah_goods)), (ah_ratesA, .inl (κ 0, 6, .inl ah_rates)), (kro, .inr (8, [.ref txo, .ref tlo, .ref dfo, .ref nwo, .ref aho, .ref pao, .ref iaA, .ref sco, .ref bko, .ref spo, .int kr_drawn])), (tlo, .inr (6, [.int tl_stands, .int tl_price, .int tl_death, .int tl_payers, .int tl_bids, .int tl_hostages, .int tl_bags, .int tl_bagMarks, .ref tl_goodsA, .ref tl_shyA, .ref tl_bidOfA, .ref tl_daysOfA])), (tl_goodsA, .inl (κ 0, 6, .inl tl_goods)), (tl_shyA, .inl (κ 0, 6, .inl tl_shy)), (tl_bidOfA, .inl (κ 0, 9, .inl tl_bidOf)), (tl_daysOfA, .inl (κ 0, 6, .inl tl_daysOf)), (nwo, .inr (5, [.int nw_price, .int nw_months, .int nw_chest, .int nw_given, .int nw_fate, .ref nw_goodsA, .ref nw_ratesA])), (nw_goodsA, .inl (κ 0, 6, .inl nw_goods)), (nw_ratesA, .inl (κ 0, 6, .inl nw_rates))]) := hD
  refine lv_if_ne (tgt := 10) hx hb dX8_monthsTo_4 (by decide) (fun c3 => ?_) (fun c3 => ?_)
  · replace hres := og_f c3 hres
    refine lv_aload_n hx hb dX8_monthsTo_10 rfl (lv_at hl 0 rfl) ?_
    refine va_get (D := D) (ci := 8) (v := .ref aho) (C := RX8) (T := TX8) (N := 11) hx hb hts iw8 hown hK.1 hP 3 rfl rfl 4 (by decide) k0 (fun _ h9 => h9) rfl dX8_monthsTo_11 ?_
    refine lv_aload_n hx hb dX8_monthsTo_14 rfl (lv_at hl 0 rfl) ?_
    refine va_get (D := D) (ci := 8) (v := .ref nwo) (C := RX8) (T := TX8) (N := 11) hx hb hts iw8 hown hK.1 hP 3 rfl rfl 3 (by decide) k1 (fun _ h9 => h9) rfl dX8_monthsTo_15 ?_
    obtain ⟨w4, w5, w6, w7, w8, w9, w10, hc11, hres⟩ := kb7_s hres
    refine krV_VN (As := [.ref nwo]) (rest := []) (wr := [(kro, .inr (8, [.ref txo, .ref tlo, .ref dfo, .ref nwo, .ref aho, .ref pao, .ref iaA, .ref sco, .ref bko, .ref spo, .int kr_drawn])), (tlo, .inr (6, [.int tl_stands, .int tl_price, .int tl_death, .int tl_payers, .int tl_bids, .int tl_hostages, .int tl_bags, .int tl_bagMarks, .ref tl_goodsA, .ref tl_shyA, .ref tl_bidOfA, .ref tl_daysOfA])), (tl_goodsA, .inl (κ 0, 6, .inl tl_goods)), (tl_shyA, .inl (κ 0, 6, .inl tl_shy)), (tl_bidOfA, .inl (κ 0, 9, .inl tl_bidOf)), (tl_daysOfA, .inl (κ 0, 6, .inl tl_daysOf))]) ⟨hx, hb, hml, hown, hts⟩ hK (tX5_become l D κ aho ah_goodsA ah_ratesA nwo nw_goodsA nw_ratesA N ah_price ah_months ah_chest ah_given ah_fate ah_goods ah_rates nw_price nw_months nw_chest nw_given nw_fate nw_goods nw_rates w4 w5 w6 w7 w8 w9 w10 hc11) ⟨va_cnB 1 hts gX8_monthsTo_X5_become_n243 rfl rfl rfl (hK.ml 29 rfl) k2 (by decide +kernel) ⟨(Nat.le_of_ble_eq_true rfl), (Nat.le_of_ble_eq_true rfl)⟩, k3, k4⟩ rfl rfl rfl hP hD hS hA [0, 1, 2, 9, 10, 11] [3, 4, 5, 6, 7, 8] rfl rfl rfl rfl (by decide) rfl hl.1 rfl (Nat.le_of_ble_eq_true rfl) dX8_monthsTo_18 ⟨Nat.zero_le _, Nat.zero_le _⟩ (fun H locs hP hD hS => ?_)
    have hP : va_P D vwCl ([(kro, .inr (8, [.ref txo, .ref tlo, .ref dfo, .ref nwo, .ref aho, .ref pao, .ref iaA, .ref sco, .ref bko, .ref spo, .int kr_drawn])), (tlo, .inr (6, [.int tl_stands, .int tl_price, .int tl_death, .int tl_payers, .int tl_bids, .int tl_hostages, .int tl_bags, .int tl_bagMarks, .ref tl_goodsA, .ref tl_shyA, .ref tl_bidOfA, .ref tl_daysOfA])), (tl_goodsA, .inl (κ 0, 6, .inl tl_goods)), (tl_shyA, .inl (κ 0, 6, .inl tl_shy)), (tl_bidOfA, .inl (κ 0, 9, .inl tl_bidOf)), (tl_daysOfA, .inl (κ 0, 6, .inl tl_daysOf)), (aho, .inr (5, [.int w4, .int w5, .int w6, .int w7, .int w8, .ref ah_goodsA, .ref ah_ratesA])), (ah_goodsA, .inl (κ 0, 6, .inl w9)), (ah_ratesA, .inl (κ 0, 6, .inl w10)), (nwo, .inr (5, [.int nw_price, .int nw_months, .int nw_chest, .int nw_given, .int nw_fate, .ref nw_goodsA, .ref nw_ratesA])), (nw_goodsA, .inl (κ 0, 6, .inl nw_goods)), (nw_ratesA, .inl (κ 0, 6, .inl nw_rates))]) H := hP
    have hD : va_D A ([(kro, .inr (8, [.ref txo, .ref tlo, .ref dfo, .ref nwo, .ref aho, .ref pao, .ref iaA, .ref sco, .ref bko, .ref spo, .int kr_drawn])), (tlo, .inr (6, [.int tl_stands, .int tl_price, .int tl_death, .int tl_payers, .int tl_bids, .int tl_hostages, .int tl_bags, .int tl_bagMarks, .ref tl_goodsA, .ref tl_shyA, .ref tl_bidOfA, .ref tl_daysOfA])), (tl_goodsA, .inl (κ 0, 6, .inl tl_goods)), (tl_shyA, .inl (κ 0, 6, .inl tl_shy)), (tl_bidOfA, .inl (κ 0, 9, .inl tl_bidOf)), (tl_daysOfA, .inl (κ 0, 6, .inl tl_daysOf)), (aho, .inr (5, [.int w4, .int w5, .int w6, .int w7, .int w8, .ref ah_goodsA, .ref ah_ratesA])), (ah_goodsA, .inl (κ 0, 6, .inl w9)), (ah_ratesA, .inl (κ 0, 6, .inl w10)), (nwo, .inr (5, [.int nw_price, .int nw_months, .int nw_chest, .int nw_given, .int nw_fate, .ref nw_goodsA, .ref nw_ratesA])), (nw_goodsA, .inl (κ 0, 6, .inl nw_goods)), (nw_ratesA, .inl (κ 0, 6, .inl nw_rates))]) := hD
    refine lv_aload_n hx hb dX8_monthsTo_21 rfl (lv_at hl 0 rfl) ?_
    refine va_get (D := D) (ci := 8) (v := .ref aho) (C := RX8) (T := TX8) (N := 11) hx hb hts iw8 hown hK.1 hP 0 rfl rfl 4 (by decide) k0 (fun _ h9 => h9) rfl dX8_monthsTo_22 ?_
    obtain ⟨r12, hc13, hres⟩ := kb1_s hres
    refine krI_VN (As := []) (rest := []) (wr := [(kro, .inr (8, [.ref txo, .ref tlo, .ref dfo, .ref nwo, .ref aho, .ref pao, .ref iaA, .ref sco, .ref bko, .ref spo, .int kr_drawn])), (tlo, .inr (6, [.int tl_stands, .int tl_price, .int tl_death, .int tl_payers, .int tl_bids, .int tl_hostages, .int tl_bags, .int tl_bagMarks, .ref tl_goodsA, .ref tl_shyA, .ref tl_bidOfA, .ref tl_daysOfA])), (tl_goodsA, .inl (κ 0, 6, .inl tl_goods)), (tl_shyA, .inl (κ 0, 6, .inl tl_shy)), (tl_bidOfA, .inl (κ 0, 9, .inl tl_bidOf)), (tl_daysOfA, .inl (κ 0, 6, .inl tl_daysOf)), (nwo, .inr (5, [.int nw_price, .int nw_months, .int nw_chest, .int nw_given, .int nw_fate, .ref nw_goodsA, .ref nw_ratesA])), (nw_goodsA, .inl (κ 0, 6, .inl nw_goods)), (nw_ratesA, .inl (κ 0, 6, .inl nw_rates))]) ⟨hx, hb, hml, hown, hts⟩ hK (tX5_cost l D κ aho ah_goodsA ah_ratesA w4 w5 w6 w7 w8 w9 w10 r12 hc13) ⟨va_cnB 0 hts gX8_monthsTo_X5_cost_n192 rfl rfl rfl (hK.ml 24 rfl) k2 (by decide +kernel) ⟨(Nat.le_of_ble_eq_true rfl), (Nat.le_of_ble_eq_true rfl)⟩, k5, k6⟩ rfl rfl rfl hP hD hS hA [6, 7, 8] [0, 1, 2, 3, 4, 5, 9, 10, 11] rfl rfl rfl rfl (by decide) rfl hl.1 rfl (Nat.le_of_ble_eq_true rfl) dX8_monthsTo_25 ⟨Nat.zero_le _, Nat.zero_le _⟩ (fun H locs hP hD hS => ?_)
    have hP : va_P D vwCl ([(kro, .inr (8, [.ref txo, .ref tlo, .ref dfo, .ref nwo, .ref aho, .ref pao, .ref iaA, .ref sco, .ref bko, .ref spo, .int kr_drawn])), (tlo, .inr (6, [.int tl_stands, .int tl_price, .int tl_death, .int tl_payers, .int tl_bids, .int tl_hostages, .int tl_bags, .int tl_bagMarks, .ref tl_goodsA, .ref tl_shyA, .ref tl_bidOfA, .ref tl_daysOfA])), (tl_goodsA, .inl (κ 0, 6, .inl tl_goods)), (tl_shyA, .inl (κ 0, 6, .inl tl_shy)), (tl_bidOfA, .inl (κ 0, 9, .inl tl_bidOf)), (tl_daysOfA, .inl (κ 0, 6, .inl tl_daysOf)), (nwo, .inr (5, [.int nw_price, .int nw_months, .int nw_chest, .int nw_given, .int nw_fate, .ref nw_goodsA, .ref nw_ratesA])), (nw_goodsA, .inl (κ 0, 6, .inl nw_goods)), (nw_ratesA, .inl (κ 0, 6, .inl nw_rates)), (aho, .inr (5, [.int w4, .int w5, .int w6, .int w7, .int w8, .ref ah_goodsA, .ref ah_ratesA])), (ah_goodsA, .inl (κ 0, 6, .inl w9)), (ah_ratesA, .inl (κ 0, 6, .inl w10))]) H := hP
    have hD : va_D A ([(kro, .inr (8, [.ref txo, .ref tlo, .ref dfo, .ref nwo, .ref aho, .ref pao, .ref iaA, .ref sco, .ref bko, .ref spo, .int kr_drawn])), (tlo, .inr (6, [.int tl_stands, .int tl_price, .int tl_death, .int tl_payers, .int tl_bids, .int tl_hostages, .int tl_bags, .int tl_bagMarks, .ref tl_goodsA, .ref tl_shyA, .ref tl_bidOfA, .ref tl_daysOfA])), (tl_goodsA, .inl (κ 0, 6, .inl tl_goods)), (tl_shyA, .inl (κ 0, 6, .inl tl_shy)), (tl_bidOfA, .inl (κ 0, 9, .inl tl_bidOf)), (tl_daysOfA, .inl (κ 0, 6, .inl tl_daysOf)), (nwo, .inr (5, [.int nw_price, .int nw_months, .int nw_chest, .int nw_given, .int nw_fate, .ref nw_goodsA, .ref nw_ratesA])), (nw_goodsA, .inl (κ 0, 6, .inl nw_goods)), (nw_ratesA, .inl (κ 0, 6, .inl nw_rates)), (aho, .inr (5, [.int w4, .int w5, .int w6, .int w7, .int w8, .ref ah_goodsA, .ref ah_ratesA])), (ah_goodsA, .inl (κ 0, 6, .inl w9)), (ah_ratesA, .inl (κ 0, 6, .inl w10))]) := hD
    refine lv_istore_n (lv' := [(1, .int r12), (0, .ref kro)]) hx hb dX8_monthsTo_28 rfl hl (by decide) rfl (fun ls hl => ?_)
    refine lv_iconst (v := 0) hx hb dX8_monthsTo_29 (by decide) ?_
    refine lv_istore_n (lv' := [(2, .int 0), (1, .int r12), (0, .ref kro)]) hx hb dX8_monthsTo_30 rfl hl (by decide) rfl (fun ls hl => ?_)
    exact L31 N r12 0 w4 w5 w6 w7 w8 w9 w10 _ _ _ hP hD hS (lv_sub hl [2, 1, 0] rfl) hres
  · replace hres := og_t c3 hres
    refine lv_ldc (v := (-1000000003)) hx hb hown k7 dX8_monthsTo_7 ?_
    have hres := Option.some.inj hres
    have h0 := (Prod.mk.inj hres).1
    replace hres := (Prod.mk.inj hres).2
    have h1 := (Prod.mk.inj hres).1
    replace hres := (Prod.mk.inj hres).2
    have h2 := (Prod.mk.inj hres).1
    replace hres := (Prod.mk.inj hres).2
    have h3 := (Prod.mk.inj hres).1
    replace hres := (Prod.mk.inj hres).2
    have h4 := (Prod.mk.inj hres).1
    replace hres := (Prod.mk.inj hres).2
    have h5 := (Prod.mk.inj hres).1
    replace hres := (Prod.mk.inj hres).2
    have h6 := (Prod.mk.inj hres).1
    replace hres := (Prod.mk.inj hres).2
    have h7 := hres
    subst h0
    subst h1
    subst h2
    subst h3
    subst h4
    subst h5
    subst h6
    subst h7
    exact hret _ _ _ _ (vp_nar_int _) (hP.sub [3, 4, 5, 6, 7, 8, 9, 10, 11, 0, 1, 2] rfl) (hD.sub [3, 4, 5, 6, 7, 8, 9, 10, 11, 0, 1, 2] (by decide) rfl) hS dX8_monthsTo_9

def pX8_weigh (x1 : Int32) (x2 : Int32) (tl_bags : Int32) (sc_sets : Nat → Int32) (sc_weights : Nat → Int32) (sc_count : Int32) : Option (Int32 × (Nat → Int32) × (Nat → Int32) × Int32) :=
    (if x1 < 0 then
    some ((-1000000001), sc_sets, sc_weights, sc_count)
    else
    (if x1 < ((1 : Int32) <<< (tl_bags &&& 31)) then
    (if x2 < 0 then
    some ((-1000000002), sc_sets, sc_weights, sc_count)
    else
    (if x2 ≤ 999 then
    kb4 (pX3_add x1 x2 sc_sets sc_weights sc_count) fun r5 w6 w7 w8 =>
    (if r5 = 0 then
    some ((-1000000004), w6, w7, w8)
    else
    some (w8, w6, w7, w8))
    else
    some ((-1000000002), sc_sets, sc_weights, sc_count)))
    else
    some ((-1000000001), sc_sets, sc_weights, sc_count)))
set_option maxHeartbeats 8000000 in
set_option maxRecDepth 100000 in
theorem tX8_weigh (l : Launch) (D : va_G) (κ : Nat → ClassId) (kro : Nat) (txo : Nat) (tlo : Nat) (dfo : Nat) (nwo : Nat) (aho : Nat) (pao : Nat) (iaA : Nat) (sco : Nat) (bko : Nat) (spo : Nat) (tl_goodsA : Nat) (tl_shyA : Nat) (tl_bidOfA : Nat) (tl_daysOfA : Nat) (sc_setsA : Nat) (sc_weightsA : Nat) (sc_bagsShortByA : Nat) (kr_drawn : Int32) (tl_stands : Int32) (tl_price : Int32) (tl_death : Int32) (tl_payers : Int32) (tl_bids : Int32) (tl_hostages : Int32) (tl_bags : Int32) (tl_bagMarks : Int32) (tl_goods : Nat → Int32) (tl_shy : Nat → Int32) (tl_bidOf : Nat → Int32) (tl_daysOf : Nat → Int32) (sc_sets : Nat → Int32) (sc_weights : Nat → Int32) (sc_count : Int32) (sc_bagsShortBy : Nat → Int32) (sc_fits : Int32) (x1 : Int32) (x2 : Int32) (r0 : Int32) (z_sc_sets : Nat → Int32) (z_sc_weights : Nat → Int32) (z_sc_count : Int32) (hres : pX8_weigh x1 x2 tl_bags sc_sets sc_weights sc_count = some (r0, z_sc_sets, z_sc_weights, z_sc_count)) : krI l yX8_weigh wsX8_weigh { frames := 1, cells := 0, slots := 0, locals := 100 } D κ [.ref kro, .int x1, .int x2] ([(kro, .inr (8, [.ref txo, .ref tlo, .ref dfo, .ref nwo, .ref aho, .ref pao, .ref iaA, .ref sco, .ref bko, .ref spo, .int kr_drawn])), (tlo, .inr (6, [.int tl_stands, .int tl_price, .int tl_death, .int tl_payers, .int tl_bids, .int tl_hostages, .int tl_bags, .int tl_bagMarks, .ref tl_goodsA, .ref tl_shyA, .ref tl_bidOfA, .ref tl_daysOfA])), (tl_goodsA, .inl (κ 0, 6, .inl tl_goods)), (tl_shyA, .inl (κ 0, 6, .inl tl_shy)), (tl_bidOfA, .inl (κ 0, 9, .inl tl_bidOf)), (tl_daysOfA, .inl (κ 0, 6, .inl tl_daysOf)), (sco, .inr (3, [.ref sc_setsA, .ref sc_weightsA, .int sc_count, .ref sc_bagsShortByA, .int sc_fits])), (sc_setsA, .inl (κ 0, 6, .inl sc_sets)), (sc_weightsA, .inl (κ 0, 6, .inl sc_weights)), (sc_bagsShortByA, .inl (κ 0, 10, .inl sc_bagsShortBy))]) ([(kro, .inr (8, [.ref txo, .ref tlo, .ref dfo, .ref nwo, .ref aho, .ref pao, .ref iaA, .ref sco, .ref bko, .ref spo, .int kr_drawn])), (tlo, .inr (6, [.int tl_stands, .int tl_price, .int tl_death, .int tl_payers, .int tl_bids, .int tl_hostages, .int tl_bags, .int tl_bagMarks, .ref tl_goodsA, .ref tl_shyA, .ref tl_bidOfA, .ref tl_daysOfA])), (tl_goodsA, .inl (κ 0, 6, .inl tl_goods)), (tl_shyA, .inl (κ 0, 6, .inl tl_shy)), (tl_bidOfA, .inl (κ 0, 9, .inl tl_bidOf)), (tl_daysOfA, .inl (κ 0, 6, .inl tl_daysOf)), (sco, .inr (3, [.ref sc_setsA, .ref sc_weightsA, .int z_sc_count, .ref sc_bagsShortByA, .int sc_fits])), (sc_setsA, .inl (κ 0, 6, .inl z_sc_sets)), (sc_weightsA, .inl (κ 0, 6, .inl z_sc_weights)), (sc_bagsShortByA, .inl (κ 0, 10, .inl sc_bagsShortBy))]) r0 := by
  refine krI_of (cc := cX8_weigh) (maxL := 3) (rt := .int) (by decide) rfl (Nat.le_of_ble_eq_true rfl) ?_
  intro p e s m args below meth c A Q ls hx hb hml hown hts hK hA hret hP hD hS hl
  have hown : s.vm.findClass RX8 = some m.cls := hown
  have hl : lv_has ls 3 [(0, .ref kro), (1, .int x1), (2, .int x2)] := hl
  have iw8 : ∀ w ∈ u_ws RX8 TX8 11, w ∈ wsX8_weigh := (fun _ h => List.mem_cons_of_mem _ (List.mem_append_left _ (List.mem_append_left _ (List.mem_append_right _ h))))
  have iw6 : ∀ w ∈ u_ws RX6 TX6 12, w ∈ wsX8_weigh := (fun _ h => List.mem_cons_of_mem _ (List.mem_append_left _ (List.mem_append_right _ h)))
  have iw3 : ∀ w ∈ u_ws RX3 TX3 5, w ∈ wsX8_weigh := (fun _ h => List.mem_cons_of_mem _ (List.mem_append_right _ h))
  have k0 : (Cond.constant RX8 146 (-1000000001)).before args s = true := hts _ (List.mem_of_getElem? (i := 2) rfl)
  have k1 : (Cond.fieldLink RX8 19 "KingRansom" "tale" "LKingRansom$Tale;").before args s = true := hts _ (List.mem_of_getElem? (i := 1) rfl)
  have k2 : (Cond.constant RX8 71 (-1000000002)).before args s = true := hts _ (List.mem_of_getElem? (i := 3) rfl)
  have k3 : (Cond.fieldLink RX8 52 "KingRansom" "scales" "LKingRansom$Scales;").before args s = true := hts _ (List.mem_of_getElem? (i := 4) rfl)
  have k4 : (Cond.initialized RX3).before args s = true := hts _ (List.mem_of_getElem? (i := 7) rfl)
  have k5 : (Cond.instanceMethod yX3_add).before args s = true := hts _ (List.mem_of_getElem? (i := 6) rfl)
  have k6 : (Cond.selects RX3 yX3_add yX3_add).before args s = true := hts _ (List.mem_of_getElem? (i := 8) rfl)
  have k7 : (Cond.constant RX8 80 (-1000000004)).before args s = true := hts _ (List.mem_of_getElem? (i := 5) rfl)
  unfold pX8_weigh at hres
  refine lv_iload_n hx hb dX8_weigh_0 rfl (lv_at hl 1 rfl) ?_
  refine lv_if_lt (tgt := 17) hx hb dX8_weigh_1 (by decide) (fun c1 => ?_) (fun c1 => ?_)
  · replace hres := og_t c1 hres
    refine lv_ldc (v := (-1000000001)) hx hb hown k0 dX8_weigh_17 ?_
    have hres := Option.some.inj hres
    have h0 := (Prod.mk.inj hres).1
    replace hres := (Prod.mk.inj hres).2
    have h1 := (Prod.mk.inj hres).1
    replace hres := (Prod.mk.inj hres).2
    have h2 := (Prod.mk.inj hres).1
    replace hres := (Prod.mk.inj hres).2
    have h3 := hres
    subst h0
    subst h1
    subst h2
    subst h3
    exact hret _ _ _ _ (vp_nar_int _) hP hD hS dX8_weigh_19
  · replace hres := og_f c1 hres
    refine lv_iload_n hx hb dX8_weigh_4 rfl (lv_at hl 1 rfl) ?_
    refine lv_iconst (v := 1) hx hb dX8_weigh_5 (by decide) ?_
    refine lv_aload_n hx hb dX8_weigh_6 rfl (lv_at hl 0 rfl) ?_
    refine va_get (D := D) (ci := 8) (v := .ref tlo) (C := RX8) (T := TX8) (N := 11) hx hb hts iw8 hown hK.1 hP 0 rfl rfl 1 (by decide) k1 (fun _ h9 => h9) rfl dX8_weigh_7 ?_
    refine va_getN (D := D) (ci := 6) (v := .int tl_bags) (C := RX6) (T := TX6) (N := 12) hx hb hts iw6 hown hK.1 hP 1 rfl rfl 6 (by decide) (hK.fl 18 rfl) (fun _ h9 => h9) rfl dX8_weigh_10 ?_
    refine lv_ishl hx hb dX8_weigh_13 ?_
    refine lv_icmp_lt (tgt := 20) hx hb dX8_weigh_14 (by decide) (fun c2 => ?_) (fun c2 => ?_)
    · replace hres := og_t c2 hres
      refine lv_iload_n hx hb dX8_weigh_20 rfl (lv_at hl 2 rfl) ?_
      refine lv_if_lt (tgt := 31) hx hb dX8_weigh_21 (by decide) (fun c3 => ?_) (fun c3 => ?_)
      · replace hres := og_t c3 hres
        refine lv_ldc (v := (-1000000002)) hx hb hown k2 dX8_weigh_31 ?_
        have hres := Option.some.inj hres
        have h0 := (Prod.mk.inj hres).1
        replace hres := (Prod.mk.inj hres).2
        have h1 := (Prod.mk.inj hres).1
        replace hres := (Prod.mk.inj hres).2
        have h2 := (Prod.mk.inj hres).1
        replace hres := (Prod.mk.inj hres).2
        have h3 := hres
        subst h0
        subst h1
        subst h2
        subst h3
        exact hret _ _ _ _ (vp_nar_int _) hP hD hS dX8_weigh_33
      · replace hres := og_f c3 hres
        refine lv_iload_n hx hb dX8_weigh_24 rfl (lv_at hl 2 rfl) ?_
        refine lv_sipush (v := 999) hx hb dX8_weigh_25 (by decide) ?_
        refine lv_icmp_le (tgt := 34) hx hb dX8_weigh_28 (by decide) (fun c4 => ?_) (fun c4 => ?_)
        · replace hres := og_t c4 hres
          refine lv_aload_n hx hb dX8_weigh_34 rfl (lv_at hl 0 rfl) ?_
          refine va_get (D := D) (ci := 8) (v := .ref sco) (C := RX8) (T := TX8) (N := 11) hx hb hts iw8 hown hK.1 hP 0 rfl rfl 7 (by decide) k3 (fun _ h9 => h9) rfl dX8_weigh_35 ?_
          refine lv_iload_n hx hb dX8_weigh_38 rfl (lv_at hl 1 rfl) ?_
          refine lv_iload_n hx hb dX8_weigh_39 rfl (lv_at hl 2 rfl) ?_
          obtain ⟨r5, w6, w7, w8, hc9, hres⟩ := kb4_s hres
          refine krI_VN (As := [.int x1, .int x2]) (rest := []) (wr := [(kro, .inr (8, [.ref txo, .ref tlo, .ref dfo, .ref nwo, .ref aho, .ref pao, .ref iaA, .ref sco, .ref bko, .ref spo, .int kr_drawn])), (tlo, .inr (6, [.int tl_stands, .int tl_price, .int tl_death, .int tl_payers, .int tl_bids, .int tl_hostages, .int tl_bags, .int tl_bagMarks, .ref tl_goodsA, .ref tl_shyA, .ref tl_bidOfA, .ref tl_daysOfA])), (tl_goodsA, .inl (κ 0, 6, .inl tl_goods)), (tl_shyA, .inl (κ 0, 6, .inl tl_shy)), (tl_bidOfA, .inl (κ 0, 9, .inl tl_bidOf)), (tl_daysOfA, .inl (κ 0, 6, .inl tl_daysOf))]) ⟨hx, hb, hml, hown, hts⟩ hK (tX3_add l D κ sco sc_setsA sc_weightsA sc_bagsShortByA sc_sets sc_weights sc_count sc_bagsShortBy sc_fits x1 x2 r5 w6 w7 w8 hc9) ⟨va_cnB 2 hts gX8_weigh_X3_add_n246 rfl rfl rfl (hK.ml 30 rfl) k4 (by decide +kernel) ⟨(Nat.le_of_ble_eq_true rfl), (Nat.le_of_ble_eq_true rfl)⟩, k5, k6⟩ rfl rfl rfl hP hD hS hA [6, 7, 8, 9] [0, 1, 2, 3, 4, 5] rfl rfl rfl rfl (by decide) rfl hl.1 rfl (Nat.le_of_ble_eq_true rfl) dX8_weigh_40 ⟨Nat.zero_le _, Nat.zero_le _⟩ (fun H locs hP hD hS => ?_)
          have hP : va_P D vwCl ([(kro, .inr (8, [.ref txo, .ref tlo, .ref dfo, .ref nwo, .ref aho, .ref pao, .ref iaA, .ref sco, .ref bko, .ref spo, .int kr_drawn])), (tlo, .inr (6, [.int tl_stands, .int tl_price, .int tl_death, .int tl_payers, .int tl_bids, .int tl_hostages, .int tl_bags, .int tl_bagMarks, .ref tl_goodsA, .ref tl_shyA, .ref tl_bidOfA, .ref tl_daysOfA])), (tl_goodsA, .inl (κ 0, 6, .inl tl_goods)), (tl_shyA, .inl (κ 0, 6, .inl tl_shy)), (tl_bidOfA, .inl (κ 0, 9, .inl tl_bidOf)), (tl_daysOfA, .inl (κ 0, 6, .inl tl_daysOf)), (sco, .inr (3, [.ref sc_setsA, .ref sc_weightsA, .int w8, .ref sc_bagsShortByA, .int sc_fits])), (sc_setsA, .inl (κ 0, 6, .inl w6)), (sc_weightsA, .inl (κ 0, 6, .inl w7)), (sc_bagsShortByA, .inl (κ 0, 10, .inl sc_bagsShortBy))]) H := hP
          have hD : va_D A ([(kro, .inr (8, [.ref txo, .ref tlo, .ref dfo, .ref nwo, .ref aho, .ref pao, .ref iaA, .ref sco, .ref bko, .ref spo, .int kr_drawn])), (tlo, .inr (6, [.int tl_stands, .int tl_price, .int tl_death, .int tl_payers, .int tl_bids, .int tl_hostages, .int tl_bags, .int tl_bagMarks, .ref tl_goodsA, .ref tl_shyA, .ref tl_bidOfA, .ref tl_daysOfA])), (tl_goodsA, .inl (κ 0, 6, .inl tl_goods)), (tl_shyA, .inl (κ 0, 6, .inl tl_shy)), (tl_bidOfA, .inl (κ 0, 9, .inl tl_bidOf)), (tl_daysOfA, .inl (κ 0, 6, .inl tl_daysOf)), (sco, .inr (3, [.ref sc_setsA, .ref sc_weightsA, .int w8, .ref sc_bagsShortByA, .int sc_fits])), (sc_setsA, .inl (κ 0, 6, .inl w6)), (sc_weightsA, .inl (κ 0, 6, .inl w7)), (sc_bagsShortByA, .inl (κ 0, 10, .inl sc_bagsShortBy))]) := hD
          refine lv_if_eq (tgt := 56) hx hb dX8_weigh_43 (by decide) (fun c10 => ?_) (fun c10 => ?_)
          · replace hres := og_t c10 hres
            refine lv_ldc (v := (-1000000004)) hx hb hown k7 dX8_weigh_56 ?_
            have hres := Option.some.inj hres
            have h0 := (Prod.mk.inj hres).1
            replace hres := (Prod.mk.inj hres).2
            have h1 := (Prod.mk.inj hres).1
            replace hres := (Prod.mk.inj hres).2
            have h2 := (Prod.mk.inj hres).1
            replace hres := (Prod.mk.inj hres).2
            have h3 := hres
            subst h0
            subst h1
            subst h2
            subst h3
            exact hret _ _ _ _ (vp_nar_int _) hP hD hS dX8_weigh_58
          · replace hres := og_f c10 hres
            refine lv_aload_n hx hb dX8_weigh_46 rfl (lv_at hl 0 rfl) ?_
            refine va_get (D := D) (ci := 8) (v := .ref sco) (C := RX8) (T := TX8) (N := 11) hx hb hts iw8 hown hK.1 hP 0 rfl rfl 7 (by decide) k3 (fun _ h9 => h9) rfl dX8_weigh_47 ?_
            refine va_getN (D := D) (ci := 3) (v := .int w8) (C := RX3) (T := TX3) (N := 5) hx hb hts iw3 hown hK.1 hP 6 rfl rfl 2 (by decide) (hK.fl 39 rfl) (fun _ h9 => h9) rfl dX8_weigh_50 ?_
            refine lv_goto (tgt := 58) hx hb dX8_weigh_53 (by decide) ?_
            have hres := Option.some.inj hres
            have h0 := (Prod.mk.inj hres).1
            replace hres := (Prod.mk.inj hres).2
            have h1 := (Prod.mk.inj hres).1
            replace hres := (Prod.mk.inj hres).2
            have h2 := (Prod.mk.inj hres).1
            replace hres := (Prod.mk.inj hres).2
            have h3 := hres
            subst h0
            subst h1
            subst h2
            subst h3
            exact hret _ _ _ _ (vp_nar_int _) hP hD hS dX8_weigh_58
        · replace hres := og_f c4 hres
          refine lv_ldc (v := (-1000000002)) hx hb hown k2 dX8_weigh_31 ?_
          have hres := Option.some.inj hres
          have h0 := (Prod.mk.inj hres).1
          replace hres := (Prod.mk.inj hres).2
          have h1 := (Prod.mk.inj hres).1
          replace hres := (Prod.mk.inj hres).2
          have h2 := (Prod.mk.inj hres).1
          replace hres := (Prod.mk.inj hres).2
          have h3 := hres
          subst h0
          subst h1
          subst h2
          subst h3
          exact hret _ _ _ _ (vp_nar_int _) hP hD hS dX8_weigh_33
    · replace hres := og_f c2 hres
      refine lv_ldc (v := (-1000000001)) hx hb hown k0 dX8_weigh_17 ?_
      have hres := Option.some.inj hres
      have h0 := (Prod.mk.inj hres).1
      replace hres := (Prod.mk.inj hres).2
      have h1 := (Prod.mk.inj hres).1
      replace hres := (Prod.mk.inj hres).2
      have h2 := (Prod.mk.inj hres).1
      replace hres := (Prod.mk.inj hres).2
      have h3 := hres
      subst h0
      subst h1
      subst h2
      subst h3
      exact hret _ _ _ _ (vp_nar_int _) hP hD hS dX8_weigh_19

def pX8_isShort (N : Nat) (x1 : Int32) (tl_bags : Int32) (tl_bagMarks : Int32) (sc_sets : Nat → Int32) (sc_weights : Nat → Int32) (sc_count : Int32) (sc_bagsShortBy : Nat → Int32) : Option (Int32 × (Nat → Int32) × Int32) :=
    kb2 (pX3_findShort N sc_sets sc_weights sc_count sc_bagsShortBy tl_bags tl_bagMarks) fun w1 w2 =>
    (if x1 = (-1) then
    some (w2, w1, w2)
    else
    (if x1 = (-2) then
    kb1 (pX3_nextSet N w1 w2 tl_bags) fun r8 =>
    some (r8, w1, w2)
    else
    kb1 (pX3_fitAt N x1 w1 tl_bags) fun r6 =>
    some (r6, w1, w2)))
set_option maxHeartbeats 8000000 in
set_option maxRecDepth 100000 in
theorem tX8_isShort (l : Launch) (D : va_G) (κ : Nat → ClassId) (kro : Nat) (txo : Nat) (tlo : Nat) (dfo : Nat) (nwo : Nat) (aho : Nat) (pao : Nat) (iaA : Nat) (sco : Nat) (bko : Nat) (spo : Nat) (tl_goodsA : Nat) (tl_shyA : Nat) (tl_bidOfA : Nat) (tl_daysOfA : Nat) (sc_setsA : Nat) (sc_weightsA : Nat) (sc_bagsShortByA : Nat) (N : Nat) (kr_drawn : Int32) (tl_stands : Int32) (tl_price : Int32) (tl_death : Int32) (tl_payers : Int32) (tl_bids : Int32) (tl_hostages : Int32) (tl_bags : Int32) (tl_bagMarks : Int32) (tl_goods : Nat → Int32) (tl_shy : Nat → Int32) (tl_bidOf : Nat → Int32) (tl_daysOf : Nat → Int32) (sc_sets : Nat → Int32) (sc_weights : Nat → Int32) (sc_count : Int32) (sc_bagsShortBy : Nat → Int32) (sc_fits : Int32) (x1 : Int32) (r0 : Int32) (z_sc_bagsShortBy : Nat → Int32) (z_sc_fits : Int32) (hres : pX8_isShort N x1 tl_bags tl_bagMarks sc_sets sc_weights sc_count sc_bagsShortBy = some (r0, z_sc_bagsShortBy, z_sc_fits)) : krI l yX8_isShort wsX8_isShort { frames := 3, cells := 0, slots := 0, locals := 300 } D κ [.ref kro, .int x1] ([(kro, .inr (8, [.ref txo, .ref tlo, .ref dfo, .ref nwo, .ref aho, .ref pao, .ref iaA, .ref sco, .ref bko, .ref spo, .int kr_drawn])), (tlo, .inr (6, [.int tl_stands, .int tl_price, .int tl_death, .int tl_payers, .int tl_bids, .int tl_hostages, .int tl_bags, .int tl_bagMarks, .ref tl_goodsA, .ref tl_shyA, .ref tl_bidOfA, .ref tl_daysOfA])), (tl_goodsA, .inl (κ 0, 6, .inl tl_goods)), (tl_shyA, .inl (κ 0, 6, .inl tl_shy)), (tl_bidOfA, .inl (κ 0, 9, .inl tl_bidOf)), (tl_daysOfA, .inl (κ 0, 6, .inl tl_daysOf)), (sco, .inr (3, [.ref sc_setsA, .ref sc_weightsA, .int sc_count, .ref sc_bagsShortByA, .int sc_fits])), (sc_setsA, .inl (κ 0, 6, .inl sc_sets)), (sc_weightsA, .inl (κ 0, 6, .inl sc_weights)), (sc_bagsShortByA, .inl (κ 0, 10, .inl sc_bagsShortBy))]) ([(kro, .inr (8, [.ref txo, .ref tlo, .ref dfo, .ref nwo, .ref aho, .ref pao, .ref iaA, .ref sco, .ref bko, .ref spo, .int kr_drawn])), (tlo, .inr (6, [.int tl_stands, .int tl_price, .int tl_death, .int tl_payers, .int tl_bids, .int tl_hostages, .int tl_bags, .int tl_bagMarks, .ref tl_goodsA, .ref tl_shyA, .ref tl_bidOfA, .ref tl_daysOfA])), (tl_goodsA, .inl (κ 0, 6, .inl tl_goods)), (tl_shyA, .inl (κ 0, 6, .inl tl_shy)), (tl_bidOfA, .inl (κ 0, 9, .inl tl_bidOf)), (tl_daysOfA, .inl (κ 0, 6, .inl tl_daysOf)), (sco, .inr (3, [.ref sc_setsA, .ref sc_weightsA, .int sc_count, .ref sc_bagsShortByA, .int z_sc_fits])), (sc_setsA, .inl (κ 0, 6, .inl sc_sets)), (sc_weightsA, .inl (κ 0, 6, .inl sc_weights)), (sc_bagsShortByA, .inl (κ 0, 10, .inl z_sc_bagsShortBy))]) r0 := by
  refine krI_of (cc := cX8_isShort) (maxL := 2) (rt := .int) (by decide) rfl (Nat.le_of_ble_eq_true rfl) ?_
  intro p e s m args below meth c A Q ls hx hb hml hown hts hK hA hret hP hD hS hl
  have hown : s.vm.findClass RX8 = some m.cls := hown
  have hl : lv_has ls 2 [(0, .ref kro), (1, .int x1)] := hl
  have iw8 : ∀ w ∈ u_ws RX8 TX8 11, w ∈ wsX8_isShort := (fun _ h => List.mem_cons_of_mem _ (List.mem_append_left _ (List.mem_append_left _ (List.mem_append_right _ h))))
  have iw3 : ∀ w ∈ u_ws RX3 TX3 5, w ∈ wsX8_isShort := (fun _ h => List.mem_cons_of_mem _ (List.mem_append_left _ (List.mem_append_right _ h)))
  have k0 : (Cond.fieldLink RX8 52 "KingRansom" "scales" "LKingRansom$Scales;").before args s = true := hts _ (List.mem_of_getElem? (i := 1) rfl)
  have k1 : (Cond.fieldLink RX8 19 "KingRansom" "tale" "LKingRansom$Tale;").before args s = true := hts _ (List.mem_of_getElem? (i := 2) rfl)
  have k2 : (Cond.initialized RX3).before args s = true := hts _ (List.mem_of_getElem? (i := 4) rfl)
  have k3 : (Cond.instanceMethod yX3_findShort).before args s = true := hts _ (List.mem_of_getElem? (i := 3) rfl)
  have k4 : (Cond.selects RX3 yX3_findShort yX3_findShort).before args s = true := hts _ (List.mem_of_getElem? (i := 5) rfl)
  have k5 : (Cond.instanceMethod yX3_fitAt).before args s = true := hts _ (List.mem_of_getElem? (i := 34) rfl)
  have k6 : (Cond.selects RX3 yX3_fitAt yX3_fitAt).before args s = true := hts _ (List.mem_of_getElem? (i := 35) rfl)
  have k7 : (Cond.instanceMethod yX3_nextSet).before args s = true := hts _ (List.mem_of_getElem? (i := 23) rfl)
  have k8 : (Cond.selects RX3 yX3_nextSet yX3_nextSet).before args s = true := hts _ (List.mem_of_getElem? (i := 24) rfl)
  unfold pX8_isShort at hres
  refine lv_aload_n hx hb dX8_isShort_0 rfl (lv_at hl 0 rfl) ?_
  refine va_get (D := D) (ci := 8) (v := .ref sco) (C := RX8) (T := TX8) (N := 11) hx hb hts iw8 hown hK.1 hP 0 rfl rfl 7 (by decide) k0 (fun _ h9 => h9) rfl dX8_isShort_1 ?_
  refine lv_aload_n hx hb dX8_isShort_4 rfl (lv_at hl 0 rfl) ?_
  refine va_get (D := D) (ci := 8) (v := .ref tlo) (C := RX8) (T := TX8) (N := 11) hx hb hts iw8 hown hK.1 hP 0 rfl rfl 1 (by decide) k1 (fun _ h9 => h9) rfl dX8_isShort_5 ?_
  obtain ⟨w1, w2, hc3, hres⟩ := kb2_s hres
  refine krV_VN (As := [.ref tlo]) (rest := []) (wr := [(kro, .inr (8, [.ref txo, .ref tlo, .ref dfo, .ref nwo, .ref aho, .ref pao, .ref iaA, .ref sco, .ref bko, .ref spo, .int kr_drawn]))]) ⟨hx, hb, hml, hown, hts⟩ hK (tX3_findShort l D κ sco sc_setsA sc_weightsA sc_bagsShortByA tlo tl_goodsA tl_shyA tl_bidOfA tl_daysOfA N sc_sets sc_weights sc_count sc_bagsShortBy sc_fits tl_stands tl_price tl_death tl_payers tl_bids tl_hostages tl_bags tl_bagMarks tl_goods tl_shy tl_bidOf tl_daysOf w1 w2 hc3) ⟨va_cnB 1 hts gX8_isShort_X3_findShort_n249 rfl rfl rfl (hK.ml 31 rfl) k2 (by decide +kernel) ⟨(Nat.le_of_ble_eq_true rfl), (Nat.le_of_ble_eq_true rfl)⟩, k3, k4⟩ rfl rfl rfl hP hD hS hA [6, 7, 8, 9, 1, 2, 3, 4, 5] [0] rfl rfl rfl rfl (by decide) rfl hl.1 rfl (Nat.le_of_ble_eq_true rfl) dX8_isShort_8 ⟨Nat.zero_le _, Nat.zero_le _⟩ (fun H locs hP hD hS => ?_)
  have hP : va_P D vwCl ([(kro, .inr (8, [.ref txo, .ref tlo, .ref dfo, .ref nwo, .ref aho, .ref pao, .ref iaA, .ref sco, .ref bko, .ref spo, .int kr_drawn])), (sco, .inr (3, [.ref sc_setsA, .ref sc_weightsA, .int sc_count, .ref sc_bagsShortByA, .int w2])), (sc_setsA, .inl (κ 0, 6, .inl sc_sets)), (sc_weightsA, .inl (κ 0, 6, .inl sc_weights)), (sc_bagsShortByA, .inl (κ 0, 10, .inl w1)), (tlo, .inr (6, [.int tl_stands, .int tl_price, .int tl_death, .int tl_payers, .int tl_bids, .int tl_hostages, .int tl_bags, .int tl_bagMarks, .ref tl_goodsA, .ref tl_shyA, .ref tl_bidOfA, .ref tl_daysOfA])), (tl_goodsA, .inl (κ 0, 6, .inl tl_goods)), (tl_shyA, .inl (κ 0, 6, .inl tl_shy)), (tl_bidOfA, .inl (κ 0, 9, .inl tl_bidOf)), (tl_daysOfA, .inl (κ 0, 6, .inl tl_daysOf))]) H := hP
  have hD : va_D A ([(kro, .inr (8, [.ref txo, .ref tlo, .ref dfo, .ref nwo, .ref aho, .ref pao, .ref iaA, .ref sco, .ref bko, .ref spo, .int kr_drawn])), (sco, .inr (3, [.ref sc_setsA, .ref sc_weightsA, .int sc_count, .ref sc_bagsShortByA, .int w2])), (sc_setsA, .inl (κ 0, 6, .inl sc_sets)), (sc_weightsA, .inl (κ 0, 6, .inl sc_weights)), (sc_bagsShortByA, .inl (κ 0, 10, .inl w1)), (tlo, .inr (6, [.int tl_stands, .int tl_price, .int tl_death, .int tl_payers, .int tl_bids, .int tl_hostages, .int tl_bags, .int tl_bagMarks, .ref tl_goodsA, .ref tl_shyA, .ref tl_bidOfA, .ref tl_daysOfA])), (tl_goodsA, .inl (κ 0, 6, .inl tl_goods)), (tl_shyA, .inl (κ 0, 6, .inl tl_shy)), (tl_bidOfA, .inl (κ 0, 9, .inl tl_bidOf)), (tl_daysOfA, .inl (κ 0, 6, .inl tl_daysOf))]) := hD
  refine lv_iload_n hx hb dX8_isShort_11 rfl (lv_at hl 1 rfl) ?_
  refine lv_iconst (v := (-1)) hx hb dX8_isShort_12 (by decide) ?_
  refine lv_icmp_ne (tgt := 24) hx hb dX8_isShort_13 (by decide) (fun c4 => ?_) (fun c4 => ?_)
  · replace hres := og_f c4 hres
    refine lv_iload_n hx hb dX8_isShort_24 rfl (lv_at hl 1 rfl) ?_
    refine lv_bipush (v := (-2)) hx hb dX8_isShort_25 (by decide) ?_
    refine lv_icmp_ne (tgt := 44) hx hb dX8_isShort_27 (by decide) (fun c5 => ?_) (fun c5 => ?_)
    · replace hres := og_f c5 hres
      refine lv_aload_n hx hb dX8_isShort_44 rfl (lv_at hl 0 rfl) ?_
      refine va_get (D := D) (ci := 8) (v := .ref sco) (C := RX8) (T := TX8) (N := 11) hx hb hts iw8 hown hK.1 hP 0 rfl rfl 7 (by decide) k0 (fun _ h9 => h9) rfl dX8_isShort_45 ?_
      refine lv_iload_n hx hb dX8_isShort_48 rfl (lv_at hl 1 rfl) ?_
      refine lv_aload_n hx hb dX8_isShort_49 rfl (lv_at hl 0 rfl) ?_
      refine va_get (D := D) (ci := 8) (v := .ref tlo) (C := RX8) (T := TX8) (N := 11) hx hb hts iw8 hown hK.1 hP 0 rfl rfl 1 (by decide) k1 (fun _ h9 => h9) rfl dX8_isShort_50 ?_
      obtain ⟨r6, hc7, hres⟩ := kb1_s hres
      refine krI_VN (As := [.int x1, .ref tlo]) (rest := []) (wr := [(kro, .inr (8, [.ref txo, .ref tlo, .ref dfo, .ref nwo, .ref aho, .ref pao, .ref iaA, .ref sco, .ref bko, .ref spo, .int kr_drawn]))]) ⟨hx, hb, hml, hown, hts⟩ hK (tX3_fitAt l D κ sco sc_setsA sc_weightsA sc_bagsShortByA tlo tl_goodsA tl_shyA tl_bidOfA tl_daysOfA N sc_sets sc_weights sc_count w1 w2 tl_stands tl_price tl_death tl_payers tl_bids tl_hostages tl_bags tl_bagMarks tl_goods tl_shy tl_bidOf tl_daysOf x1 r6 hc7) ⟨va_cnB 2 hts gX8_isShort_X3_fitAt_n259 rfl rfl rfl (hK.ml 33 rfl) k2 (by decide +kernel) ⟨(Nat.le_of_ble_eq_true rfl), (Nat.le_of_ble_eq_true rfl)⟩, k5, k6⟩ rfl rfl rfl hP hD hS hA [1, 2, 3, 4, 5, 6, 7, 8, 9] [0] rfl rfl rfl rfl (by decide) rfl hl.1 rfl (Nat.le_of_ble_eq_true rfl) dX8_isShort_53 ⟨Nat.zero_le _, Nat.zero_le _⟩ (fun H locs hP hD hS => ?_)
      have hP : va_P D vwCl ([(kro, .inr (8, [.ref txo, .ref tlo, .ref dfo, .ref nwo, .ref aho, .ref pao, .ref iaA, .ref sco, .ref bko, .ref spo, .int kr_drawn])), (sco, .inr (3, [.ref sc_setsA, .ref sc_weightsA, .int sc_count, .ref sc_bagsShortByA, .int w2])), (sc_setsA, .inl (κ 0, 6, .inl sc_sets)), (sc_weightsA, .inl (κ 0, 6, .inl sc_weights)), (sc_bagsShortByA, .inl (κ 0, 10, .inl w1)), (tlo, .inr (6, [.int tl_stands, .int tl_price, .int tl_death, .int tl_payers, .int tl_bids, .int tl_hostages, .int tl_bags, .int tl_bagMarks, .ref tl_goodsA, .ref tl_shyA, .ref tl_bidOfA, .ref tl_daysOfA])), (tl_goodsA, .inl (κ 0, 6, .inl tl_goods)), (tl_shyA, .inl (κ 0, 6, .inl tl_shy)), (tl_bidOfA, .inl (κ 0, 9, .inl tl_bidOf)), (tl_daysOfA, .inl (κ 0, 6, .inl tl_daysOf))]) H := hP
      have hD : va_D A ([(kro, .inr (8, [.ref txo, .ref tlo, .ref dfo, .ref nwo, .ref aho, .ref pao, .ref iaA, .ref sco, .ref bko, .ref spo, .int kr_drawn])), (sco, .inr (3, [.ref sc_setsA, .ref sc_weightsA, .int sc_count, .ref sc_bagsShortByA, .int w2])), (sc_setsA, .inl (κ 0, 6, .inl sc_sets)), (sc_weightsA, .inl (κ 0, 6, .inl sc_weights)), (sc_bagsShortByA, .inl (κ 0, 10, .inl w1)), (tlo, .inr (6, [.int tl_stands, .int tl_price, .int tl_death, .int tl_payers, .int tl_bids, .int tl_hostages, .int tl_bags, .int tl_bagMarks, .ref tl_goodsA, .ref tl_shyA, .ref tl_bidOfA, .ref tl_daysOfA])), (tl_goodsA, .inl (κ 0, 6, .inl tl_goods)), (tl_shyA, .inl (κ 0, 6, .inl tl_shy)), (tl_bidOfA, .inl (κ 0, 9, .inl tl_bidOf)), (tl_daysOfA, .inl (κ 0, 6, .inl tl_daysOf))]) := hD
      have hres := Option.some.inj hres
      have h0 := (Prod.mk.inj hres).1
      replace hres := (Prod.mk.inj hres).2
      have h1 := (Prod.mk.inj hres).1
      replace hres := (Prod.mk.inj hres).2
      have h2 := hres
      subst h0
      subst h1
      subst h2
      exact hret _ _ _ _ (vp_nar_int _) (hP.sub [0, 5, 6, 7, 8, 9, 1, 2, 3, 4] rfl) (hD.sub [0, 5, 6, 7, 8, 9, 1, 2, 3, 4] (by decide) rfl) hS dX8_isShort_56
    · replace hres := og_t c5 hres
      refine lv_aload_n hx hb dX8_isShort_30 rfl (lv_at hl 0 rfl) ?_
      refine va_get (D := D) (ci := 8) (v := .ref sco) (C := RX8) (T := TX8) (N := 11) hx hb hts iw8 hown hK.1 hP 0 rfl rfl 7 (by decide) k0 (fun _ h9 => h9) rfl dX8_isShort_31 ?_
      refine lv_aload_n hx hb dX8_isShort_34 rfl (lv_at hl 0 rfl) ?_
      refine va_get (D := D) (ci := 8) (v := .ref tlo) (C := RX8) (T := TX8) (N := 11) hx hb hts iw8 hown hK.1 hP 0 rfl rfl 1 (by decide) k1 (fun _ h9 => h9) rfl dX8_isShort_35 ?_
      obtain ⟨r8, hc9, hres⟩ := kb1_s hres
      refine krI_VN (As := [.ref tlo]) (rest := []) (wr := [(kro, .inr (8, [.ref txo, .ref tlo, .ref dfo, .ref nwo, .ref aho, .ref pao, .ref iaA, .ref sco, .ref bko, .ref spo, .int kr_drawn]))]) ⟨hx, hb, hml, hown, hts⟩ hK (tX3_nextSet l D κ sco sc_setsA sc_weightsA sc_bagsShortByA tlo tl_goodsA tl_shyA tl_bidOfA tl_daysOfA N sc_sets sc_weights sc_count w1 w2 tl_stands tl_price tl_death tl_payers tl_bids tl_hostages tl_bags tl_bagMarks tl_goods tl_shy tl_bidOf tl_daysOf r8 hc9) ⟨va_cnB 1 hts gX8_isShort_X3_nextSet_n255 rfl rfl rfl (hK.ml 32 rfl) k2 (by decide +kernel) ⟨(Nat.le_of_ble_eq_true rfl), (Nat.le_of_ble_eq_true rfl)⟩, k7, k8⟩ rfl rfl rfl hP hD hS hA [1, 2, 3, 4, 5, 6, 7, 8, 9] [0] rfl rfl rfl rfl (by decide) rfl hl.1 rfl (Nat.le_of_ble_eq_true rfl) dX8_isShort_38 ⟨Nat.zero_le _, Nat.zero_le _⟩ (fun H locs hP hD hS => ?_)
      have hP : va_P D vwCl ([(kro, .inr (8, [.ref txo, .ref tlo, .ref dfo, .ref nwo, .ref aho, .ref pao, .ref iaA, .ref sco, .ref bko, .ref spo, .int kr_drawn])), (sco, .inr (3, [.ref sc_setsA, .ref sc_weightsA, .int sc_count, .ref sc_bagsShortByA, .int w2])), (sc_setsA, .inl (κ 0, 6, .inl sc_sets)), (sc_weightsA, .inl (κ 0, 6, .inl sc_weights)), (sc_bagsShortByA, .inl (κ 0, 10, .inl w1)), (tlo, .inr (6, [.int tl_stands, .int tl_price, .int tl_death, .int tl_payers, .int tl_bids, .int tl_hostages, .int tl_bags, .int tl_bagMarks, .ref tl_goodsA, .ref tl_shyA, .ref tl_bidOfA, .ref tl_daysOfA])), (tl_goodsA, .inl (κ 0, 6, .inl tl_goods)), (tl_shyA, .inl (κ 0, 6, .inl tl_shy)), (tl_bidOfA, .inl (κ 0, 9, .inl tl_bidOf)), (tl_daysOfA, .inl (κ 0, 6, .inl tl_daysOf))]) H := hP
      have hD : va_D A ([(kro, .inr (8, [.ref txo, .ref tlo, .ref dfo, .ref nwo, .ref aho, .ref pao, .ref iaA, .ref sco, .ref bko, .ref spo, .int kr_drawn])), (sco, .inr (3, [.ref sc_setsA, .ref sc_weightsA, .int sc_count, .ref sc_bagsShortByA, .int w2])), (sc_setsA, .inl (κ 0, 6, .inl sc_sets)), (sc_weightsA, .inl (κ 0, 6, .inl sc_weights)), (sc_bagsShortByA, .inl (κ 0, 10, .inl w1)), (tlo, .inr (6, [.int tl_stands, .int tl_price, .int tl_death, .int tl_payers, .int tl_bids, .int tl_hostages, .int tl_bags, .int tl_bagMarks, .ref tl_goodsA, .ref tl_shyA, .ref tl_bidOfA, .ref tl_daysOfA])), (tl_goodsA, .inl (κ 0, 6, .inl tl_goods)), (tl_shyA, .inl (κ 0, 6, .inl tl_shy)), (tl_bidOfA, .inl (κ 0, 9, .inl tl_bidOf)), (tl_daysOfA, .inl (κ 0, 6, .inl tl_daysOf))]) := hD
      refine lv_goto (tgt := 56) hx hb dX8_isShort_41 (by decide) ?_
      have hres := Option.some.inj hres
      have h0 := (Prod.mk.inj hres).1
      replace hres := (Prod.mk.inj hres).2
      have h1 := (Prod.mk.inj hres).1
      replace hres := (Prod.mk.inj hres).2
      have h2 := hres
      subst h0
      subst h1
      subst h2
      exact hret _ _ _ _ (vp_nar_int _) (hP.sub [0, 5, 6, 7, 8, 9, 1, 2, 3, 4] rfl) (hD.sub [0, 5, 6, 7, 8, 9, 1, 2, 3, 4] (by decide) rfl) hS dX8_isShort_56
  · replace hres := og_t c4 hres
    refine lv_aload_n hx hb dX8_isShort_16 rfl (lv_at hl 0 rfl) ?_
    refine va_get (D := D) (ci := 8) (v := .ref sco) (C := RX8) (T := TX8) (N := 11) hx hb hts iw8 hown hK.1 hP 0 rfl rfl 7 (by decide) k0 (fun _ h9 => h9) rfl dX8_isShort_17 ?_
    refine va_getN (D := D) (ci := 3) (v := .int w2) (C := RX3) (T := TX3) (N := 5) hx hb hts iw3 hown hK.1 hP 1 rfl rfl 4 (by decide) (hK.fl 40 rfl) (fun _ h9 => h9) rfl dX8_isShort_20 ?_
    have hres := Option.some.inj hres
    have h0 := (Prod.mk.inj hres).1
    replace hres := (Prod.mk.inj hres).2
    have h1 := (Prod.mk.inj hres).1
    replace hres := (Prod.mk.inj hres).2
    have h2 := hres
    subst h0
    subst h1
    subst h2
    exact hret _ _ _ _ (vp_nar_int _) (hP.sub [0, 5, 6, 7, 8, 9, 1, 2, 3, 4] rfl) (hD.sub [0, 5, 6, 7, 8, 9, 1, 2, 3, 4] (by decide) rfl) hS dX8_isShort_23

def pX8_write (x1 : Int32) (x2 : Int32) (tl_payers : Int32) (bk_whose : Nat → Int32) (bk_goods : Nat → Int32) (bk_count : Int32) : Option (Int32 × (Nat → Int32) × (Nat → Int32) × Int32) :=
    kb1 (pX8_isPayer x1 tl_payers) fun r1 =>
    (if r1 = 0 then
    some ((-1000000001), bk_whose, bk_goods, bk_count)
    else
    (if x2 < 0 then
    some ((-1000000002), bk_whose, bk_goods, bk_count)
    else
    (if x2 ≤ 999 then
    kb4 (pX0_add x1 x2 bk_whose bk_goods bk_count) fun r6 w7 w8 w9 =>
    (if r6 = 0 then
    some ((-1000000004), w7, w8, w9)
    else
    some (w9, w7, w8, w9))
    else
    some ((-1000000002), bk_whose, bk_goods, bk_count))))
set_option maxHeartbeats 8000000 in
set_option maxRecDepth 100000 in
theorem tX8_write (l : Launch) (D : va_G) (κ : Nat → ClassId) (kro : Nat) (txo : Nat) (tlo : Nat) (dfo : Nat) (nwo : Nat) (aho : Nat) (pao : Nat) (iaA : Nat) (sco : Nat) (bko : Nat) (spo : Nat) (tl_goodsA : Nat) (tl_shyA : Nat) (tl_bidOfA : Nat) (tl_daysOfA : Nat) (bk_whoseA : Nat) (bk_goodsA : Nat) (kr_drawn : Int32) (tl_stands : Int32) (tl_price : Int32) (tl_death : Int32) (tl_payers : Int32) (tl_bids : Int32) (tl_hostages : Int32) (tl_bags : Int32) (tl_bagMarks : Int32) (tl_goods : Nat → Int32) (tl_shy : Nat → Int32) (tl_bidOf : Nat → Int32) (tl_daysOf : Nat → Int32) (bk_whose : Nat → Int32) (bk_goods : Nat → Int32) (bk_count : Int32) (x1 : Int32) (x2 : Int32) (r0 : Int32) (z_bk_whose : Nat → Int32) (z_bk_goods : Nat → Int32) (z_bk_count : Int32) (hres : pX8_write x1 x2 tl_payers bk_whose bk_goods bk_count = some (r0, z_bk_whose, z_bk_goods, z_bk_count)) : krI l yX8_write wsX8_write { frames := 1, cells := 0, slots := 0, locals := 100 } D κ [.ref kro, .int x1, .int x2] ([(kro, .inr (8, [.ref txo, .ref tlo, .ref dfo, .ref nwo, .ref aho, .ref pao, .ref iaA, .ref sco, .ref bko, .ref spo, .int kr_drawn])), (tlo, .inr (6, [.int tl_stands, .int tl_price, .int tl_death, .int tl_payers, .int tl_bids, .int tl_hostages, .int tl_bags, .int tl_bagMarks, .ref tl_goodsA, .ref tl_shyA, .ref tl_bidOfA, .ref tl_daysOfA])), (tl_goodsA, .inl (κ 0, 6, .inl tl_goods)), (tl_shyA, .inl (κ 0, 6, .inl tl_shy)), (tl_bidOfA, .inl (κ 0, 9, .inl tl_bidOf)), (tl_daysOfA, .inl (κ 0, 6, .inl tl_daysOf)), (bko, .inr (0, [.ref bk_whoseA, .ref bk_goodsA, .int bk_count])), (bk_whoseA, .inl (κ 0, 15, .inl bk_whose)), (bk_goodsA, .inl (κ 0, 15, .inl bk_goods))]) ([(kro, .inr (8, [.ref txo, .ref tlo, .ref dfo, .ref nwo, .ref aho, .ref pao, .ref iaA, .ref sco, .ref bko, .ref spo, .int kr_drawn])), (tlo, .inr (6, [.int tl_stands, .int tl_price, .int tl_death, .int tl_payers, .int tl_bids, .int tl_hostages, .int tl_bags, .int tl_bagMarks, .ref tl_goodsA, .ref tl_shyA, .ref tl_bidOfA, .ref tl_daysOfA])), (tl_goodsA, .inl (κ 0, 6, .inl tl_goods)), (tl_shyA, .inl (κ 0, 6, .inl tl_shy)), (tl_bidOfA, .inl (κ 0, 9, .inl tl_bidOf)), (tl_daysOfA, .inl (κ 0, 6, .inl tl_daysOf)), (bko, .inr (0, [.ref bk_whoseA, .ref bk_goodsA, .int z_bk_count])), (bk_whoseA, .inl (κ 0, 15, .inl z_bk_whose)), (bk_goodsA, .inl (κ 0, 15, .inl z_bk_goods))]) r0 := by
  refine krI_of (cc := cX8_write) (maxL := 3) (rt := .int) (by decide) rfl (Nat.le_of_ble_eq_true rfl) ?_
  intro p e s m args below meth c A Q ls hx hb hml hown hts hK hA hret hP hD hS hl
  have hown : s.vm.findClass RX8 = some m.cls := hown
  have hl : lv_has ls 3 [(0, .ref kro), (1, .int x1), (2, .int x2)] := hl
  have iw8 : ∀ w ∈ u_ws RX8 TX8 11, w ∈ wsX8_write := (fun _ h => List.mem_cons_of_mem _ (List.mem_append_left _ (List.mem_append_left _ (List.mem_append_right _ h))))
  have iw0 : ∀ w ∈ u_ws RX0 TX0 3, w ∈ wsX8_write := (fun _ h => List.mem_cons_of_mem _ (List.mem_append_left _ (List.mem_append_right _ h)))
  have k0 : (Cond.constant RX8 71 (-1000000002)).before args s = true := hts _ (List.mem_of_getElem? (i := 2) rfl)
  have k1 : (Cond.fieldLink RX8 59 "KingRansom" "book" "LKingRansom$Book;").before args s = true := hts _ (List.mem_of_getElem? (i := 3) rfl)
  have k2 : (Cond.initialized RX0).before args s = true := hts _ (List.mem_of_getElem? (i := 12) rfl)
  have k3 : (Cond.instanceMethod yX0_add).before args s = true := hts _ (List.mem_of_getElem? (i := 11) rfl)
  have k4 : (Cond.selects RX0 yX0_add yX0_add).before args s = true := hts _ (List.mem_of_getElem? (i := 13) rfl)
  have k5 : (Cond.constant RX8 80 (-1000000004)).before args s = true := hts _ (List.mem_of_getElem? (i := 4) rfl)
  have k6 : (Cond.constant RX8 146 (-1000000001)).before args s = true := hts _ (List.mem_of_getElem? (i := 1) rfl)
  unfold pX8_write at hres
  refine lv_aload_n hx hb dX8_write_0 rfl (lv_at hl 0 rfl) ?_
  refine lv_iload_n hx hb dX8_write_1 rfl (lv_at hl 1 rfl) ?_
  obtain ⟨r1, hc2, hres⟩ := kb1_s hres
  refine krI_V (As := [.int x1]) (rest := []) (wr := [(bko, .inr (0, [.ref bk_whoseA, .ref bk_goodsA, .int bk_count])), (bk_whoseA, .inl (κ 0, 15, .inl bk_whose)), (bk_goodsA, .inl (κ 0, 15, .inl bk_goods))]) ⟨hx, hb, hml, hown, hts⟩ hK (tX8_isPayer l D κ kro txo tlo dfo nwo aho pao iaA sco bko spo tl_goodsA tl_shyA tl_bidOfA tl_daysOfA kr_drawn tl_stands tl_price tl_death tl_payers tl_bids tl_hostages tl_bags tl_bagMarks tl_goods tl_shy tl_bidOf tl_daysOf x1 r1 hc2) (cwV 1 hts gX8_write_X8_isPayer rfl rfl rfl (by decide +kernel) ⟨(Nat.le_of_ble_eq_true rfl), (Nat.le_of_ble_eq_true rfl)⟩) rfl rfl rfl hP hD hS hA [0, 1, 2, 3, 4, 5] [6, 7, 8] rfl rfl rfl rfl (by decide) rfl hl.1 rfl (Nat.le_of_ble_eq_true rfl) dX8_write_2 ⟨Nat.zero_le _, Nat.zero_le _⟩ (fun H locs hP hD hS => ?_)
  have hP : va_P D vwCl ([(bko, .inr (0, [.ref bk_whoseA, .ref bk_goodsA, .int bk_count])), (bk_whoseA, .inl (κ 0, 15, .inl bk_whose)), (bk_goodsA, .inl (κ 0, 15, .inl bk_goods)), (kro, .inr (8, [.ref txo, .ref tlo, .ref dfo, .ref nwo, .ref aho, .ref pao, .ref iaA, .ref sco, .ref bko, .ref spo, .int kr_drawn])), (tlo, .inr (6, [.int tl_stands, .int tl_price, .int tl_death, .int tl_payers, .int tl_bids, .int tl_hostages, .int tl_bags, .int tl_bagMarks, .ref tl_goodsA, .ref tl_shyA, .ref tl_bidOfA, .ref tl_daysOfA])), (tl_goodsA, .inl (κ 0, 6, .inl tl_goods)), (tl_shyA, .inl (κ 0, 6, .inl tl_shy)), (tl_bidOfA, .inl (κ 0, 9, .inl tl_bidOf)), (tl_daysOfA, .inl (κ 0, 6, .inl tl_daysOf))]) H := hP
  have hD : va_D A ([(bko, .inr (0, [.ref bk_whoseA, .ref bk_goodsA, .int bk_count])), (bk_whoseA, .inl (κ 0, 15, .inl bk_whose)), (bk_goodsA, .inl (κ 0, 15, .inl bk_goods)), (kro, .inr (8, [.ref txo, .ref tlo, .ref dfo, .ref nwo, .ref aho, .ref pao, .ref iaA, .ref sco, .ref bko, .ref spo, .int kr_drawn])), (tlo, .inr (6, [.int tl_stands, .int tl_price, .int tl_death, .int tl_payers, .int tl_bids, .int tl_hostages, .int tl_bags, .int tl_bagMarks, .ref tl_goodsA, .ref tl_shyA, .ref tl_bidOfA, .ref tl_daysOfA])), (tl_goodsA, .inl (κ 0, 6, .inl tl_goods)), (tl_shyA, .inl (κ 0, 6, .inl tl_shy)), (tl_bidOfA, .inl (κ 0, 9, .inl tl_bidOf)), (tl_daysOfA, .inl (κ 0, 6, .inl tl_daysOf))]) := hD
  refine lv_if_ne (tgt := 11) hx hb dX8_write_5 (by decide) (fun c3 => ?_) (fun c3 => ?_)
  · replace hres := og_f c3 hres
    refine lv_iload_n hx hb dX8_write_11 rfl (lv_at hl 2 rfl) ?_
    refine lv_if_lt (tgt := 22) hx hb dX8_write_12 (by decide) (fun c4 => ?_) (fun c4 => ?_)
    · replace hres := og_t c4 hres
      refine lv_ldc (v := (-1000000002)) hx hb hown k0 dX8_write_22 ?_
      have hres := Option.some.inj hres
      have h0 := (Prod.mk.inj hres).1
      replace hres := (Prod.mk.inj hres).2
      have h1 := (Prod.mk.inj hres).1
      replace hres := (Prod.mk.inj hres).2
      have h2 := (Prod.mk.inj hres).1
      replace hres := (Prod.mk.inj hres).2
      have h3 := hres
      subst h0
      subst h1
      subst h2
      subst h3
      exact hret _ _ _ _ (vp_nar_int _) (hP.sub [3, 4, 5, 6, 7, 8, 0, 1, 2] rfl) (hD.sub [3, 4, 5, 6, 7, 8, 0, 1, 2] (by decide) rfl) hS dX8_write_24
    · replace hres := og_f c4 hres
      refine lv_iload_n hx hb dX8_write_15 rfl (lv_at hl 2 rfl) ?_
      refine lv_sipush (v := 999) hx hb dX8_write_16 (by decide) ?_
      refine lv_icmp_le (tgt := 25) hx hb dX8_write_19 (by decide) (fun c5 => ?_) (fun c5 => ?_)
      · replace hres := og_t c5 hres
        refine lv_aload_n hx hb dX8_write_25 rfl (lv_at hl 0 rfl) ?_
        refine va_get (D := D) (ci := 8) (v := .ref bko) (C := RX8) (T := TX8) (N := 11) hx hb hts iw8 hown hK.1 hP 3 rfl rfl 8 (by decide) k1 (fun _ h9 => h9) rfl dX8_write_26 ?_
        refine lv_iload_n hx hb dX8_write_29 rfl (lv_at hl 1 rfl) ?_
        refine lv_iload_n hx hb dX8_write_30 rfl (lv_at hl 2 rfl) ?_
        obtain ⟨r6, w7, w8, w9, hc10, hres⟩ := kb4_s hres
        refine krI_VN (As := [.int x1, .int x2]) (rest := []) (wr := [(kro, .inr (8, [.ref txo, .ref tlo, .ref dfo, .ref nwo, .ref aho, .ref pao, .ref iaA, .ref sco, .ref bko, .ref spo, .int kr_drawn])), (tlo, .inr (6, [.int tl_stands, .int tl_price, .int tl_death, .int tl_payers, .int tl_bids, .int tl_hostages, .int tl_bags, .int tl_bagMarks, .ref tl_goodsA, .ref tl_shyA, .ref tl_bidOfA, .ref tl_daysOfA])), (tl_goodsA, .inl (κ 0, 6, .inl tl_goods)), (tl_shyA, .inl (κ 0, 6, .inl tl_shy)), (tl_bidOfA, .inl (κ 0, 9, .inl tl_bidOf)), (tl_daysOfA, .inl (κ 0, 6, .inl tl_daysOf))]) ⟨hx, hb, hml, hown, hts⟩ hK (tX0_add l D κ bko bk_whoseA bk_goodsA bk_whose bk_goods bk_count x1 x2 r6 w7 w8 w9 hc10) ⟨va_cnB 2 hts gX8_write_X0_add_n263 rfl rfl rfl (hK.ml 34 rfl) k2 (by decide +kernel) ⟨(Nat.le_of_ble_eq_true rfl), (Nat.le_of_ble_eq_true rfl)⟩, k3, k4⟩ rfl rfl rfl hP hD hS hA [0, 1, 2] [3, 4, 5, 6, 7, 8] rfl rfl rfl rfl (by decide) rfl hl.1 rfl (Nat.le_of_ble_eq_true rfl) dX8_write_31 ⟨Nat.zero_le _, Nat.zero_le _⟩ (fun H locs hP hD hS => ?_)
        have hP : va_P D vwCl ([(kro, .inr (8, [.ref txo, .ref tlo, .ref dfo, .ref nwo, .ref aho, .ref pao, .ref iaA, .ref sco, .ref bko, .ref spo, .int kr_drawn])), (tlo, .inr (6, [.int tl_stands, .int tl_price, .int tl_death, .int tl_payers, .int tl_bids, .int tl_hostages, .int tl_bags, .int tl_bagMarks, .ref tl_goodsA, .ref tl_shyA, .ref tl_bidOfA, .ref tl_daysOfA])), (tl_goodsA, .inl (κ 0, 6, .inl tl_goods)), (tl_shyA, .inl (κ 0, 6, .inl tl_shy)), (tl_bidOfA, .inl (κ 0, 9, .inl tl_bidOf)), (tl_daysOfA, .inl (κ 0, 6, .inl tl_daysOf)), (bko, .inr (0, [.ref bk_whoseA, .ref bk_goodsA, .int w9])), (bk_whoseA, .inl (κ 0, 15, .inl w7)), (bk_goodsA, .inl (κ 0, 15, .inl w8))]) H := hP
        have hD : va_D A ([(kro, .inr (8, [.ref txo, .ref tlo, .ref dfo, .ref nwo, .ref aho, .ref pao, .ref iaA, .ref sco, .ref bko, .ref spo, .int kr_drawn])), (tlo, .inr (6, [.int tl_stands, .int tl_price, .int tl_death, .int tl_payers, .int tl_bids, .int tl_hostages, .int tl_bags, .int tl_bagMarks, .ref tl_goodsA, .ref tl_shyA, .ref tl_bidOfA, .ref tl_daysOfA])), (tl_goodsA, .inl (κ 0, 6, .inl tl_goods)), (tl_shyA, .inl (κ 0, 6, .inl tl_shy)), (tl_bidOfA, .inl (κ 0, 9, .inl tl_bidOf)), (tl_daysOfA, .inl (κ 0, 6, .inl tl_daysOf)), (bko, .inr (0, [.ref bk_whoseA, .ref bk_goodsA, .int w9])), (bk_whoseA, .inl (κ 0, 15, .inl w7)), (bk_goodsA, .inl (κ 0, 15, .inl w8))]) := hD
        refine lv_if_eq (tgt := 47) hx hb dX8_write_34 (by decide) (fun c11 => ?_) (fun c11 => ?_)
        · replace hres := og_t c11 hres
          refine lv_ldc (v := (-1000000004)) hx hb hown k5 dX8_write_47 ?_
          have hres := Option.some.inj hres
          have h0 := (Prod.mk.inj hres).1
          replace hres := (Prod.mk.inj hres).2
          have h1 := (Prod.mk.inj hres).1
          replace hres := (Prod.mk.inj hres).2
          have h2 := (Prod.mk.inj hres).1
          replace hres := (Prod.mk.inj hres).2
          have h3 := hres
          subst h0
          subst h1
          subst h2
          subst h3
          exact hret _ _ _ _ (vp_nar_int _) hP hD hS dX8_write_49
        · replace hres := og_f c11 hres
          refine lv_aload_n hx hb dX8_write_37 rfl (lv_at hl 0 rfl) ?_
          refine va_get (D := D) (ci := 8) (v := .ref bko) (C := RX8) (T := TX8) (N := 11) hx hb hts iw8 hown hK.1 hP 0 rfl rfl 8 (by decide) k1 (fun _ h9 => h9) rfl dX8_write_38 ?_
          refine va_getN (D := D) (ci := 0) (v := .int w9) (C := RX0) (T := TX0) (N := 3) hx hb hts iw0 hown hK.1 hP 6 rfl rfl 2 (by decide) (hK.fl 41 rfl) (fun _ h9 => h9) rfl dX8_write_41 ?_
          refine lv_goto (tgt := 49) hx hb dX8_write_44 (by decide) ?_
          have hres := Option.some.inj hres
          have h0 := (Prod.mk.inj hres).1
          replace hres := (Prod.mk.inj hres).2
          have h1 := (Prod.mk.inj hres).1
          replace hres := (Prod.mk.inj hres).2
          have h2 := (Prod.mk.inj hres).1
          replace hres := (Prod.mk.inj hres).2
          have h3 := hres
          subst h0
          subst h1
          subst h2
          subst h3
          exact hret _ _ _ _ (vp_nar_int _) hP hD hS dX8_write_49
      · replace hres := og_f c5 hres
        refine lv_ldc (v := (-1000000002)) hx hb hown k0 dX8_write_22 ?_
        have hres := Option.some.inj hres
        have h0 := (Prod.mk.inj hres).1
        replace hres := (Prod.mk.inj hres).2
        have h1 := (Prod.mk.inj hres).1
        replace hres := (Prod.mk.inj hres).2
        have h2 := (Prod.mk.inj hres).1
        replace hres := (Prod.mk.inj hres).2
        have h3 := hres
        subst h0
        subst h1
        subst h2
        subst h3
        exact hret _ _ _ _ (vp_nar_int _) (hP.sub [3, 4, 5, 6, 7, 8, 0, 1, 2] rfl) (hD.sub [3, 4, 5, 6, 7, 8, 0, 1, 2] (by decide) rfl) hS dX8_write_24
  · replace hres := og_t c3 hres
    refine lv_ldc (v := (-1000000001)) hx hb hown k6 dX8_write_8 ?_
    have hres := Option.some.inj hres
    have h0 := (Prod.mk.inj hres).1
    replace hres := (Prod.mk.inj hres).2
    have h1 := (Prod.mk.inj hres).1
    replace hres := (Prod.mk.inj hres).2
    have h2 := (Prod.mk.inj hres).1
    replace hres := (Prod.mk.inj hres).2
    have h3 := hres
    subst h0
    subst h1
    subst h2
    subst h3
    exact hret _ _ _ _ (vp_nar_int _) (hP.sub [3, 4, 5, 6, 7, 8, 0, 1, 2] rfl) (hD.sub [3, 4, 5, 6, 7, 8, 0, 1, 2] (by decide) rfl) hS dX8_write_10

def pX8_tear (sc_count : Int32) (bk_count : Int32) : Option (Int32 × Int32 × Int32) :=
    kb1 (pX3_clear) fun w1 =>
    kb1 (pX0_clear) fun w3 =>
    some ((sc_count + bk_count), w1, w3)
set_option maxHeartbeats 8000000 in
set_option maxRecDepth 100000 in
theorem tX8_tear (l : Launch) (D : va_G) (κ : Nat → ClassId) (kro : Nat) (txo : Nat) (tlo : Nat) (dfo : Nat) (nwo : Nat) (aho : Nat) (pao : Nat) (iaA : Nat) (sco : Nat) (bko : Nat) (spo : Nat) (sc_setsA : Nat) (sc_weightsA : Nat) (sc_bagsShortByA : Nat) (bk_whoseA : Nat) (bk_goodsA : Nat) (kr_drawn : Int32) (sc_sets : Nat → Int32) (sc_weights : Nat → Int32) (sc_count : Int32) (sc_bagsShortBy : Nat → Int32) (sc_fits : Int32) (bk_whose : Nat → Int32) (bk_goods : Nat → Int32) (bk_count : Int32) (r0 : Int32) (z_sc_count : Int32) (z_bk_count : Int32) (hres : pX8_tear sc_count bk_count = some (r0, z_sc_count, z_bk_count)) : krI l yX8_tear wsX8_tear { frames := 1, cells := 0, slots := 0, locals := 100 } D κ [.ref kro] ([(kro, .inr (8, [.ref txo, .ref tlo, .ref dfo, .ref nwo, .ref aho, .ref pao, .ref iaA, .ref sco, .ref bko, .ref spo, .int kr_drawn])), (sco, .inr (3, [.ref sc_setsA, .ref sc_weightsA, .int sc_count, .ref sc_bagsShortByA, .int sc_fits])), (sc_setsA, .inl (κ 0, 6, .inl sc_sets)), (sc_weightsA, .inl (κ 0, 6, .inl sc_weights)), (sc_bagsShortByA, .inl (κ 0, 10, .inl sc_bagsShortBy)), (bko, .inr (0, [.ref bk_whoseA, .ref bk_goodsA, .int bk_count])), (bk_whoseA, .inl (κ 0, 15, .inl bk_whose)), (bk_goodsA, .inl (κ 0, 15, .inl bk_goods))]) ([(kro, .inr (8, [.ref txo, .ref tlo, .ref dfo, .ref nwo, .ref aho, .ref pao, .ref iaA, .ref sco, .ref bko, .ref spo, .int kr_drawn])), (sco, .inr (3, [.ref sc_setsA, .ref sc_weightsA, .int z_sc_count, .ref sc_bagsShortByA, .int sc_fits])), (sc_setsA, .inl (κ 0, 6, .inl sc_sets)), (sc_weightsA, .inl (κ 0, 6, .inl sc_weights)), (sc_bagsShortByA, .inl (κ 0, 10, .inl sc_bagsShortBy)), (bko, .inr (0, [.ref bk_whoseA, .ref bk_goodsA, .int z_bk_count])), (bk_whoseA, .inl (κ 0, 15, .inl bk_whose)), (bk_goodsA, .inl (κ 0, 15, .inl bk_goods))]) r0 := by
  refine krI_of (cc := cX8_tear) (maxL := 2) (rt := .int) (by decide) rfl (Nat.le_of_ble_eq_true rfl) ?_
  intro p e s m args below meth c A Q ls hx hb hml hown hts hK hA hret hP hD hS hl
  have hown : s.vm.findClass RX8 = some m.cls := hown
  have hl : lv_has ls 2 [(0, .ref kro)] := hl
  have iw8 : ∀ w ∈ u_ws RX8 TX8 11, w ∈ wsX8_tear := (fun _ h => List.mem_cons_of_mem _ (List.mem_append_left _ (List.mem_append_left _ (List.mem_append_right _ h))))
  have iw3 : ∀ w ∈ u_ws RX3 TX3 5, w ∈ wsX8_tear := (fun _ h => List.mem_cons_of_mem _ (List.mem_append_left _ (List.mem_append_right _ h)))
  have iw0 : ∀ w ∈ u_ws RX0 TX0 3, w ∈ wsX8_tear := (fun _ h => List.mem_cons_of_mem _ (List.mem_append_right _ h))
  have k0 : (Cond.fieldLink RX8 52 "KingRansom" "scales" "LKingRansom$Scales;").before args s = true := hts _ (List.mem_of_getElem? (i := 1) rfl)
  have k1 : (Cond.fieldLink RX8 59 "KingRansom" "book" "LKingRansom$Book;").before args s = true := hts _ (List.mem_of_getElem? (i := 2) rfl)
  have k2 : (Cond.initialized RX3).before args s = true := hts _ (List.mem_of_getElem? (i := 4) rfl)
  have k3 : (Cond.instanceMethod yX3_clear).before args s = true := hts _ (List.mem_of_getElem? (i := 3) rfl)
  have k4 : (Cond.selects RX3 yX3_clear yX3_clear).before args s = true := hts _ (List.mem_of_getElem? (i := 5) rfl)
  have k5 : (Cond.initialized RX0).before args s = true := hts _ (List.mem_of_getElem? (i := 9) rfl)
  have k6 : (Cond.instanceMethod yX0_clear).before args s = true := hts _ (List.mem_of_getElem? (i := 8) rfl)
  have k7 : (Cond.selects RX0 yX0_clear yX0_clear).before args s = true := hts _ (List.mem_of_getElem? (i := 10) rfl)
  unfold pX8_tear at hres
  refine lv_aload_n hx hb dX8_tear_0 rfl (lv_at hl 0 rfl) ?_
  refine va_get (D := D) (ci := 8) (v := .ref sco) (C := RX8) (T := TX8) (N := 11) hx hb hts iw8 hown hK.1 hP 0 rfl rfl 7 (by decide) k0 (fun _ h9 => h9) rfl dX8_tear_1 ?_
  refine va_getN (D := D) (ci := 3) (v := .int sc_count) (C := RX3) (T := TX3) (N := 5) hx hb hts iw3 hown hK.1 hP 1 rfl rfl 2 (by decide) (hK.fl 39 rfl) (fun _ h9 => h9) rfl dX8_tear_4 ?_
  refine lv_aload_n hx hb dX8_tear_7 rfl (lv_at hl 0 rfl) ?_
  refine va_get (D := D) (ci := 8) (v := .ref bko) (C := RX8) (T := TX8) (N := 11) hx hb hts iw8 hown hK.1 hP 0 rfl rfl 8 (by decide) k1 (fun _ h9 => h9) rfl dX8_tear_8 ?_
  refine va_getN (D := D) (ci := 0) (v := .int bk_count) (C := RX0) (T := TX0) (N := 3) hx hb hts iw0 hown hK.1 hP 5 rfl rfl 2 (by decide) (hK.fl 41 rfl) (fun _ h9 => h9) rfl dX8_tear_11 ?_
  refine lv_iadd hx hb dX8_tear_14 ?_
  refine lv_istore_n (lv' := [(1, .int (sc_count + bk_count)), (0, .ref kro)]) hx hb dX8_tear_15 rfl hl (by decide) rfl (fun ls hl => ?_)
  refine lv_aload_n hx hb dX8_tear_16 rfl (lv_at hl 1 rfl) ?_
  refine va_get (D := D) (ci := 8) (v := .ref sco) (C := RX8) (T := TX8) (N := 11) hx hb hts iw8 hown hK.1 hP 0 rfl rfl 7 (by decide) k0 (fun _ h9 => h9) rfl dX8_tear_17 ?_
  obtain ⟨w1, hc2, hres⟩ := kb1_s hres
  refine krV_VN (As := []) (rest := []) (wr := [(kro, .inr (8, [.ref txo, .ref tlo, .ref dfo, .ref nwo, .ref aho, .ref pao, .ref iaA, .ref sco, .ref bko, .ref spo, .int kr_drawn])), (bko, .inr (0, [.ref bk_whoseA, .ref bk_goodsA, .int bk_count])), (bk_whoseA, .inl (κ 0, 15, .inl bk_whose)), (bk_goodsA, .inl (κ 0, 15, .inl bk_goods))]) ⟨hx, hb, hml, hown, hts⟩ hK (tX3_clear l D κ sco sc_setsA sc_weightsA sc_bagsShortByA sc_sets sc_weights sc_count sc_bagsShortBy sc_fits w1 hc2) ⟨va_cnB 0 hts gX8_tear_X3_clear_n94 rfl rfl rfl (hK.ml 18 rfl) k2 (by decide +kernel) ⟨(Nat.le_of_ble_eq_true rfl), (Nat.le_of_ble_eq_true rfl)⟩, k3, k4⟩ rfl rfl rfl hP hD hS hA [1, 2, 3, 4] [0, 5, 6, 7] rfl rfl rfl rfl (by decide) rfl hl.1 rfl (Nat.le_of_ble_eq_true rfl) dX8_tear_20 ⟨Nat.zero_le _, Nat.zero_le _⟩ (fun H locs hP hD hS => ?_)
  have hP : va_P D vwCl ([(kro, .inr (8, [.ref txo, .ref tlo, .ref dfo, .ref nwo, .ref aho, .ref pao, .ref iaA, .ref sco, .ref bko, .ref spo, .int kr_drawn])), (bko, .inr (0, [.ref bk_whoseA, .ref bk_goodsA, .int bk_count])), (bk_whoseA, .inl (κ 0, 15, .inl bk_whose)), (bk_goodsA, .inl (κ 0, 15, .inl bk_goods)), (sco, .inr (3, [.ref sc_setsA, .ref sc_weightsA, .int w1, .ref sc_bagsShortByA, .int sc_fits])), (sc_setsA, .inl (κ 0, 6, .inl sc_sets)), (sc_weightsA, .inl (κ 0, 6, .inl sc_weights)), (sc_bagsShortByA, .inl (κ 0, 10, .inl sc_bagsShortBy))]) H := hP
  have hD : va_D A ([(kro, .inr (8, [.ref txo, .ref tlo, .ref dfo, .ref nwo, .ref aho, .ref pao, .ref iaA, .ref sco, .ref bko, .ref spo, .int kr_drawn])), (bko, .inr (0, [.ref bk_whoseA, .ref bk_goodsA, .int bk_count])), (bk_whoseA, .inl (κ 0, 15, .inl bk_whose)), (bk_goodsA, .inl (κ 0, 15, .inl bk_goods)), (sco, .inr (3, [.ref sc_setsA, .ref sc_weightsA, .int w1, .ref sc_bagsShortByA, .int sc_fits])), (sc_setsA, .inl (κ 0, 6, .inl sc_sets)), (sc_weightsA, .inl (κ 0, 6, .inl sc_weights)), (sc_bagsShortByA, .inl (κ 0, 10, .inl sc_bagsShortBy))]) := hD
  refine lv_aload_n hx hb dX8_tear_23 rfl (lv_at hl 1 rfl) ?_
  refine va_get (D := D) (ci := 8) (v := .ref bko) (C := RX8) (T := TX8) (N := 11) hx hb hts iw8 hown hK.1 hP 0 rfl rfl 8 (by decide) k1 (fun _ h9 => h9) rfl dX8_tear_24 ?_
  obtain ⟨w3, hc4, hres⟩ := kb1_s hres
  refine krV_VN (As := []) (rest := []) (wr := [(kro, .inr (8, [.ref txo, .ref tlo, .ref dfo, .ref nwo, .ref aho, .ref pao, .ref iaA, .ref sco, .ref bko, .ref spo, .int kr_drawn])), (sco, .inr (3, [.ref sc_setsA, .ref sc_weightsA, .int w1, .ref sc_bagsShortByA, .int sc_fits])), (sc_setsA, .inl (κ 0, 6, .inl sc_sets)), (sc_weightsA, .inl (κ 0, 6, .inl sc_weights)), (sc_bagsShortByA, .inl (κ 0, 10, .inl sc_bagsShortBy))]) ⟨hx, hb, hml, hown, hts⟩ hK (tX0_clear l D κ bko bk_whoseA bk_goodsA bk_whose bk_goods bk_count w3 hc4) ⟨va_cnB 0 hts gX8_tear_X0_clear_n97 rfl rfl rfl (hK.ml 19 rfl) k5 (by decide +kernel) ⟨(Nat.le_of_ble_eq_true rfl), (Nat.le_of_ble_eq_true rfl)⟩, k6, k7⟩ rfl rfl rfl hP hD hS hA [1, 2, 3] [0, 4, 5, 6, 7] rfl rfl rfl rfl (by decide) rfl hl.1 rfl (Nat.le_of_ble_eq_true rfl) dX8_tear_27 ⟨Nat.zero_le _, Nat.zero_le _⟩ (fun H locs hP hD hS => ?_)
  have hP : va_P D vwCl ([(kro, .inr (8, [.ref txo, .ref tlo, .ref dfo, .ref nwo, .ref aho, .ref pao, .ref iaA, .ref sco, .ref bko, .ref spo, .int kr_drawn])), (sco, .inr (3, [.ref sc_setsA, .ref sc_weightsA, .int w1, .ref sc_bagsShortByA, .int sc_fits])), (sc_setsA, .inl (κ 0, 6, .inl sc_sets)), (sc_weightsA, .inl (κ 0, 6, .inl sc_weights)), (sc_bagsShortByA, .inl (κ 0, 10, .inl sc_bagsShortBy)), (bko, .inr (0, [.ref bk_whoseA, .ref bk_goodsA, .int w3])), (bk_whoseA, .inl (κ 0, 15, .inl bk_whose)), (bk_goodsA, .inl (κ 0, 15, .inl bk_goods))]) H := hP
  have hD : va_D A ([(kro, .inr (8, [.ref txo, .ref tlo, .ref dfo, .ref nwo, .ref aho, .ref pao, .ref iaA, .ref sco, .ref bko, .ref spo, .int kr_drawn])), (sco, .inr (3, [.ref sc_setsA, .ref sc_weightsA, .int w1, .ref sc_bagsShortByA, .int sc_fits])), (sc_setsA, .inl (κ 0, 6, .inl sc_sets)), (sc_weightsA, .inl (κ 0, 6, .inl sc_weights)), (sc_bagsShortByA, .inl (κ 0, 10, .inl sc_bagsShortBy)), (bko, .inr (0, [.ref bk_whoseA, .ref bk_goodsA, .int w3])), (bk_whoseA, .inl (κ 0, 15, .inl bk_whose)), (bk_goodsA, .inl (κ 0, 15, .inl bk_goods))]) := hD
  refine lv_iload_n hx hb dX8_tear_30 rfl (lv_at hl 0 rfl) ?_
  have hres := Option.some.inj hres
  have h0 := (Prod.mk.inj hres).1
  replace hres := (Prod.mk.inj hres).2
  have h1 := (Prod.mk.inj hres).1
  replace hres := (Prod.mk.inj hres).2
  have h2 := hres
  subst h0
  subst h1
  subst h2
  exact hret _ _ _ _ (vp_nar_int _) hP hD hS dX8_tear_31

def pX8_judge (N : Nat) (nw_goods : Nat → Int32) (bk_whose : Nat → Int32) (bk_goods : Nat → Int32) (bk_count : Int32) : Option (Int32) :=
    kb1 (pX0_firstWrong N bk_whose bk_goods bk_count nw_goods) fun r1 =>
    some (r1)
set_option maxHeartbeats 8000000 in
set_option maxRecDepth 100000 in
theorem tX8_judge (l : Launch) (D : va_G) (κ : Nat → ClassId) (kro : Nat) (txo : Nat) (tlo : Nat) (dfo : Nat) (nwo : Nat) (aho : Nat) (pao : Nat) (iaA : Nat) (sco : Nat) (bko : Nat) (spo : Nat) (nw_goodsA : Nat) (nw_ratesA : Nat) (bk_whoseA : Nat) (bk_goodsA : Nat) (N : Nat) (kr_drawn : Int32) (nw_price : Int32) (nw_months : Int32) (nw_chest : Int32) (nw_given : Int32) (nw_fate : Int32) (nw_goods : Nat → Int32) (nw_rates : Nat → Int32) (bk_whose : Nat → Int32) (bk_goods : Nat → Int32) (bk_count : Int32) (r0 : Int32) (hres : pX8_judge N nw_goods bk_whose bk_goods bk_count = some (r0)) : krI l yX8_judge wsX8_judge { frames := 1, cells := 0, slots := 0, locals := 100 } D κ [.ref kro] ([(kro, .inr (8, [.ref txo, .ref tlo, .ref dfo, .ref nwo, .ref aho, .ref pao, .ref iaA, .ref sco, .ref bko, .ref spo, .int kr_drawn])), (nwo, .inr (5, [.int nw_price, .int nw_months, .int nw_chest, .int nw_given, .int nw_fate, .ref nw_goodsA, .ref nw_ratesA])), (nw_goodsA, .inl (κ 0, 6, .inl nw_goods)), (nw_ratesA, .inl (κ 0, 6, .inl nw_rates)), (bko, .inr (0, [.ref bk_whoseA, .ref bk_goodsA, .int bk_count])), (bk_whoseA, .inl (κ 0, 15, .inl bk_whose)), (bk_goodsA, .inl (κ 0, 15, .inl bk_goods))]) ([(kro, .inr (8, [.ref txo, .ref tlo, .ref dfo, .ref nwo, .ref aho, .ref pao, .ref iaA, .ref sco, .ref bko, .ref spo, .int kr_drawn])), (nwo, .inr (5, [.int nw_price, .int nw_months, .int nw_chest, .int nw_given, .int nw_fate, .ref nw_goodsA, .ref nw_ratesA])), (nw_goodsA, .inl (κ 0, 6, .inl nw_goods)), (nw_ratesA, .inl (κ 0, 6, .inl nw_rates)), (bko, .inr (0, [.ref bk_whoseA, .ref bk_goodsA, .int bk_count])), (bk_whoseA, .inl (κ 0, 15, .inl bk_whose)), (bk_goodsA, .inl (κ 0, 15, .inl bk_goods))]) r0 := by
  refine krI_of (cc := cX8_judge) (maxL := 1) (rt := .int) (by decide) rfl (Nat.le_of_ble_eq_true rfl) ?_
  intro p e s m args below meth c A Q ls hx hb hml hown hts hK hA hret hP hD hS hl
  have hown : s.vm.findClass RX8 = some m.cls := hown
  have hl : lv_has ls 1 [(0, .ref kro)] := hl
  have iw8 : ∀ w ∈ u_ws RX8 TX8 11, w ∈ wsX8_judge := (fun _ h => List.mem_cons_of_mem _ (List.mem_append_left _ (List.mem_append_left _ (List.mem_append_right _ h))))
  have k0 : (Cond.fieldLink RX8 59 "KingRansom" "book" "LKingRansom$Book;").before args s = true := hts _ (List.mem_of_getElem? (i := 1) rfl)
  have k1 : (Cond.fieldLink RX8 29 "KingRansom" "now" "LKingRansom$State;").before args s = true := hts _ (List.mem_of_getElem? (i := 2) rfl)
  have k2 : (Cond.initialized RX0).before args s = true := hts _ (List.mem_of_getElem? (i := 4) rfl)
  have k3 : (Cond.instanceMethod yX0_firstWrong).before args s = true := hts _ (List.mem_of_getElem? (i := 3) rfl)
  have k4 : (Cond.selects RX0 yX0_firstWrong yX0_firstWrong).before args s = true := hts _ (List.mem_of_getElem? (i := 5) rfl)
  unfold pX8_judge at hres
  refine lv_aload_n hx hb dX8_judge_0 rfl (lv_at hl 0 rfl) ?_
  refine va_get (D := D) (ci := 8) (v := .ref bko) (C := RX8) (T := TX8) (N := 11) hx hb hts iw8 hown hK.1 hP 0 rfl rfl 8 (by decide) k0 (fun _ h9 => h9) rfl dX8_judge_1 ?_
  refine lv_aload_n hx hb dX8_judge_4 rfl (lv_at hl 0 rfl) ?_
  refine va_get (D := D) (ci := 8) (v := .ref nwo) (C := RX8) (T := TX8) (N := 11) hx hb hts iw8 hown hK.1 hP 0 rfl rfl 3 (by decide) k1 (fun _ h9 => h9) rfl dX8_judge_5 ?_
  obtain ⟨r1, hc2, hres⟩ := kb1_s hres
  refine krI_VN (As := [.ref nwo]) (rest := []) (wr := [(kro, .inr (8, [.ref txo, .ref tlo, .ref dfo, .ref nwo, .ref aho, .ref pao, .ref iaA, .ref sco, .ref bko, .ref spo, .int kr_drawn]))]) ⟨hx, hb, hml, hown, hts⟩ hK (tX0_firstWrong l D κ bko bk_whoseA bk_goodsA nwo nw_goodsA nw_ratesA N bk_whose bk_goods bk_count nw_price nw_months nw_chest nw_given nw_fate nw_goods nw_rates r1 hc2) ⟨va_cnB 1 hts gX8_judge_X0_firstWrong_n264 rfl rfl rfl (hK.ml 35 rfl) k2 (by decide +kernel) ⟨(Nat.le_of_ble_eq_true rfl), (Nat.le_of_ble_eq_true rfl)⟩, k3, k4⟩ rfl rfl rfl hP hD hS hA [4, 5, 6, 1, 2, 3] [0] rfl rfl rfl rfl (by decide) rfl hl.1 rfl (Nat.le_of_ble_eq_true rfl) dX8_judge_8 ⟨Nat.zero_le _, Nat.zero_le _⟩ (fun H locs hP hD hS => ?_)
  have hP : va_P D vwCl ([(kro, .inr (8, [.ref txo, .ref tlo, .ref dfo, .ref nwo, .ref aho, .ref pao, .ref iaA, .ref sco, .ref bko, .ref spo, .int kr_drawn])), (bko, .inr (0, [.ref bk_whoseA, .ref bk_goodsA, .int bk_count])), (bk_whoseA, .inl (κ 0, 15, .inl bk_whose)), (bk_goodsA, .inl (κ 0, 15, .inl bk_goods)), (nwo, .inr (5, [.int nw_price, .int nw_months, .int nw_chest, .int nw_given, .int nw_fate, .ref nw_goodsA, .ref nw_ratesA])), (nw_goodsA, .inl (κ 0, 6, .inl nw_goods)), (nw_ratesA, .inl (κ 0, 6, .inl nw_rates))]) H := hP
  have hD : va_D A ([(kro, .inr (8, [.ref txo, .ref tlo, .ref dfo, .ref nwo, .ref aho, .ref pao, .ref iaA, .ref sco, .ref bko, .ref spo, .int kr_drawn])), (bko, .inr (0, [.ref bk_whoseA, .ref bk_goodsA, .int bk_count])), (bk_whoseA, .inl (κ 0, 15, .inl bk_whose)), (bk_goodsA, .inl (κ 0, 15, .inl bk_goods)), (nwo, .inr (5, [.int nw_price, .int nw_months, .int nw_chest, .int nw_given, .int nw_fate, .ref nw_goodsA, .ref nw_ratesA])), (nw_goodsA, .inl (κ 0, 6, .inl nw_goods)), (nw_ratesA, .inl (κ 0, 6, .inl nw_rates))]) := hD
  have hres := Option.some.inj hres
  have h0 := hres
  subst h0
  exact hret _ _ _ _ (vp_nar_int _) (hP.sub [0, 4, 5, 6, 1, 2, 3] rfl) (hD.sub [0, 4, 5, 6, 1, 2, 3] (by decide) rfl) hS dX8_judge_11

def pX8_seed (x1 : Int32) (kr_drawn : Int32) : Option (Int32 × Int32) :=
    (if 0 ≤ x1 then
    some (kr_drawn, x1)
    else
    some ((-1000000002), kr_drawn))
set_option maxHeartbeats 8000000 in
set_option maxRecDepth 100000 in
theorem tX8_seed (l : Launch) (D : va_G) (κ : Nat → ClassId) (kro : Nat) (txo : Nat) (tlo : Nat) (dfo : Nat) (nwo : Nat) (aho : Nat) (pao : Nat) (iaA : Nat) (sco : Nat) (bko : Nat) (spo : Nat) (kr_drawn : Int32) (x1 : Int32) (r0 : Int32) (z_kr_drawn : Int32) (hres : pX8_seed x1 kr_drawn = some (r0, z_kr_drawn)) : krI l yX8_seed wsX8_seed { frames := 0, cells := 0, slots := 0, locals := 0 } D κ [.ref kro, .int x1] ([(kro, .inr (8, [.ref txo, .ref tlo, .ref dfo, .ref nwo, .ref aho, .ref pao, .ref iaA, .ref sco, .ref bko, .ref spo, .int kr_drawn]))]) ([(kro, .inr (8, [.ref txo, .ref tlo, .ref dfo, .ref nwo, .ref aho, .ref pao, .ref iaA, .ref sco, .ref bko, .ref spo, .int z_kr_drawn]))]) r0 := by
  refine krI_of (cc := cX8_seed) (maxL := 3) (rt := .int) (by decide) rfl (Nat.le_of_ble_eq_true rfl) ?_
  intro p e s m args below meth c A Q ls hx hb hml hown hts hK hA hret hP hD hS hl
  have hown : s.vm.findClass RX8 = some m.cls := hown
  have hl : lv_has ls 3 [(0, .ref kro), (1, .int x1)] := hl
  have iw8 : ∀ w ∈ u_ws RX8 TX8 11, w ∈ wsX8_seed := (fun _ h => List.mem_cons_of_mem _ (List.mem_append_right _ h))
  have k0 : (Cond.fieldLink RX8 268 "KingRansom" "drawn" "I").before args s = true := hts _ (List.mem_of_getElem? (i := 2) rfl)
  have k1 : (Cond.constant RX8 71 (-1000000002)).before args s = true := hts _ (List.mem_of_getElem? (i := 1) rfl)
  unfold pX8_seed at hres
  refine lv_iload_n hx hb dX8_seed_0 rfl (lv_at hl 1 rfl) ?_
  refine lv_if_ge (tgt := 7) hx hb dX8_seed_1 (by decide) (fun c1 => ?_) (fun c1 => ?_)
  · replace hres := og_t c1 hres
    refine lv_aload_n hx hb dX8_seed_7 rfl (lv_at hl 0 rfl) ?_
    refine va_get (D := D) (ci := 8) (v := .int kr_drawn) (C := RX8) (T := TX8) (N := 11) hx hb hts iw8 hown hK.1 hP 0 rfl rfl 10 (by decide) k0 (fun _ h9 => h9) rfl dX8_seed_8 ?_
    refine lv_istore_n (lv' := [(2, .int kr_drawn), (0, .ref kro), (1, .int x1)]) hx hb dX8_seed_11 rfl hl (by decide) rfl (fun ls hl => ?_)
    refine lv_aload_n hx hb dX8_seed_12 rfl (lv_at hl 1 rfl) ?_
    refine lv_iload_n hx hb dX8_seed_13 rfl (lv_at hl 2 rfl) ?_
    refine va_put (D := D) (ci := 8) (v := .int x1) (ty := .int) (C := RX8) (T := TX8) (N := 11) hx hb hts iw8 tyX8 tyX8_ok nmX8 hown hK.1 hP hD hS 0 rfl rfl 10 (by decide) k0 (fun _ h9 => h9) rfl (tyX8_ok 10 (by decide)) rfl rfl (Nat.le_of_ble_eq_true rfl) dX8_seed_14 (fun H locs hP hD hS => ?_)
    have hP : va_P D vwCl ([(kro, .inr (8, [.ref txo, .ref tlo, .ref dfo, .ref nwo, .ref aho, .ref pao, .ref iaA, .ref sco, .ref bko, .ref spo, .int x1]))]) H := hP
    have hD : va_D A ([(kro, .inr (8, [.ref txo, .ref tlo, .ref dfo, .ref nwo, .ref aho, .ref pao, .ref iaA, .ref sco, .ref bko, .ref spo, .int x1]))]) := hD
    refine lv_iload_n hx hb dX8_seed_17 rfl (lv_at hl 0 rfl) ?_
    have hres := Option.some.inj hres
    have h0 := (Prod.mk.inj hres).1
    replace hres := (Prod.mk.inj hres).2
    have h1 := hres
    subst h0
    subst h1
    exact hret _ _ _ _ (vp_nar_int _) hP hD hS dX8_seed_18
  · replace hres := og_f c1 hres
    refine lv_ldc (v := (-1000000002)) hx hb hown k1 dX8_seed_4 ?_
    have hres := Option.some.inj hres
    have h0 := (Prod.mk.inj hres).1
    replace hres := (Prod.mk.inj hres).2
    have h1 := hres
    subst h0
    subst h1
    exact hret _ _ _ _ (vp_nar_int _) hP hD hS dX8_seed_6
