def pX9_spread_L198 (x2 : Int32) : Nat → Int32 → Int32 → Option (Int32)
  | 0, _, _ => none
  | n198 + 1, v5, v6 =>
    (if v6 ≤ x2 then
    some (((v5 - v5 / 5 * 5) * 25))
    else
    pX9_spread_L198 x2 n198 (v5 / 5) (v6 + (-1)))
def pX9_spread_L170 (k66 : Int32 → Int32 → Int32 → Int32 → Option (Int32)) (v3 : Int32) (v4 : Int32) (v5 : Int32) (v6 : Int32) : Option (Int32) :=
    k66 v3 v4 v5 (v6 + 1)
def pX9_spread_L162 (k66 : Int32 → Int32 → Int32 → Int32 → Option (Int32)) (v3 : Int32) (v6 : Int32) (v9 : Int32) : Option (Int32) :=
    pX9_spread_L170 k66 v3 v9 v6 v6
def pX9_spread_L92 (k66 : Int32 → Int32 → Int32 → Int32 → Option (Int32)) (x1 : Int32) (mo_told : Nat → Int32) (mo_st : Nat → Int32) : Nat → Int32 → Int32 → Int32 → Int32 → Int32 → Int32 → Int32 → Int32 → Option (Int32)
  | 0, _, _, _, _, _, _, _, _ => none
  | n92 + 1, v3, v4, v5, v6, v7, v8, v9, v10 =>
    (if v10 < 0 then
    (if v8 < x1 then
    pX9_spread_L170 k66 v3 v4 v5 v6
    else
    (if v4 < 0 then
    pX9_spread_L162 k66 v3 v6 v9
    else
    (if v4 ≤ v9 then
    pX9_spread_L170 k66 v3 v4 v5 v6
    else
    pX9_spread_L162 k66 v3 v6 v9)))
    else
    kb1 (pX9_paysBy v10 ((v7 - v7 / 5 * 5) * 25) mo_told mo_st) fun r17 =>
    kb1 (pX9_hiddenBy v10 ((v7 - v7 / 5 * 5) * 25) mo_told mo_st) fun r19 =>
    pX9_spread_L92 k66 x1 mo_told mo_st n92 v3 v4 v5 v6 (v7 / 5) (v8 + r17) (v9 + r19) (v10 + (-1)))
def pX9_spread_L66 (N : Nat) (x1 : Int32) (x2 : Int32) (mo_told : Nat → Int32) (mo_st : Nat → Int32) : Nat → Int32 → Int32 → Int32 → Int32 → Option (Int32)
  | 0, _, _, _, _ => none
  | n66 + 1, v3, v4, v5, v6 =>
    (if v3 ≤ v6 then
    (if v4 < 0 then
    some (v4)
    else
    (if 0 ≤ x2 then
    pX9_spread_L198 x2 N v5 ((mo_told 2) - 1)
    else
    some (v4)))
    else
    pX9_spread_L92 (pX9_spread_L66 N x1 x2 mo_told mo_st n66) x1 mo_told mo_st N v3 v4 v5 v6 v6 0 0 ((mo_told 2) - 1))
def pX9_spread_L36 (N : Nat) (x1 : Int32) (x2 : Int32) (mo_told : Nat → Int32) (mo_st : Nat → Int32) : Nat → Int32 → Int32 → Option (Int32)
  | 0, _, _ => none
  | n36 + 1, v3, v4 =>
    (if (mo_told 2) ≤ v4 then
    pX9_spread_L66 N x1 x2 mo_told mo_st N v3 (-1) 0 0
    else
    pX9_spread_L36 N x1 x2 mo_told mo_st n36 (v3 * 5) (v4 + 1))
def pX9_spread_L16 (N : Nat) (x1 : Int32) (x2 : Int32) (mo_told : Nat → Int32) (mo_st : Nat → Int32) : Option (Int32) :=
    kb1 (pX9_in (x1.toInt64) 0 9999) fun r5 =>
    (if r5 = 0 then
    some ((-1000000002))
    else
    pX9_spread_L36 N x1 x2 mo_told mo_st N 1 0)
def pX9_spread (N : Nat) (x1 : Int32) (x2 : Int32) (mo_told : Nat → Int32) (mo_st : Nat → Int32) : Option (Int32) :=
    (if x2 = (-1) then
    pX9_spread_L16 N x1 x2 mo_told mo_st
    else
    kb1 (pX9_isPayer x2 mo_told) fun r2 =>
    (if r2 = 0 then
    some ((-1000000001))
    else
    pX9_spread_L16 N x1 x2 mo_told mo_st))
set_option maxHeartbeats 8000000 in
set_option maxRecDepth 100000 in
theorem tX9_spread (l : Launch) (D : va_G) (κ : Nat → ClassId) (moo : Nat) (mo_toldA : Nat) (mo_stA : Nat) (mo_textA : Nat) (mo_readA : Nat) (mo_aheadA : Nat) (mo_asideA : Nat) (mo_weighingsA : Nat) (mo_bookA : Nat) (mo_isKeptA : Nat) (mo_keptA : Nat) (mo_seedsA : Nat) (N : Nat) (mo_told : Nat → Int32) (mo_st : Nat → Int32) (mo_isThere : Int32) (mo_seed : Int32) (mo_text : Nat → Int32) (mo_typed : Int32) (mo_faultAt : Int32) (mo_place : Int32) (mo_wrong : Int32) (mo_value : Int32) (mo_read : Nat → Int32) (mo_ahead : Nat → Int32) (mo_undoMany : Int32) (mo_aside : Nat → Int32) (mo_weighings : Nat → Int32) (mo_weighed : Int32) (mo_book : Nat → Int32) (mo_entries : Int32) (mo_isKept : Nat → Int32) (mo_kept : Nat → Int32) (mo_seeds : Nat → Int32) (x1 : Int32) (x2 : Int32) (r0 : Int32) (hres : pX9_spread N x1 x2 mo_told mo_st = some (r0)) : krI l yX9_spread wsX9_spread { frames := 2, cells := 0, slots := 0, locals := 200 } D κ [.ref moo, .int x1, .int x2] ([(moo, .inr (9, [.ref mo_toldA, .ref mo_stA, .int mo_isThere, .int mo_seed, .ref mo_textA, .int mo_typed, .int mo_faultAt, .int mo_place, .int mo_wrong, .int mo_value, .ref mo_readA, .ref mo_aheadA, .int mo_undoMany, .ref mo_asideA, .ref mo_weighingsA, .int mo_weighed, .ref mo_bookA, .int mo_entries, .ref mo_isKeptA, .ref mo_keptA, .ref mo_seedsA])), (mo_toldA, .inl (κ 0, 37, .inl mo_told)), (mo_stA, .inl (κ 0, 17, .inl mo_st)), (mo_textA, .inl (κ 0, 240, .inl mo_text)), (mo_readA, .inl (κ 0, 37, .inl mo_read)), (mo_aheadA, .inl (κ 0, 340, .inl mo_ahead)), (mo_asideA, .inl (κ 0, 17, .inl mo_aside)), (mo_weighingsA, .inl (κ 0, 12, .inl mo_weighings)), (mo_bookA, .inl (κ 0, 30, .inl mo_book)), (mo_isKeptA, .inl (κ 1, 2, .inl mo_isKept)), (mo_keptA, .inl (κ 0, 34, .inl mo_kept)), (mo_seedsA, .inl (κ 0, 2, .inl mo_seeds))]) ([(moo, .inr (9, [.ref mo_toldA, .ref mo_stA, .int mo_isThere, .int mo_seed, .ref mo_textA, .int mo_typed, .int mo_faultAt, .int mo_place, .int mo_wrong, .int mo_value, .ref mo_readA, .ref mo_aheadA, .int mo_undoMany, .ref mo_asideA, .ref mo_weighingsA, .int mo_weighed, .ref mo_bookA, .int mo_entries, .ref mo_isKeptA, .ref mo_keptA, .ref mo_seedsA])), (mo_toldA, .inl (κ 0, 37, .inl mo_told)), (mo_stA, .inl (κ 0, 17, .inl mo_st)), (mo_textA, .inl (κ 0, 240, .inl mo_text)), (mo_readA, .inl (κ 0, 37, .inl mo_read)), (mo_aheadA, .inl (κ 0, 340, .inl mo_ahead)), (mo_asideA, .inl (κ 0, 17, .inl mo_aside)), (mo_weighingsA, .inl (κ 0, 12, .inl mo_weighings)), (mo_bookA, .inl (κ 0, 30, .inl mo_book)), (mo_isKeptA, .inl (κ 1, 2, .inl mo_isKept)), (mo_keptA, .inl (κ 0, 34, .inl mo_kept)), (mo_seedsA, .inl (κ 0, 2, .inl mo_seeds))]) r0 := by
  refine krI_of (cc := cX9_spread) (maxL := 12) (rt := .int) (by decide) rfl (Nat.le_of_ble_eq_true rfl) ?_
  intro p e s m args below meth c A Q ls hx hb hml hown hts hK hA hret hP hD hS hl
  have hown : s.vm.findClass RX9 = some m.cls := hown
  have hl : lv_has ls 12 [(0, .ref moo), (1, .int x1), (2, .int x2)] := hl
  have iw9 : ∀ w ∈ u_ws RX9 TX9 21, w ∈ wsX9_spread := (fun _ h => List.mem_cons_of_mem _ (List.mem_append_right _ h))
  have k0 : (Cond.constant RX9 126 (-1000000001)).before args s = true := hts _ (List.mem_of_getElem? (i := 1) rfl)
  have k1 : (Cond.constantLong RX9 179 (9999)).before args s = true := hts _ (List.mem_of_getElem? (i := 2) rfl)
  have k2 : (Cond.constant RX9 54 (-1000000002)).before args s = true := hts _ (List.mem_of_getElem? (i := 3) rfl)
  have k3 : (Cond.fieldLink RX9 7 "KingRansomModel" "told" "[I").before args s = true := hts _ (List.mem_of_getElem? (i := 4) rfl)
  have L198 : ∀ (n198 : Nat) (v5 : Int32) (v6 : Int32) (H : Heap) (locs : List Loc) (ls : Array Slot), va_P D vwCl ([(moo, .inr (9, [.ref mo_toldA, .ref mo_stA, .int mo_isThere, .int mo_seed, .ref mo_textA, .int mo_typed, .int mo_faultAt, .int mo_place, .int mo_wrong, .int mo_value, .ref mo_readA, .ref mo_aheadA, .int mo_undoMany, .ref mo_asideA, .ref mo_weighingsA, .int mo_weighed, .ref mo_bookA, .int mo_entries, .ref mo_isKeptA, .ref mo_keptA, .ref mo_seedsA])), (mo_toldA, .inl (κ 0, 37, .inl mo_told)), (mo_stA, .inl (κ 0, 17, .inl mo_st)), (mo_textA, .inl (κ 0, 240, .inl mo_text)), (mo_readA, .inl (κ 0, 37, .inl mo_read)), (mo_aheadA, .inl (κ 0, 340, .inl mo_ahead)), (mo_asideA, .inl (κ 0, 17, .inl mo_aside)), (mo_weighingsA, .inl (κ 0, 12, .inl mo_weighings)), (mo_bookA, .inl (κ 0, 30, .inl mo_book)), (mo_isKeptA, .inl (κ 1, 2, .inl mo_isKept)), (mo_keptA, .inl (κ 0, 34, .inl mo_kept)), (mo_seedsA, .inl (κ 0, 2, .inl mo_seeds))]) H → va_D A ([(moo, .inr (9, [.ref mo_toldA, .ref mo_stA, .int mo_isThere, .int mo_seed, .ref mo_textA, .int mo_typed, .int mo_faultAt, .int mo_place, .int mo_wrong, .int mo_value, .ref mo_readA, .ref mo_aheadA, .int mo_undoMany, .ref mo_asideA, .ref mo_weighingsA, .int mo_weighed, .ref mo_bookA, .int mo_entries, .ref mo_isKeptA, .ref mo_keptA, .ref mo_seedsA])), (mo_toldA, .inl (κ 0, 37, .inl mo_told)), (mo_stA, .inl (κ 0, 17, .inl mo_st)), (mo_textA, .inl (κ 0, 240, .inl mo_text)), (mo_readA, .inl (κ 0, 37, .inl mo_read)), (mo_aheadA, .inl (κ 0, 340, .inl mo_ahead)), (mo_asideA, .inl (κ 0, 17, .inl mo_aside)), (mo_weighingsA, .inl (κ 0, 12, .inl mo_weighings)), (mo_bookA, .inl (κ 0, 30, .inl mo_book)), (mo_isKeptA, .inl (κ 1, 2, .inl mo_isKept)), (mo_keptA, .inl (κ 0, 34, .inl mo_kept)), (mo_seedsA, .inl (κ 0, 2, .inl mo_seeds))]) → va_S A s.heap H locs → lv_has ls 12 [(2, .int x2), (5, .int v5), (6, .int v6)] → pX9_spread_L198 x2 n198 v5 v6 = some (r0) → W p l e { frames := 2, cells := 0, slots := 0, locals := 200 } s m args below meth c H locs 0 0 Q (F0 m 198 ls []) := by
    intro n198
    induction n198 with
    | zero =>
      intro v5 v6 H locs ls hP hD hS hl hres
      exact absurd (show none = some _ from hres) (by simp)
    | succ n198 ih198 =>
      intro v5 v6 H locs ls hP hD hS hl hres
      rw [pX9_spread_L198] at hres
      refine lv_iload hx hb dX9_spread_198 (lv_at hl 2 rfl) ?_
      refine lv_iload_n hx hb dX9_spread_200 rfl (lv_at hl 0 rfl) ?_
      refine lv_icmp_le (tgt := 216) hx hb dX9_spread_201 (by decide) (fun c12 => ?_) (fun c12 => ?_)
      · replace hres := og_t c12 hres
        refine lv_iload hx hb dX9_spread_216 (lv_at hl 1 rfl) ?_
        refine lv_iconst (v := 5) hx hb dX9_spread_218 (by decide) ?_
        refine lv_irem hx hb dX9_spread_219 (by decide) ?_
        refine lv_bipush (v := 25) hx hb dX9_spread_220 (by decide) ?_
        refine lv_imul hx hb dX9_spread_222 ?_
        have hres := Option.some.inj hres
        have h0 := hres
        subst h0
        exact hret _ _ _ _ (vp_nar_int _) hP hD hS dX9_spread_223
      · replace hres := og_f c12 hres
        refine lv_iload hx hb dX9_spread_204 (lv_at hl 1 rfl) ?_
        refine lv_iconst (v := 5) hx hb dX9_spread_206 (by decide) ?_
        refine lv_idiv hx hb dX9_spread_207 (by decide) ?_
        refine lv_istore (lv' := [(5, .int (v5 / 5)), (2, .int x2), (6, .int v6)]) hx hb dX9_spread_208 hl (by decide) rfl (fun ls hl => ?_)
        refine lv_iinc (v := (v6 + (-1))) (lv' := [(6, .int (v6 + (-1))), (5, .int (v5 / 5)), (2, .int x2)]) hx hb dX9_spread_210 hl (k := 2) rfl rfl (by decide) rfl (fun ls hl => ?_)
        refine lv_goto (tgt := 198) hx hb dX9_spread_213 (by decide) ?_
        exact ih198 (v5 / 5) (v6 + (-1)) _ _ _ hP hD hS (lv_sub hl [2, 1, 0] rfl) hres
  have L66 : ∀ (n66 : Nat) (v3 : Int32) (v4 : Int32) (v5 : Int32) (v6 : Int32) (H : Heap) (locs : List Loc) (ls : Array Slot), va_P D vwCl ([(moo, .inr (9, [.ref mo_toldA, .ref mo_stA, .int mo_isThere, .int mo_seed, .ref mo_textA, .int mo_typed, .int mo_faultAt, .int mo_place, .int mo_wrong, .int mo_value, .ref mo_readA, .ref mo_aheadA, .int mo_undoMany, .ref mo_asideA, .ref mo_weighingsA, .int mo_weighed, .ref mo_bookA, .int mo_entries, .ref mo_isKeptA, .ref mo_keptA, .ref mo_seedsA])), (mo_toldA, .inl (κ 0, 37, .inl mo_told)), (mo_stA, .inl (κ 0, 17, .inl mo_st)), (mo_textA, .inl (κ 0, 240, .inl mo_text)), (mo_readA, .inl (κ 0, 37, .inl mo_read)), (mo_aheadA, .inl (κ 0, 340, .inl mo_ahead)), (mo_asideA, .inl (κ 0, 17, .inl mo_aside)), (mo_weighingsA, .inl (κ 0, 12, .inl mo_weighings)), (mo_bookA, .inl (κ 0, 30, .inl mo_book)), (mo_isKeptA, .inl (κ 1, 2, .inl mo_isKept)), (mo_keptA, .inl (κ 0, 34, .inl mo_kept)), (mo_seedsA, .inl (κ 0, 2, .inl mo_seeds))]) H → va_D A ([(moo, .inr (9, [.ref mo_toldA, .ref mo_stA, .int mo_isThere, .int mo_seed, .ref mo_textA, .int mo_typed, .int mo_faultAt, .int mo_place, .int mo_wrong, .int mo_value, .ref mo_readA, .ref mo_aheadA, .int mo_undoMany, .ref mo_asideA, .ref mo_weighingsA, .int mo_weighed, .ref mo_bookA, .int mo_entries, .ref mo_isKeptA, .ref mo_keptA, .ref mo_seedsA])), (mo_toldA, .inl (κ 0, 37, .inl mo_told)), (mo_stA, .inl (κ 0, 17, .inl mo_st)), (mo_textA, .inl (κ 0, 240, .inl mo_text)), (mo_readA, .inl (κ 0, 37, .inl mo_read)), (mo_aheadA, .inl (κ 0, 340, .inl mo_ahead)), (mo_asideA, .inl (κ 0, 17, .inl mo_aside)), (mo_weighingsA, .inl (κ 0, 12, .inl mo_weighings)), (mo_bookA, .inl (κ 0, 30, .inl mo_book)), (mo_isKeptA, .inl (κ 1, 2, .inl mo_isKept)), (mo_keptA, .inl (κ 0, 34, .inl mo_kept)), (mo_seedsA, .inl (κ 0, 2, .inl mo_seeds))]) → va_S A s.heap H locs → lv_has ls 12 [(0, .ref moo), (1, .int x1), (2, .int x2), (3, .int v3), (4, .int v4), (5, .int v5), (6, .int v6)] → pX9_spread_L66 N x1 x2 mo_told mo_st n66 v3 v4 v5 v6 = some (r0) → W p l e { frames := 2, cells := 0, slots := 0, locals := 200 } s m args below meth c H locs 0 0 Q (F0 m 66 ls []) := by
    intro n66
    induction n66 with
    | zero =>
      intro v3 v4 v5 v6 H locs ls hP hD hS hl hres
      exact absurd (show none = some _ from hres) (by simp)
    | succ n66 ih66 =>
      intro v3 v4 v5 v6 H locs ls hP hD hS hl hres
      have L170 : ∀ (v3 : Int32) (v4 : Int32) (v5 : Int32) (v6 : Int32) (H : Heap) (locs : List Loc) (ls : Array Slot), va_P D vwCl ([(moo, .inr (9, [.ref mo_toldA, .ref mo_stA, .int mo_isThere, .int mo_seed, .ref mo_textA, .int mo_typed, .int mo_faultAt, .int mo_place, .int mo_wrong, .int mo_value, .ref mo_readA, .ref mo_aheadA, .int mo_undoMany, .ref mo_asideA, .ref mo_weighingsA, .int mo_weighed, .ref mo_bookA, .int mo_entries, .ref mo_isKeptA, .ref mo_keptA, .ref mo_seedsA])), (mo_toldA, .inl (κ 0, 37, .inl mo_told)), (mo_stA, .inl (κ 0, 17, .inl mo_st)), (mo_textA, .inl (κ 0, 240, .inl mo_text)), (mo_readA, .inl (κ 0, 37, .inl mo_read)), (mo_aheadA, .inl (κ 0, 340, .inl mo_ahead)), (mo_asideA, .inl (κ 0, 17, .inl mo_aside)), (mo_weighingsA, .inl (κ 0, 12, .inl mo_weighings)), (mo_bookA, .inl (κ 0, 30, .inl mo_book)), (mo_isKeptA, .inl (κ 1, 2, .inl mo_isKept)), (mo_keptA, .inl (κ 0, 34, .inl mo_kept)), (mo_seedsA, .inl (κ 0, 2, .inl mo_seeds))]) H → va_D A ([(moo, .inr (9, [.ref mo_toldA, .ref mo_stA, .int mo_isThere, .int mo_seed, .ref mo_textA, .int mo_typed, .int mo_faultAt, .int mo_place, .int mo_wrong, .int mo_value, .ref mo_readA, .ref mo_aheadA, .int mo_undoMany, .ref mo_asideA, .ref mo_weighingsA, .int mo_weighed, .ref mo_bookA, .int mo_entries, .ref mo_isKeptA, .ref mo_keptA, .ref mo_seedsA])), (mo_toldA, .inl (κ 0, 37, .inl mo_told)), (mo_stA, .inl (κ 0, 17, .inl mo_st)), (mo_textA, .inl (κ 0, 240, .inl mo_text)), (mo_readA, .inl (κ 0, 37, .inl mo_read)), (mo_aheadA, .inl (κ 0, 340, .inl mo_ahead)), (mo_asideA, .inl (κ 0, 17, .inl mo_aside)), (mo_weighingsA, .inl (κ 0, 12, .inl mo_weighings)), (mo_bookA, .inl (κ 0, 30, .inl mo_book)), (mo_isKeptA, .inl (κ 1, 2, .inl mo_isKept)), (mo_keptA, .inl (κ 0, 34, .inl mo_kept)), (mo_seedsA, .inl (κ 0, 2, .inl mo_seeds))]) → va_S A s.heap H locs → lv_has ls 12 [(0, .ref moo), (1, .int x1), (2, .int x2), (3, .int v3), (4, .int v4), (5, .int v5), (6, .int v6)] → pX9_spread_L170 (pX9_spread_L66 N x1 x2 mo_told mo_st n66) v3 v4 v5 v6 = some (r0) → W p l e { frames := 2, cells := 0, slots := 0, locals := 200 } s m args below meth c H locs 0 0 Q (F0 m 170 ls []) := by
        intro v3 v4 v5 v6 H locs ls hP hD hS hl hres
        unfold pX9_spread_L170 at hres
        refine lv_iinc (v := (v6 + 1)) (lv' := [(6, .int (v6 + 1)), (0, .ref moo), (1, .int x1), (2, .int x2), (3, .int v3), (4, .int v4), (5, .int v5)]) hx hb dX9_spread_170 hl (k := 6) rfl rfl (by decide) rfl (fun ls hl => ?_)
        refine lv_goto (tgt := 66) hx hb dX9_spread_173 (by decide) ?_
        exact ih66 v3 v4 v5 (v6 + 1) _ _ _ hP hD hS (lv_sub hl [1, 2, 3, 4, 5, 6, 0] rfl) hres
      have L162 : ∀ (v3 : Int32) (v6 : Int32) (v9 : Int32) (H : Heap) (locs : List Loc) (ls : Array Slot), va_P D vwCl ([(moo, .inr (9, [.ref mo_toldA, .ref mo_stA, .int mo_isThere, .int mo_seed, .ref mo_textA, .int mo_typed, .int mo_faultAt, .int mo_place, .int mo_wrong, .int mo_value, .ref mo_readA, .ref mo_aheadA, .int mo_undoMany, .ref mo_asideA, .ref mo_weighingsA, .int mo_weighed, .ref mo_bookA, .int mo_entries, .ref mo_isKeptA, .ref mo_keptA, .ref mo_seedsA])), (mo_toldA, .inl (κ 0, 37, .inl mo_told)), (mo_stA, .inl (κ 0, 17, .inl mo_st)), (mo_textA, .inl (κ 0, 240, .inl mo_text)), (mo_readA, .inl (κ 0, 37, .inl mo_read)), (mo_aheadA, .inl (κ 0, 340, .inl mo_ahead)), (mo_asideA, .inl (κ 0, 17, .inl mo_aside)), (mo_weighingsA, .inl (κ 0, 12, .inl mo_weighings)), (mo_bookA, .inl (κ 0, 30, .inl mo_book)), (mo_isKeptA, .inl (κ 1, 2, .inl mo_isKept)), (mo_keptA, .inl (κ 0, 34, .inl mo_kept)), (mo_seedsA, .inl (κ 0, 2, .inl mo_seeds))]) H → va_D A ([(moo, .inr (9, [.ref mo_toldA, .ref mo_stA, .int mo_isThere, .int mo_seed, .ref mo_textA, .int mo_typed, .int mo_faultAt, .int mo_place, .int mo_wrong, .int mo_value, .ref mo_readA, .ref mo_aheadA, .int mo_undoMany, .ref mo_asideA, .ref mo_weighingsA, .int mo_weighed, .ref mo_bookA, .int mo_entries, .ref mo_isKeptA, .ref mo_keptA, .ref mo_seedsA])), (mo_toldA, .inl (κ 0, 37, .inl mo_told)), (mo_stA, .inl (κ 0, 17, .inl mo_st)), (mo_textA, .inl (κ 0, 240, .inl mo_text)), (mo_readA, .inl (κ 0, 37, .inl mo_read)), (mo_aheadA, .inl (κ 0, 340, .inl mo_ahead)), (mo_asideA, .inl (κ 0, 17, .inl mo_aside)), (mo_weighingsA, .inl (κ 0, 12, .inl mo_weighings)), (mo_bookA, .inl (κ 0, 30, .inl mo_book)), (mo_isKeptA, .inl (κ 1, 2, .inl mo_isKept)), (mo_keptA, .inl (κ 0, 34, .inl mo_kept)), (mo_seedsA, .inl (κ 0, 2, .inl mo_seeds))]) → va_S A s.heap H locs → lv_has ls 12 [(0, .ref moo), (1, .int x1), (2, .int x2), (3, .int v3), (6, .int v6), (9, .int v9)] → pX9_spread_L162 (pX9_spread_L66 N x1 x2 mo_told mo_st n66) v3 v6 v9 = some (r0) → W p l e { frames := 2, cells := 0, slots := 0, locals := 200 } s m args below meth c H locs 0 0 Q (F0 m 162 ls []) := by
        intro v3 v6 v9 H locs ls hP hD hS hl hres
        unfold pX9_spread_L162 at hres
        refine lv_iload hx hb dX9_spread_162 (lv_at hl 5 rfl) ?_
        refine lv_istore (lv' := [(4, .int v9), (0, .ref moo), (1, .int x1), (2, .int x2), (3, .int v3), (6, .int v6), (9, .int v9)]) hx hb dX9_spread_164 hl (by decide) rfl (fun ls hl => ?_)
        refine lv_iload hx hb dX9_spread_166 (lv_at hl 5 rfl) ?_
        refine lv_istore (lv' := [(5, .int v6), (4, .int v9), (0, .ref moo), (1, .int x1), (2, .int x2), (3, .int v3), (6, .int v6), (9, .int v9)]) hx hb dX9_spread_168 hl (by decide) rfl (fun ls hl => ?_)
        exact L170 v3 v9 v6 v6 _ _ _ hP hD hS (lv_sub hl [2, 3, 4, 5, 1, 0, 6] rfl) hres
      have L92 : ∀ (n92 : Nat) (v3 : Int32) (v4 : Int32) (v5 : Int32) (v6 : Int32) (v7 : Int32) (v8 : Int32) (v9 : Int32) (v10 : Int32) (H : Heap) (locs : List Loc) (ls : Array Slot), va_P D vwCl ([(moo, .inr (9, [.ref mo_toldA, .ref mo_stA, .int mo_isThere, .int mo_seed, .ref mo_textA, .int mo_typed, .int mo_faultAt, .int mo_place, .int mo_wrong, .int mo_value, .ref mo_readA, .ref mo_aheadA, .int mo_undoMany, .ref mo_asideA, .ref mo_weighingsA, .int mo_weighed, .ref mo_bookA, .int mo_entries, .ref mo_isKeptA, .ref mo_keptA, .ref mo_seedsA])), (mo_toldA, .inl (κ 0, 37, .inl mo_told)), (mo_stA, .inl (κ 0, 17, .inl mo_st)), (mo_textA, .inl (κ 0, 240, .inl mo_text)), (mo_readA, .inl (κ 0, 37, .inl mo_read)), (mo_aheadA, .inl (κ 0, 340, .inl mo_ahead)), (mo_asideA, .inl (κ 0, 17, .inl mo_aside)), (mo_weighingsA, .inl (κ 0, 12, .inl mo_weighings)), (mo_bookA, .inl (κ 0, 30, .inl mo_book)), (mo_isKeptA, .inl (κ 1, 2, .inl mo_isKept)), (mo_keptA, .inl (κ 0, 34, .inl mo_kept)), (mo_seedsA, .inl (κ 0, 2, .inl mo_seeds))]) H → va_D A ([(moo, .inr (9, [.ref mo_toldA, .ref mo_stA, .int mo_isThere, .int mo_seed, .ref mo_textA, .int mo_typed, .int mo_faultAt, .int mo_place, .int mo_wrong, .int mo_value, .ref mo_readA, .ref mo_aheadA, .int mo_undoMany, .ref mo_asideA, .ref mo_weighingsA, .int mo_weighed, .ref mo_bookA, .int mo_entries, .ref mo_isKeptA, .ref mo_keptA, .ref mo_seedsA])), (mo_toldA, .inl (κ 0, 37, .inl mo_told)), (mo_stA, .inl (κ 0, 17, .inl mo_st)), (mo_textA, .inl (κ 0, 240, .inl mo_text)), (mo_readA, .inl (κ 0, 37, .inl mo_read)), (mo_aheadA, .inl (κ 0, 340, .inl mo_ahead)), (mo_asideA, .inl (κ 0, 17, .inl mo_aside)), (mo_weighingsA, .inl (κ 0, 12, .inl mo_weighings)), (mo_bookA, .inl (κ 0, 30, .inl mo_book)), (mo_isKeptA, .inl (κ 1, 2, .inl mo_isKept)), (mo_keptA, .inl (κ 0, 34, .inl mo_kept)), (mo_seedsA, .inl (κ 0, 2, .inl mo_seeds))]) → va_S A s.heap H locs → lv_has ls 12 [(0, .ref moo), (1, .int x1), (2, .int x2), (3, .int v3), (4, .int v4), (5, .int v5), (6, .int v6), (7, .int v7), (8, .int v8), (9, .int v9), (10, .int v10)] → pX9_spread_L92 (pX9_spread_L66 N x1 x2 mo_told mo_st n66) x1 mo_told mo_st n92 v3 v4 v5 v6 v7 v8 v9 v10 = some (r0) → W p l e { frames := 2, cells := 0, slots := 0, locals := 200 } s m args below meth c H locs 0 0 Q (F0 m 92 ls []) := by
        intro n92
        induction n92 with
        | zero =>
          intro v3 v4 v5 v6 v7 v8 v9 v10 H locs ls hP hD hS hl hres
          exact absurd (show none = some _ from hres) (by simp)
        | succ n92 ih92 =>
          intro v3 v4 v5 v6 v7 v8 v9 v10 H locs ls hP hD hS hl hres
          rw [pX9_spread_L92] at hres
          refine lv_iload hx hb dX9_spread_92 (lv_at hl 10 rfl) ?_
          refine lv_if_lt (tgt := 144) hx hb dX9_spread_94 (by decide) (fun c13 => ?_) (fun c13 => ?_)
          · replace hres := og_t c13 hres
            refine lv_iload hx hb dX9_spread_144 (lv_at hl 8 rfl) ?_
            refine lv_iload_n hx hb dX9_spread_146 rfl (lv_at hl 1 rfl) ?_
            refine lv_icmp_lt (tgt := 170) hx hb dX9_spread_147 (by decide) (fun c14 => ?_) (fun c14 => ?_)
            · replace hres := og_t c14 hres
              exact L170 v3 v4 v5 v6 _ _ _ hP hD hS (lv_sub hl [0, 1, 2, 3, 4, 5, 6] rfl) hres
            · replace hres := og_f c14 hres
              refine lv_iload hx hb dX9_spread_150 (lv_at hl 4 rfl) ?_
              refine lv_if_lt (tgt := 162) hx hb dX9_spread_152 (by decide) (fun c15 => ?_) (fun c15 => ?_)
              · replace hres := og_t c15 hres
                exact L162 v3 v6 v9 _ _ _ hP hD hS (lv_sub hl [0, 1, 2, 3, 6, 9] rfl) hres
              · replace hres := og_f c15 hres
                refine lv_iload hx hb dX9_spread_155 (lv_at hl 9 rfl) ?_
                refine lv_iload hx hb dX9_spread_157 (lv_at hl 4 rfl) ?_
                refine lv_icmp_ge (tgt := 170) hx hb dX9_spread_159 (by decide) (fun c16 => ?_) (fun c16 => ?_)
                · replace hres := og_t c16 hres
                  exact L170 v3 v4 v5 v6 _ _ _ hP hD hS (lv_sub hl [0, 1, 2, 3, 4, 5, 6] rfl) hres
                · replace hres := og_f c16 hres
                  exact L162 v3 v6 v9 _ _ _ hP hD hS (lv_sub hl [0, 1, 2, 3, 6, 9] rfl) hres
          · replace hres := og_f c13 hres
            refine lv_iload hx hb dX9_spread_97 (lv_at hl 7 rfl) ?_
            refine lv_iconst (v := 5) hx hb dX9_spread_99 (by decide) ?_
            refine lv_irem hx hb dX9_spread_100 (by decide) ?_
            refine lv_bipush (v := 25) hx hb dX9_spread_101 (by decide) ?_
            refine lv_imul hx hb dX9_spread_103 ?_
            refine lv_istore (lv' := [(11, .int ((v7 - v7 / 5 * 5) * 25)), (0, .ref moo), (1, .int x1), (2, .int x2), (3, .int v3), (4, .int v4), (5, .int v5), (6, .int v6), (7, .int v7), (8, .int v8), (9, .int v9), (10, .int v10)]) hx hb dX9_spread_104 hl (by decide) rfl (fun ls hl => ?_)
            refine lv_iload hx hb dX9_spread_106 (lv_at hl 8 rfl) ?_
            refine lv_iconst (v := 5) hx hb dX9_spread_108 (by decide) ?_
            refine lv_idiv hx hb dX9_spread_109 (by decide) ?_
            refine lv_istore (lv' := [(7, .int (v7 / 5)), (11, .int ((v7 - v7 / 5 * 5) * 25)), (0, .ref moo), (1, .int x1), (2, .int x2), (3, .int v3), (4, .int v4), (5, .int v5), (6, .int v6), (8, .int v8), (9, .int v9), (10, .int v10)]) hx hb dX9_spread_110 hl (by decide) rfl (fun ls hl => ?_)
            refine lv_iload hx hb dX9_spread_112 (lv_at hl 9 rfl) ?_
            refine lv_aload_n hx hb dX9_spread_114 rfl (lv_at hl 2 rfl) ?_
            refine lv_iload hx hb dX9_spread_115 (lv_at hl 11 rfl) ?_
            refine lv_iload hx hb dX9_spread_117 (lv_at hl 1 rfl) ?_
            obtain ⟨r17, hc18, hres⟩ := kb1_s hres
            refine krI_V (As := [.int v10, .int ((v7 - v7 / 5 * 5) * 25)]) (rest := [.int v8]) (wr := []) ⟨hx, hb, hml, hown, hts⟩ hK (tX9_paysBy l D κ moo mo_toldA mo_stA mo_textA mo_readA mo_aheadA mo_asideA mo_weighingsA mo_bookA mo_isKeptA mo_keptA mo_seedsA mo_told mo_st mo_isThere mo_seed mo_text mo_typed mo_faultAt mo_place mo_wrong mo_value mo_read mo_ahead mo_undoMany mo_aside mo_weighings mo_weighed mo_book mo_entries mo_isKept mo_kept mo_seeds v10 ((v7 - v7 / 5 * 5) * 25) r17 hc18) (cwV 2 hts gX9_spread_X9_paysBy rfl rfl rfl (by decide +kernel) ⟨(Nat.le_of_ble_eq_true rfl), (Nat.le_of_ble_eq_true rfl)⟩) rfl rfl rfl hP hD hS hA [0, 1, 2, 3, 4, 5, 6, 7, 8, 9, 10, 11] [] rfl rfl rfl rfl (by decide) rfl hl.1 rfl (Nat.le_of_ble_eq_true rfl) dX9_spread_119 ⟨Nat.zero_le _, Nat.zero_le _⟩ (fun H locs hP hD hS => ?_)
            have hP : va_P D vwCl ([(moo, .inr (9, [.ref mo_toldA, .ref mo_stA, .int mo_isThere, .int mo_seed, .ref mo_textA, .int mo_typed, .int mo_faultAt, .int mo_place, .int mo_wrong, .int mo_value, .ref mo_readA, .ref mo_aheadA, .int mo_undoMany, .ref mo_asideA, .ref mo_weighingsA, .int mo_weighed, .ref mo_bookA, .int mo_entries, .ref mo_isKeptA, .ref mo_keptA, .ref mo_seedsA])), (mo_toldA, .inl (κ 0, 37, .inl mo_told)), (mo_stA, .inl (κ 0, 17, .inl mo_st)), (mo_textA, .inl (κ 0, 240, .inl mo_text)), (mo_readA, .inl (κ 0, 37, .inl mo_read)), (mo_aheadA, .inl (κ 0, 340, .inl mo_ahead)), (mo_asideA, .inl (κ 0, 17, .inl mo_aside)), (mo_weighingsA, .inl (κ 0, 12, .inl mo_weighings)), (mo_bookA, .inl (κ 0, 30, .inl mo_book)), (mo_isKeptA, .inl (κ 1, 2, .inl mo_isKept)), (mo_keptA, .inl (κ 0, 34, .inl mo_kept)), (mo_seedsA, .inl (κ 0, 2, .inl mo_seeds))]) H := hP
            have hD : va_D A ([(moo, .inr (9, [.ref mo_toldA, .ref mo_stA, .int mo_isThere, .int mo_seed, .ref mo_textA, .int mo_typed, .int mo_faultAt, .int mo_place, .int mo_wrong, .int mo_value, .ref mo_readA, .ref mo_aheadA, .int mo_undoMany, .ref mo_asideA, .ref mo_weighingsA, .int mo_weighed, .ref mo_bookA, .int mo_entries, .ref mo_isKeptA, .ref mo_keptA, .ref mo_seedsA])), (mo_toldA, .inl (κ 0, 37, .inl mo_told)), (mo_stA, .inl (κ 0, 17, .inl mo_st)), (mo_textA, .inl (κ 0, 240, .inl mo_text)), (mo_readA, .inl (κ 0, 37, .inl mo_read)), (mo_aheadA, .inl (κ 0, 340, .inl mo_ahead)), (mo_asideA, .inl (κ 0, 17, .inl mo_aside)), (mo_weighingsA, .inl (κ 0, 12, .inl mo_weighings)), (mo_bookA, .inl (κ 0, 30, .inl mo_book)), (mo_isKeptA, .inl (κ 1, 2, .inl mo_isKept)), (mo_keptA, .inl (κ 0, 34, .inl mo_kept)), (mo_seedsA, .inl (κ 0, 2, .inl mo_seeds))]) := hD
            refine lv_iadd hx hb dX9_spread_122 ?_
            refine lv_istore (lv' := [(8, .int (v8 + r17)), (7, .int (v7 / 5)), (11, .int ((v7 - v7 / 5 * 5) * 25)), (0, .ref moo), (1, .int x1), (2, .int x2), (3, .int v3), (4, .int v4), (5, .int v5), (6, .int v6), (9, .int v9), (10, .int v10)]) hx hb dX9_spread_123 hl (by decide) rfl (fun ls hl => ?_)
            refine lv_iload hx hb dX9_spread_125 (lv_at hl 10 rfl) ?_
            refine lv_aload_n hx hb dX9_spread_127 rfl (lv_at hl 3 rfl) ?_
            refine lv_iload hx hb dX9_spread_128 (lv_at hl 11 rfl) ?_
            refine lv_iload hx hb dX9_spread_130 (lv_at hl 2 rfl) ?_
            obtain ⟨r19, hc20, hres⟩ := kb1_s hres
            refine krI_V (As := [.int v10, .int ((v7 - v7 / 5 * 5) * 25)]) (rest := [.int v9]) (wr := []) ⟨hx, hb, hml, hown, hts⟩ hK (tX9_hiddenBy l D κ moo mo_toldA mo_stA mo_textA mo_readA mo_aheadA mo_asideA mo_weighingsA mo_bookA mo_isKeptA mo_keptA mo_seedsA mo_told mo_st mo_isThere mo_seed mo_text mo_typed mo_faultAt mo_place mo_wrong mo_value mo_read mo_ahead mo_undoMany mo_aside mo_weighings mo_weighed mo_book mo_entries mo_isKept mo_kept mo_seeds v10 ((v7 - v7 / 5 * 5) * 25) r19 hc20) (cwV 2 hts gX9_spread_X9_hiddenBy rfl rfl rfl (by decide +kernel) ⟨(Nat.le_of_ble_eq_true rfl), (Nat.le_of_ble_eq_true rfl)⟩) rfl rfl rfl hP hD hS hA [0, 1, 2, 3, 4, 5, 6, 7, 8, 9, 10, 11] [] rfl rfl rfl rfl (by decide) rfl hl.1 rfl (Nat.le_of_ble_eq_true rfl) dX9_spread_132 ⟨Nat.zero_le _, Nat.zero_le _⟩ (fun H locs hP hD hS => ?_)
            have hP : va_P D vwCl ([(moo, .inr (9, [.ref mo_toldA, .ref mo_stA, .int mo_isThere, .int mo_seed, .ref mo_textA, .int mo_typed, .int mo_faultAt, .int mo_place, .int mo_wrong, .int mo_value, .ref mo_readA, .ref mo_aheadA, .int mo_undoMany, .ref mo_asideA, .ref mo_weighingsA, .int mo_weighed, .ref mo_bookA, .int mo_entries, .ref mo_isKeptA, .ref mo_keptA, .ref mo_seedsA])), (mo_toldA, .inl (κ 0, 37, .inl mo_told)), (mo_stA, .inl (κ 0, 17, .inl mo_st)), (mo_textA, .inl (κ 0, 240, .inl mo_text)), (mo_readA, .inl (κ 0, 37, .inl mo_read)), (mo_aheadA, .inl (κ 0, 340, .inl mo_ahead)), (mo_asideA, .inl (κ 0, 17, .inl mo_aside)), (mo_weighingsA, .inl (κ 0, 12, .inl mo_weighings)), (mo_bookA, .inl (κ 0, 30, .inl mo_book)), (mo_isKeptA, .inl (κ 1, 2, .inl mo_isKept)), (mo_keptA, .inl (κ 0, 34, .inl mo_kept)), (mo_seedsA, .inl (κ 0, 2, .inl mo_seeds))]) H := hP
            have hD : va_D A ([(moo, .inr (9, [.ref mo_toldA, .ref mo_stA, .int mo_isThere, .int mo_seed, .ref mo_textA, .int mo_typed, .int mo_faultAt, .int mo_place, .int mo_wrong, .int mo_value, .ref mo_readA, .ref mo_aheadA, .int mo_undoMany, .ref mo_asideA, .ref mo_weighingsA, .int mo_weighed, .ref mo_bookA, .int mo_entries, .ref mo_isKeptA, .ref mo_keptA, .ref mo_seedsA])), (mo_toldA, .inl (κ 0, 37, .inl mo_told)), (mo_stA, .inl (κ 0, 17, .inl mo_st)), (mo_textA, .inl (κ 0, 240, .inl mo_text)), (mo_readA, .inl (κ 0, 37, .inl mo_read)), (mo_aheadA, .inl (κ 0, 340, .inl mo_ahead)), (mo_asideA, .inl (κ 0, 17, .inl mo_aside)), (mo_weighingsA, .inl (κ 0, 12, .inl mo_weighings)), (mo_bookA, .inl (κ 0, 30, .inl mo_book)), (mo_isKeptA, .inl (κ 1, 2, .inl mo_isKept)), (mo_keptA, .inl (κ 0, 34, .inl mo_kept)), (mo_seedsA, .inl (κ 0, 2, .inl mo_seeds))]) := hD
            refine lv_iadd hx hb dX9_spread_135 ?_
            refine lv_istore (lv' := [(9, .int (v9 + r19)), (8, .int (v8 + r17)), (7, .int (v7 / 5)), (11, .int ((v7 - v7 / 5 * 5) * 25)), (0, .ref moo), (1, .int x1), (2, .int x2), (3, .int v3), (4, .int v4), (5, .int v5), (6, .int v6), (10, .int v10)]) hx hb dX9_spread_136 hl (by decide) rfl (fun ls hl => ?_)
            refine lv_iinc (v := (v10 + (-1))) (lv' := [(10, .int (v10 + (-1))), (9, .int (v9 + r19)), (8, .int (v8 + r17)), (7, .int (v7 / 5)), (11, .int ((v7 - v7 / 5 * 5) * 25)), (0, .ref moo), (1, .int x1), (2, .int x2), (3, .int v3), (4, .int v4), (5, .int v5), (6, .int v6)]) hx hb dX9_spread_138 hl (k := 11) rfl rfl (by decide) rfl (fun ls hl => ?_)
            refine lv_goto (tgt := 92) hx hb dX9_spread_141 (by decide) ?_
            exact ih92 v3 v4 v5 v6 (v7 / 5) (v8 + r17) (v9 + r19) (v10 + (-1)) _ _ _ hP hD hS (lv_sub hl [5, 6, 7, 8, 9, 10, 11, 3, 2, 1, 0] rfl) hres
      rw [pX9_spread_L66] at hres
      refine lv_iload hx hb dX9_spread_66 (lv_at hl 6 rfl) ?_
      refine lv_iload_n hx hb dX9_spread_68 rfl (lv_at hl 3 rfl) ?_
      refine lv_icmp_ge (tgt := 176) hx hb dX9_spread_69 (by decide) (fun c9 => ?_) (fun c9 => ?_)
      · replace hres := og_t c9 hres
        refine lv_iload hx hb dX9_spread_176 (lv_at hl 4 rfl) ?_
        refine lv_if_lt (tgt := 185) hx hb dX9_spread_178 (by decide) (fun c10 => ?_) (fun c10 => ?_)
        · replace hres := og_t c10 hres
          refine lv_iload hx hb dX9_spread_185 (lv_at hl 4 rfl) ?_
          have hres := Option.some.inj hres
          have h0 := hres
          subst h0
          exact hret _ _ _ _ (vp_nar_int _) hP hD hS dX9_spread_187
        · replace hres := og_f c10 hres
          refine lv_iload_n hx hb dX9_spread_181 rfl (lv_at hl 2 rfl) ?_
          refine lv_if_ge (tgt := 188) hx hb dX9_spread_182 (by decide) (fun c11 => ?_) (fun c11 => ?_)
          · replace hres := og_t c11 hres
            refine lv_aload_n hx hb dX9_spread_188 rfl (lv_at hl 0 rfl) ?_
            refine va_get (D := D) (ci := 9) (v := .ref mo_toldA) (C := RX9) (T := TX9) (N := 21) hx hb hts iw9 hown hK.1 hP 0 rfl rfl 0 (by decide) k3 (fun _ h9 => h9) rfl dX9_spread_189 ?_
            refine lv_iconst (v := 2) hx hb dX9_spread_192 (by decide) ?_
            refine kr_iald (f := mo_told) (j := 2) hx hb hK hP 1 rfl (by decide) (by decide) dX9_spread_193 ?_
            refine lv_iconst (v := 1) hx hb dX9_spread_194 (by decide) ?_
            refine lv_isub hx hb dX9_spread_195 ?_
            refine lv_istore (lv' := [(6, .int ((mo_told 2) - 1)), (0, .ref moo), (1, .int x1), (2, .int x2), (3, .int v3), (4, .int v4), (5, .int v5)]) hx hb dX9_spread_196 hl (by decide) rfl (fun ls hl => ?_)
            exact L198 N v5 ((mo_told 2) - 1) _ _ _ hP hD hS (lv_sub hl [3, 6, 0] rfl) hres
          · replace hres := og_f c11 hres
            refine lv_iload hx hb dX9_spread_185 (lv_at hl 4 rfl) ?_
            have hres := Option.some.inj hres
            have h0 := hres
            subst h0
            exact hret _ _ _ _ (vp_nar_int _) hP hD hS dX9_spread_187
      · replace hres := og_f c9 hres
        refine lv_iload hx hb dX9_spread_72 (lv_at hl 6 rfl) ?_
        refine lv_istore (lv' := [(7, .int v6), (0, .ref moo), (1, .int x1), (2, .int x2), (3, .int v3), (4, .int v4), (5, .int v5), (6, .int v6)]) hx hb dX9_spread_74 hl (by decide) rfl (fun ls hl => ?_)
        refine lv_iconst (v := 0) hx hb dX9_spread_76 (by decide) ?_
        refine lv_istore (lv' := [(8, .int 0), (7, .int v6), (0, .ref moo), (1, .int x1), (2, .int x2), (3, .int v3), (4, .int v4), (5, .int v5), (6, .int v6)]) hx hb dX9_spread_77 hl (by decide) rfl (fun ls hl => ?_)
        refine lv_iconst (v := 0) hx hb dX9_spread_79 (by decide) ?_
        refine lv_istore (lv' := [(9, .int 0), (8, .int 0), (7, .int v6), (0, .ref moo), (1, .int x1), (2, .int x2), (3, .int v3), (4, .int v4), (5, .int v5), (6, .int v6)]) hx hb dX9_spread_80 hl (by decide) rfl (fun ls hl => ?_)
        refine lv_aload_n hx hb dX9_spread_82 rfl (lv_at hl 3 rfl) ?_
        refine va_get (D := D) (ci := 9) (v := .ref mo_toldA) (C := RX9) (T := TX9) (N := 21) hx hb hts iw9 hown hK.1 hP 0 rfl rfl 0 (by decide) k3 (fun _ h9 => h9) rfl dX9_spread_83 ?_
        refine lv_iconst (v := 2) hx hb dX9_spread_86 (by decide) ?_
        refine kr_iald (f := mo_told) (j := 2) hx hb hK hP 1 rfl (by decide) (by decide) dX9_spread_87 ?_
        refine lv_iconst (v := 1) hx hb dX9_spread_88 (by decide) ?_
        refine lv_isub hx hb dX9_spread_89 ?_
        refine lv_istore (lv' := [(10, .int ((mo_told 2) - 1)), (9, .int 0), (8, .int 0), (7, .int v6), (0, .ref moo), (1, .int x1), (2, .int x2), (3, .int v3), (4, .int v4), (5, .int v5), (6, .int v6)]) hx hb dX9_spread_90 hl (by decide) rfl (fun ls hl => ?_)
        exact L92 N v3 v4 v5 v6 v6 0 0 ((mo_told 2) - 1) _ _ _ hP hD hS (lv_sub hl [4, 5, 6, 7, 8, 9, 10, 3, 2, 1, 0] rfl) hres
  have L36 : ∀ (n36 : Nat) (v3 : Int32) (v4 : Int32) (H : Heap) (locs : List Loc) (ls : Array Slot), va_P D vwCl ([(moo, .inr (9, [.ref mo_toldA, .ref mo_stA, .int mo_isThere, .int mo_seed, .ref mo_textA, .int mo_typed, .int mo_faultAt, .int mo_place, .int mo_wrong, .int mo_value, .ref mo_readA, .ref mo_aheadA, .int mo_undoMany, .ref mo_asideA, .ref mo_weighingsA, .int mo_weighed, .ref mo_bookA, .int mo_entries, .ref mo_isKeptA, .ref mo_keptA, .ref mo_seedsA])), (mo_toldA, .inl (κ 0, 37, .inl mo_told)), (mo_stA, .inl (κ 0, 17, .inl mo_st)), (mo_textA, .inl (κ 0, 240, .inl mo_text)), (mo_readA, .inl (κ 0, 37, .inl mo_read)), (mo_aheadA, .inl (κ 0, 340, .inl mo_ahead)), (mo_asideA, .inl (κ 0, 17, .inl mo_aside)), (mo_weighingsA, .inl (κ 0, 12, .inl mo_weighings)), (mo_bookA, .inl (κ 0, 30, .inl mo_book)), (mo_isKeptA, .inl (κ 1, 2, .inl mo_isKept)), (mo_keptA, .inl (κ 0, 34, .inl mo_kept)), (mo_seedsA, .inl (κ 0, 2, .inl mo_seeds))]) H → va_D A ([(moo, .inr (9, [.ref mo_toldA, .ref mo_stA, .int mo_isThere, .int mo_seed, .ref mo_textA, .int mo_typed, .int mo_faultAt, .int mo_place, .int mo_wrong, .int mo_value, .ref mo_readA, .ref mo_aheadA, .int mo_undoMany, .ref mo_asideA, .ref mo_weighingsA, .int mo_weighed, .ref mo_bookA, .int mo_entries, .ref mo_isKeptA, .ref mo_keptA, .ref mo_seedsA])), (mo_toldA, .inl (κ 0, 37, .inl mo_told)), (mo_stA, .inl (κ 0, 17, .inl mo_st)), (mo_textA, .inl (κ 0, 240, .inl mo_text)), (mo_readA, .inl (κ 0, 37, .inl mo_read)), (mo_aheadA, .inl (κ 0, 340, .inl mo_ahead)), (mo_asideA, .inl (κ 0, 17, .inl mo_aside)), (mo_weighingsA, .inl (κ 0, 12, .inl mo_weighings)), (mo_bookA, .inl (κ 0, 30, .inl mo_book)), (mo_isKeptA, .inl (κ 1, 2, .inl mo_isKept)), (mo_keptA, .inl (κ 0, 34, .inl mo_kept)), (mo_seedsA, .inl (κ 0, 2, .inl mo_seeds))]) → va_S A s.heap H locs → lv_has ls 12 [(0, .ref moo), (1, .int x1), (2, .int x2), (3, .int v3), (4, .int v4)] → pX9_spread_L36 N x1 x2 mo_told mo_st n36 v3 v4 = some (r0) → W p l e { frames := 2, cells := 0, slots := 0, locals := 200 } s m args below meth c H locs 0 0 Q (F0 m 36 ls []) := by
    intro n36
    induction n36 with
    | zero =>
      intro v3 v4 H locs ls hP hD hS hl hres
      exact absurd (show none = some _ from hres) (by simp)
    | succ n36 ih36 =>
      intro v3 v4 H locs ls hP hD hS hl hres
      rw [pX9_spread_L36] at hres
      refine lv_iload hx hb dX9_spread_36 (lv_at hl 4 rfl) ?_
      refine lv_aload_n hx hb dX9_spread_38 rfl (lv_at hl 0 rfl) ?_
      refine va_get (D := D) (ci := 9) (v := .ref mo_toldA) (C := RX9) (T := TX9) (N := 21) hx hb hts iw9 hown hK.1 hP 0 rfl rfl 0 (by decide) k3 (fun _ h9 => h9) rfl dX9_spread_39 ?_
      refine lv_iconst (v := 2) hx hb dX9_spread_42 (by decide) ?_
      refine kr_iald (f := mo_told) (j := 2) hx hb hK hP 1 rfl (by decide) (by decide) dX9_spread_43 ?_
      refine lv_icmp_ge (tgt := 57) hx hb dX9_spread_44 (by decide) (fun c8 => ?_) (fun c8 => ?_)
      · replace hres := og_t c8 hres
        refine lv_iconst (v := (-1)) hx hb dX9_spread_57 (by decide) ?_
        refine lv_istore (lv' := [(4, .int (-1)), (0, .ref moo), (1, .int x1), (2, .int x2), (3, .int v3)]) hx hb dX9_spread_58 hl (by decide) rfl (fun ls hl => ?_)
        refine lv_iconst (v := 0) hx hb dX9_spread_60 (by decide) ?_
        refine lv_istore (lv' := [(5, .int 0), (4, .int (-1)), (0, .ref moo), (1, .int x1), (2, .int x2), (3, .int v3)]) hx hb dX9_spread_61 hl (by decide) rfl (fun ls hl => ?_)
        refine lv_iconst (v := 0) hx hb dX9_spread_63 (by decide) ?_
        refine lv_istore (lv' := [(6, .int 0), (5, .int 0), (4, .int (-1)), (0, .ref moo), (1, .int x1), (2, .int x2), (3, .int v3)]) hx hb dX9_spread_64 hl (by decide) rfl (fun ls hl => ?_)
        exact L66 N v3 (-1) 0 0 _ _ _ hP hD hS (lv_sub hl [3, 4, 5, 6, 2, 1, 0] rfl) hres
      · replace hres := og_f c8 hres
        refine lv_iload_n hx hb dX9_spread_47 rfl (lv_at hl 3 rfl) ?_
        refine lv_iconst (v := 5) hx hb dX9_spread_48 (by decide) ?_
        refine lv_imul hx hb dX9_spread_49 ?_
        refine lv_istore_n (lv' := [(3, .int (v3 * 5)), (0, .ref moo), (1, .int x1), (2, .int x2), (4, .int v4)]) hx hb dX9_spread_50 rfl hl (by decide) rfl (fun ls hl => ?_)
        refine lv_iinc (v := (v4 + 1)) (lv' := [(4, .int (v4 + 1)), (3, .int (v3 * 5)), (0, .ref moo), (1, .int x1), (2, .int x2)]) hx hb dX9_spread_51 hl (k := 4) rfl rfl (by decide) rfl (fun ls hl => ?_)
        refine lv_goto (tgt := 36) hx hb dX9_spread_54 (by decide) ?_
        exact ih36 (v3 * 5) (v4 + 1) _ _ _ hP hD hS (lv_sub hl [2, 3, 4, 1, 0] rfl) hres
  have L16 : ∀ (H : Heap) (locs : List Loc) (ls : Array Slot), va_P D vwCl ([(moo, .inr (9, [.ref mo_toldA, .ref mo_stA, .int mo_isThere, .int mo_seed, .ref mo_textA, .int mo_typed, .int mo_faultAt, .int mo_place, .int mo_wrong, .int mo_value, .ref mo_readA, .ref mo_aheadA, .int mo_undoMany, .ref mo_asideA, .ref mo_weighingsA, .int mo_weighed, .ref mo_bookA, .int mo_entries, .ref mo_isKeptA, .ref mo_keptA, .ref mo_seedsA])), (mo_toldA, .inl (κ 0, 37, .inl mo_told)), (mo_stA, .inl (κ 0, 17, .inl mo_st)), (mo_textA, .inl (κ 0, 240, .inl mo_text)), (mo_readA, .inl (κ 0, 37, .inl mo_read)), (mo_aheadA, .inl (κ 0, 340, .inl mo_ahead)), (mo_asideA, .inl (κ 0, 17, .inl mo_aside)), (mo_weighingsA, .inl (κ 0, 12, .inl mo_weighings)), (mo_bookA, .inl (κ 0, 30, .inl mo_book)), (mo_isKeptA, .inl (κ 1, 2, .inl mo_isKept)), (mo_keptA, .inl (κ 0, 34, .inl mo_kept)), (mo_seedsA, .inl (κ 0, 2, .inl mo_seeds))]) H → va_D A ([(moo, .inr (9, [.ref mo_toldA, .ref mo_stA, .int mo_isThere, .int mo_seed, .ref mo_textA, .int mo_typed, .int mo_faultAt, .int mo_place, .int mo_wrong, .int mo_value, .ref mo_readA, .ref mo_aheadA, .int mo_undoMany, .ref mo_asideA, .ref mo_weighingsA, .int mo_weighed, .ref mo_bookA, .int mo_entries, .ref mo_isKeptA, .ref mo_keptA, .ref mo_seedsA])), (mo_toldA, .inl (κ 0, 37, .inl mo_told)), (mo_stA, .inl (κ 0, 17, .inl mo_st)), (mo_textA, .inl (κ 0, 240, .inl mo_text)), (mo_readA, .inl (κ 0, 37, .inl mo_read)), (mo_aheadA, .inl (κ 0, 340, .inl mo_ahead)), (mo_asideA, .inl (κ 0, 17, .inl mo_aside)), (mo_weighingsA, .inl (κ 0, 12, .inl mo_weighings)), (mo_bookA, .inl (κ 0, 30, .inl mo_book)), (mo_isKeptA, .inl (κ 1, 2, .inl mo_isKept)), (mo_keptA, .inl (κ 0, 34, .inl mo_kept)), (mo_seedsA, .inl (κ 0, 2, .inl mo_seeds))]) → va_S A s.heap H locs → lv_has ls 12 [(0, .ref moo), (1, .int x1), (2, .int x2)] → pX9_spread_L16 N x1 x2 mo_told mo_st = some (r0) → W p l e { frames := 2, cells := 0, slots := 0, locals := 200 } s m args below meth c H locs 0 0 Q (F0 m 16 ls []) := by
    intro H locs ls hP hD hS hl hres
    unfold pX9_spread_L16 at hres
    refine lv_iload_n hx hb dX9_spread_16 rfl (lv_at hl 1 rfl) ?_
    refine lv_i2l (v := x1.toInt64) hx hb dX9_spread_17 rfl ?_
    refine lv_lconst (v := 0) hx hb dX9_spread_18 (by decide) ?_
    refine lv_ldc2 (v := 9999) hx hb hown k1 dX9_spread_19 ?_
    obtain ⟨r5, hc6, hres⟩ := kb1_s hres
    refine krI_S0 (As := [.long (x1.toInt64), .long 0, .long 9999]) (rest := []) ⟨hx, hb, hml, hown, hts⟩ hK (tX9_in l D κ (x1.toInt64) 0 9999 r5 hc6) (va_cwS 3 hts gX9_spread_X9_in rfl rfl rfl (by decide +kernel) ⟨(Nat.le_of_ble_eq_true rfl), (Nat.le_of_ble_eq_true rfl)⟩) hP hD hS hA rfl hl.1 rfl (Nat.le_of_ble_eq_true rfl) dX9_spread_22 ⟨Nat.zero_le _, Nat.zero_le _⟩ (fun H locs hP hD hS => ?_)
    refine lv_if_ne (tgt := 31) hx hb dX9_spread_25 (by decide) (fun c7 => ?_) (fun c7 => ?_)
    · replace hres := og_f c7 hres
      refine lv_iconst (v := 1) hx hb dX9_spread_31 (by decide) ?_
      refine lv_istore_n (lv' := [(3, .int 1), (0, .ref moo), (1, .int x1), (2, .int x2)]) hx hb dX9_spread_32 rfl hl (by decide) rfl (fun ls hl => ?_)
      refine lv_iconst (v := 0) hx hb dX9_spread_33 (by decide) ?_
      refine lv_istore (lv' := [(4, .int 0), (3, .int 1), (0, .ref moo), (1, .int x1), (2, .int x2)]) hx hb dX9_spread_34 hl (by decide) rfl (fun ls hl => ?_)
      exact L36 N 1 0 _ _ _ hP hD hS (lv_sub hl [2, 3, 4, 1, 0] rfl) hres
    · replace hres := og_t c7 hres
      refine lv_ldc (v := (-1000000002)) hx hb hown k2 dX9_spread_28 ?_
      have hres := Option.some.inj hres
      have h0 := hres
      subst h0
      exact hret _ _ _ _ (vp_nar_int _) hP hD hS dX9_spread_30
  unfold pX9_spread at hres
  refine lv_iload_n hx hb dX9_spread_0 rfl (lv_at hl 2 rfl) ?_
  refine lv_iconst (v := (-1)) hx hb dX9_spread_1 (by decide) ?_
  refine lv_icmp_eq (tgt := 16) hx hb dX9_spread_2 (by decide) (fun c1 => ?_) (fun c1 => ?_)
  · replace hres := og_t c1 hres
    exact L16  _ _ _ hP hD hS (lv_sub hl [0, 1, 2] rfl) hres
  · replace hres := og_f c1 hres
    refine lv_aload_n hx hb dX9_spread_5 rfl (lv_at hl 0 rfl) ?_
    refine lv_iload_n hx hb dX9_spread_6 rfl (lv_at hl 2 rfl) ?_
    obtain ⟨r2, hc3, hres⟩ := kb1_s hres
    refine krI_V (As := [.int x2]) (rest := []) (wr := []) ⟨hx, hb, hml, hown, hts⟩ hK (tX9_isPayer l D κ moo mo_toldA mo_stA mo_textA mo_readA mo_aheadA mo_asideA mo_weighingsA mo_bookA mo_isKeptA mo_keptA mo_seedsA mo_told mo_st mo_isThere mo_seed mo_text mo_typed mo_faultAt mo_place mo_wrong mo_value mo_read mo_ahead mo_undoMany mo_aside mo_weighings mo_weighed mo_book mo_entries mo_isKept mo_kept mo_seeds x2 r2 hc3) (cwV 1 hts gX9_spread_X9_isPayer rfl rfl rfl (by decide +kernel) ⟨(Nat.le_of_ble_eq_true rfl), (Nat.le_of_ble_eq_true rfl)⟩) rfl rfl rfl hP hD hS hA [0, 1, 2, 3, 4, 5, 6, 7, 8, 9, 10, 11] [] rfl rfl rfl rfl (by decide) rfl hl.1 rfl (Nat.le_of_ble_eq_true rfl) dX9_spread_7 ⟨Nat.zero_le _, Nat.zero_le _⟩ (fun H locs hP hD hS => ?_)
    have hP : va_P D vwCl ([(moo, .inr (9, [.ref mo_toldA, .ref mo_stA, .int mo_isThere, .int mo_seed, .ref mo_textA, .int mo_typed, .int mo_faultAt, .int mo_place, .int mo_wrong, .int mo_value, .ref mo_readA, .ref mo_aheadA, .int mo_undoMany, .ref mo_asideA, .ref mo_weighingsA, .int mo_weighed, .ref mo_bookA, .int mo_entries, .ref mo_isKeptA, .ref mo_keptA, .ref mo_seedsA])), (mo_toldA, .inl (κ 0, 37, .inl mo_told)), (mo_stA, .inl (κ 0, 17, .inl mo_st)), (mo_textA, .inl (κ 0, 240, .inl mo_text)), (mo_readA, .inl (κ 0, 37, .inl mo_read)), (mo_aheadA, .inl (κ 0, 340, .inl mo_ahead)), (mo_asideA, .inl (κ 0, 17, .inl mo_aside)), (mo_weighingsA, .inl (κ 0, 12, .inl mo_weighings)), (mo_bookA, .inl (κ 0, 30, .inl mo_book)), (mo_isKeptA, .inl (κ 1, 2, .inl mo_isKept)), (mo_keptA, .inl (κ 0, 34, .inl mo_kept)), (mo_seedsA, .inl (κ 0, 2, .inl mo_seeds))]) H := hP
    have hD : va_D A ([(moo, .inr (9, [.ref mo_toldA, .ref mo_stA, .int mo_isThere, .int mo_seed, .ref mo_textA, .int mo_typed, .int mo_faultAt, .int mo_place, .int mo_wrong, .int mo_value, .ref mo_readA, .ref mo_aheadA, .int mo_undoMany, .ref mo_asideA, .ref mo_weighingsA, .int mo_weighed, .ref mo_bookA, .int mo_entries, .ref mo_isKeptA, .ref mo_keptA, .ref mo_seedsA])), (mo_toldA, .inl (κ 0, 37, .inl mo_told)), (mo_stA, .inl (κ 0, 17, .inl mo_st)), (mo_textA, .inl (κ 0, 240, .inl mo_text)), (mo_readA, .inl (κ 0, 37, .inl mo_read)), (mo_aheadA, .inl (κ 0, 340, .inl mo_ahead)), (mo_asideA, .inl (κ 0, 17, .inl mo_aside)), (mo_weighingsA, .inl (κ 0, 12, .inl mo_weighings)), (mo_bookA, .inl (κ 0, 30, .inl mo_book)), (mo_isKeptA, .inl (κ 1, 2, .inl mo_isKept)), (mo_keptA, .inl (κ 0, 34, .inl mo_kept)), (mo_seedsA, .inl (κ 0, 2, .inl mo_seeds))]) := hD
    refine lv_if_ne (tgt := 16) hx hb dX9_spread_10 (by decide) (fun c4 => ?_) (fun c4 => ?_)
    · replace hres := og_f c4 hres
      exact L16  _ _ _ hP hD hS (lv_sub hl [0, 1, 2] rfl) hres
    · replace hres := og_t c4 hres
      refine lv_ldc (v := (-1000000001)) hx hb hown k0 dX9_spread_13 ?_
      have hres := Option.some.inj hres
      have h0 := hres
      subst h0
      exact hret _ _ _ _ (vp_nar_int _) hP hD hS dX9_spread_15

def pX9_sell_L123 (k46 : Int32 → Int32 → Int32 → Option (Int32)) (v3 : Int32) (v5 : Int32) (s0 : Int32) : Option (Int32) :=
    k46 v3 s0 (v5 + (-1))
def pX9_sell_L110 (k46 : Int32 → Int32 → Int32 → Option (Int32)) (v4 : Int32) (v5 : Int32) (v7 : Int32) (s0 : Int32) : Option (Int32) :=
    (if v7 = 0 then
    pX9_sell_L123 k46 s0 v5 v4
    else
    pX9_sell_L123 k46 s0 v5 v5)
def pX9_sell_L88 (k46 : Int32 → Int32 → Int32 → Option (Int32)) (mo_told : Nat → Int32) (v4 : Int32) (v5 : Int32) (v6 : Int32) (s0 : Int32) : Option (Int32) :=
    (if s0 = 0 then
    pX9_sell_L110 k46 v4 v5 s0 v6
    else
    if (19 + v5) < 0 ∨ 37 ≤ (19 + v5).toNatClampNeg then none else
    pX9_sell_L110 k46 v4 v5 s0 (mo_told ((19 + v5).toNatClampNeg)))
def pX9_sell_L46 (x1 : Int32) (x2 : Int32) (mo_told : Nat → Int32) : Nat → Int32 → Int32 → Int32 → Option (Int32)
  | 0, _, _, _ => none
  | n46 + 1, v3, v4, v5 =>
    (if v5 < x1 then
    (if x2 = 0 then
    some (v3)
    else
    some (v4))
    else
    kl ((v3 * (100 - (mo_told 1))) / 100) fun y9 =>
    if (19 + v5) < 0 ∨ 37 ≤ (19 + v5).toNatClampNeg then none else
    (if (mo_told ((19 + v5).toNatClampNeg)) < y9 then
    pX9_sell_L88 (pX9_sell_L46 x1 x2 mo_told n46) mo_told v4 v5 y9 0
    else
    pX9_sell_L88 (pX9_sell_L46 x1 x2 mo_told n46) mo_told v4 v5 y9 1))
def pX9_sell (N : Nat) (x1 : Int32) (x2 : Int32) (mo_told : Nat → Int32) (mo_st : Nat → Int32) : Option (Int32) :=
    kb1 (pX9_in (x1.toInt64) 0 9) fun r1 =>
    (if r1 = 0 then
    some ((-1000000002))
    else
    kb1 (pX9_in (x2.toInt64) 0 1) fun r4 =>
    (if r4 = 0 then
    some ((-1000000002))
    else
    pX9_sell_L46 x1 x2 mo_told N (mo_st 14) (-1) ((mo_told 3) - 1)))
set_option maxHeartbeats 8000000 in
set_option maxRecDepth 100000 in
theorem tX9_sell (l : Launch) (D : va_G) (κ : Nat → ClassId) (moo : Nat) (mo_toldA : Nat) (mo_stA : Nat) (mo_textA : Nat) (mo_readA : Nat) (mo_aheadA : Nat) (mo_asideA : Nat) (mo_weighingsA : Nat) (mo_bookA : Nat) (mo_isKeptA : Nat) (mo_keptA : Nat) (mo_seedsA : Nat) (N : Nat) (mo_told : Nat → Int32) (mo_st : Nat → Int32) (mo_isThere : Int32) (mo_seed : Int32) (mo_text : Nat → Int32) (mo_typed : Int32) (mo_faultAt : Int32) (mo_place : Int32) (mo_wrong : Int32) (mo_value : Int32) (mo_read : Nat → Int32) (mo_ahead : Nat → Int32) (mo_undoMany : Int32) (mo_aside : Nat → Int32) (mo_weighings : Nat → Int32) (mo_weighed : Int32) (mo_book : Nat → Int32) (mo_entries : Int32) (mo_isKept : Nat → Int32) (mo_kept : Nat → Int32) (mo_seeds : Nat → Int32) (x1 : Int32) (x2 : Int32) (r0 : Int32) (hres : pX9_sell N x1 x2 mo_told mo_st = some (r0)) : krI l yX9_sell wsX9_sell { frames := 1, cells := 0, slots := 0, locals := 100 } D κ [.ref moo, .int x1, .int x2] ([(moo, .inr (9, [.ref mo_toldA, .ref mo_stA, .int mo_isThere, .int mo_seed, .ref mo_textA, .int mo_typed, .int mo_faultAt, .int mo_place, .int mo_wrong, .int mo_value, .ref mo_readA, .ref mo_aheadA, .int mo_undoMany, .ref mo_asideA, .ref mo_weighingsA, .int mo_weighed, .ref mo_bookA, .int mo_entries, .ref mo_isKeptA, .ref mo_keptA, .ref mo_seedsA])), (mo_toldA, .inl (κ 0, 37, .inl mo_told)), (mo_stA, .inl (κ 0, 17, .inl mo_st)), (mo_textA, .inl (κ 0, 240, .inl mo_text)), (mo_readA, .inl (κ 0, 37, .inl mo_read)), (mo_aheadA, .inl (κ 0, 340, .inl mo_ahead)), (mo_asideA, .inl (κ 0, 17, .inl mo_aside)), (mo_weighingsA, .inl (κ 0, 12, .inl mo_weighings)), (mo_bookA, .inl (κ 0, 30, .inl mo_book)), (mo_isKeptA, .inl (κ 1, 2, .inl mo_isKept)), (mo_keptA, .inl (κ 0, 34, .inl mo_kept)), (mo_seedsA, .inl (κ 0, 2, .inl mo_seeds))]) ([(moo, .inr (9, [.ref mo_toldA, .ref mo_stA, .int mo_isThere, .int mo_seed, .ref mo_textA, .int mo_typed, .int mo_faultAt, .int mo_place, .int mo_wrong, .int mo_value, .ref mo_readA, .ref mo_aheadA, .int mo_undoMany, .ref mo_asideA, .ref mo_weighingsA, .int mo_weighed, .ref mo_bookA, .int mo_entries, .ref mo_isKeptA, .ref mo_keptA, .ref mo_seedsA])), (mo_toldA, .inl (κ 0, 37, .inl mo_told)), (mo_stA, .inl (κ 0, 17, .inl mo_st)), (mo_textA, .inl (κ 0, 240, .inl mo_text)), (mo_readA, .inl (κ 0, 37, .inl mo_read)), (mo_aheadA, .inl (κ 0, 340, .inl mo_ahead)), (mo_asideA, .inl (κ 0, 17, .inl mo_aside)), (mo_weighingsA, .inl (κ 0, 12, .inl mo_weighings)), (mo_bookA, .inl (κ 0, 30, .inl mo_book)), (mo_isKeptA, .inl (κ 1, 2, .inl mo_isKept)), (mo_keptA, .inl (κ 0, 34, .inl mo_kept)), (mo_seedsA, .inl (κ 0, 2, .inl mo_seeds))]) r0 := by
  refine krI_of (cc := cX9_sell) (maxL := 8) (rt := .int) (by decide) rfl (Nat.le_of_ble_eq_true rfl) ?_
  intro p e s m args below meth c A Q ls hx hb hml hown hts hK hA hret hP hD hS hl
  have hown : s.vm.findClass RX9 = some m.cls := hown
  have hl : lv_has ls 8 [(0, .ref moo), (1, .int x1), (2, .int x2)] := hl
  have iw9 : ∀ w ∈ u_ws RX9 TX9 21, w ∈ wsX9_sell := (fun _ h => List.mem_cons_of_mem _ (List.mem_append_right _ h))
  have k0 : (Cond.constantLong RX9 181 (9)).before args s = true := hts _ (List.mem_of_getElem? (i := 1) rfl)
  have k1 : (Cond.constant RX9 54 (-1000000002)).before args s = true := hts _ (List.mem_of_getElem? (i := 2) rfl)
  have k2 : (Cond.fieldLink RX9 13 "KingRansomModel" "st" "[I").before args s = true := hts _ (List.mem_of_getElem? (i := 3) rfl)
  have k3 : (Cond.fieldLink RX9 7 "KingRansomModel" "told" "[I").before args s = true := hts _ (List.mem_of_getElem? (i := 4) rfl)
  have L46 : ∀ (n46 : Nat) (v3 : Int32) (v4 : Int32) (v5 : Int32) (H : Heap) (locs : List Loc) (ls : Array Slot), va_P D vwCl ([(moo, .inr (9, [.ref mo_toldA, .ref mo_stA, .int mo_isThere, .int mo_seed, .ref mo_textA, .int mo_typed, .int mo_faultAt, .int mo_place, .int mo_wrong, .int mo_value, .ref mo_readA, .ref mo_aheadA, .int mo_undoMany, .ref mo_asideA, .ref mo_weighingsA, .int mo_weighed, .ref mo_bookA, .int mo_entries, .ref mo_isKeptA, .ref mo_keptA, .ref mo_seedsA])), (mo_toldA, .inl (κ 0, 37, .inl mo_told)), (mo_stA, .inl (κ 0, 17, .inl mo_st)), (mo_textA, .inl (κ 0, 240, .inl mo_text)), (mo_readA, .inl (κ 0, 37, .inl mo_read)), (mo_aheadA, .inl (κ 0, 340, .inl mo_ahead)), (mo_asideA, .inl (κ 0, 17, .inl mo_aside)), (mo_weighingsA, .inl (κ 0, 12, .inl mo_weighings)), (mo_bookA, .inl (κ 0, 30, .inl mo_book)), (mo_isKeptA, .inl (κ 1, 2, .inl mo_isKept)), (mo_keptA, .inl (κ 0, 34, .inl mo_kept)), (mo_seedsA, .inl (κ 0, 2, .inl mo_seeds))]) H → va_D A ([(moo, .inr (9, [.ref mo_toldA, .ref mo_stA, .int mo_isThere, .int mo_seed, .ref mo_textA, .int mo_typed, .int mo_faultAt, .int mo_place, .int mo_wrong, .int mo_value, .ref mo_readA, .ref mo_aheadA, .int mo_undoMany, .ref mo_asideA, .ref mo_weighingsA, .int mo_weighed, .ref mo_bookA, .int mo_entries, .ref mo_isKeptA, .ref mo_keptA, .ref mo_seedsA])), (mo_toldA, .inl (κ 0, 37, .inl mo_told)), (mo_stA, .inl (κ 0, 17, .inl mo_st)), (mo_textA, .inl (κ 0, 240, .inl mo_text)), (mo_readA, .inl (κ 0, 37, .inl mo_read)), (mo_aheadA, .inl (κ 0, 340, .inl mo_ahead)), (mo_asideA, .inl (κ 0, 17, .inl mo_aside)), (mo_weighingsA, .inl (κ 0, 12, .inl mo_weighings)), (mo_bookA, .inl (κ 0, 30, .inl mo_book)), (mo_isKeptA, .inl (κ 1, 2, .inl mo_isKept)), (mo_keptA, .inl (κ 0, 34, .inl mo_kept)), (mo_seedsA, .inl (κ 0, 2, .inl mo_seeds))]) → va_S A s.heap H locs → lv_has ls 8 [(0, .ref moo), (1, .int x1), (2, .int x2), (3, .int v3), (4, .int v4), (5, .int v5)] → pX9_sell_L46 x1 x2 mo_told n46 v3 v4 v5 = some (r0) → W p l e { frames := 1, cells := 0, slots := 0, locals := 100 } s m args below meth c H locs 0 0 Q (F0 m 46 ls []) := by
    intro n46
    induction n46 with
    | zero =>
      intro v3 v4 v5 H locs ls hP hD hS hl hres
      exact absurd (show none = some _ from hres) (by simp)
    | succ n46 ih46 =>
      intro v3 v4 v5 H locs ls hP hD hS hl hres
      have L123 : ∀ (v3 : Int32) (v5 : Int32) (s0 : Int32) (H : Heap) (locs : List Loc) (ls : Array Slot), va_P D vwCl ([(moo, .inr (9, [.ref mo_toldA, .ref mo_stA, .int mo_isThere, .int mo_seed, .ref mo_textA, .int mo_typed, .int mo_faultAt, .int mo_place, .int mo_wrong, .int mo_value, .ref mo_readA, .ref mo_aheadA, .int mo_undoMany, .ref mo_asideA, .ref mo_weighingsA, .int mo_weighed, .ref mo_bookA, .int mo_entries, .ref mo_isKeptA, .ref mo_keptA, .ref mo_seedsA])), (mo_toldA, .inl (κ 0, 37, .inl mo_told)), (mo_stA, .inl (κ 0, 17, .inl mo_st)), (mo_textA, .inl (κ 0, 240, .inl mo_text)), (mo_readA, .inl (κ 0, 37, .inl mo_read)), (mo_aheadA, .inl (κ 0, 340, .inl mo_ahead)), (mo_asideA, .inl (κ 0, 17, .inl mo_aside)), (mo_weighingsA, .inl (κ 0, 12, .inl mo_weighings)), (mo_bookA, .inl (κ 0, 30, .inl mo_book)), (mo_isKeptA, .inl (κ 1, 2, .inl mo_isKept)), (mo_keptA, .inl (κ 0, 34, .inl mo_kept)), (mo_seedsA, .inl (κ 0, 2, .inl mo_seeds))]) H → va_D A ([(moo, .inr (9, [.ref mo_toldA, .ref mo_stA, .int mo_isThere, .int mo_seed, .ref mo_textA, .int mo_typed, .int mo_faultAt, .int mo_place, .int mo_wrong, .int mo_value, .ref mo_readA, .ref mo_aheadA, .int mo_undoMany, .ref mo_asideA, .ref mo_weighingsA, .int mo_weighed, .ref mo_bookA, .int mo_entries, .ref mo_isKeptA, .ref mo_keptA, .ref mo_seedsA])), (mo_toldA, .inl (κ 0, 37, .inl mo_told)), (mo_stA, .inl (κ 0, 17, .inl mo_st)), (mo_textA, .inl (κ 0, 240, .inl mo_text)), (mo_readA, .inl (κ 0, 37, .inl mo_read)), (mo_aheadA, .inl (κ 0, 340, .inl mo_ahead)), (mo_asideA, .inl (κ 0, 17, .inl mo_aside)), (mo_weighingsA, .inl (κ 0, 12, .inl mo_weighings)), (mo_bookA, .inl (κ 0, 30, .inl mo_book)), (mo_isKeptA, .inl (κ 1, 2, .inl mo_isKept)), (mo_keptA, .inl (κ 0, 34, .inl mo_kept)), (mo_seedsA, .inl (κ 0, 2, .inl mo_seeds))]) → va_S A s.heap H locs → lv_has ls 8 [(0, .ref moo), (1, .int x1), (2, .int x2), (3, .int v3), (5, .int v5)] → pX9_sell_L123 (pX9_sell_L46 x1 x2 mo_told n46) v3 v5 s0 = some (r0) → W p l e { frames := 1, cells := 0, slots := 0, locals := 100 } s m args below meth c H locs 0 0 Q (F0 m 123 ls [.int s0]) := by
        intro v3 v5 s0 H locs ls hP hD hS hl hres
        unfold pX9_sell_L123 at hres
        refine lv_istore (lv' := [(4, .int s0), (0, .ref moo), (1, .int x1), (2, .int x2), (3, .int v3), (5, .int v5)]) hx hb dX9_sell_123 hl (by decide) rfl (fun ls hl => ?_)
        refine lv_iinc (v := (v5 + (-1))) (lv' := [(5, .int (v5 + (-1))), (4, .int s0), (0, .ref moo), (1, .int x1), (2, .int x2), (3, .int v3)]) hx hb dX9_sell_125 hl (k := 5) rfl rfl (by decide) rfl (fun ls hl => ?_)
        refine lv_goto (tgt := 46) hx hb dX9_sell_128 (by decide) ?_
        exact ih46 v3 s0 (v5 + (-1)) _ _ _ hP hD hS (lv_sub hl [2, 3, 4, 5, 1, 0] rfl) hres
      have L110 : ∀ (v4 : Int32) (v5 : Int32) (v7 : Int32) (s0 : Int32) (H : Heap) (locs : List Loc) (ls : Array Slot), va_P D vwCl ([(moo, .inr (9, [.ref mo_toldA, .ref mo_stA, .int mo_isThere, .int mo_seed, .ref mo_textA, .int mo_typed, .int mo_faultAt, .int mo_place, .int mo_wrong, .int mo_value, .ref mo_readA, .ref mo_aheadA, .int mo_undoMany, .ref mo_asideA, .ref mo_weighingsA, .int mo_weighed, .ref mo_bookA, .int mo_entries, .ref mo_isKeptA, .ref mo_keptA, .ref mo_seedsA])), (mo_toldA, .inl (κ 0, 37, .inl mo_told)), (mo_stA, .inl (κ 0, 17, .inl mo_st)), (mo_textA, .inl (κ 0, 240, .inl mo_text)), (mo_readA, .inl (κ 0, 37, .inl mo_read)), (mo_aheadA, .inl (κ 0, 340, .inl mo_ahead)), (mo_asideA, .inl (κ 0, 17, .inl mo_aside)), (mo_weighingsA, .inl (κ 0, 12, .inl mo_weighings)), (mo_bookA, .inl (κ 0, 30, .inl mo_book)), (mo_isKeptA, .inl (κ 1, 2, .inl mo_isKept)), (mo_keptA, .inl (κ 0, 34, .inl mo_kept)), (mo_seedsA, .inl (κ 0, 2, .inl mo_seeds))]) H → va_D A ([(moo, .inr (9, [.ref mo_toldA, .ref mo_stA, .int mo_isThere, .int mo_seed, .ref mo_textA, .int mo_typed, .int mo_faultAt, .int mo_place, .int mo_wrong, .int mo_value, .ref mo_readA, .ref mo_aheadA, .int mo_undoMany, .ref mo_asideA, .ref mo_weighingsA, .int mo_weighed, .ref mo_bookA, .int mo_entries, .ref mo_isKeptA, .ref mo_keptA, .ref mo_seedsA])), (mo_toldA, .inl (κ 0, 37, .inl mo_told)), (mo_stA, .inl (κ 0, 17, .inl mo_st)), (mo_textA, .inl (κ 0, 240, .inl mo_text)), (mo_readA, .inl (κ 0, 37, .inl mo_read)), (mo_aheadA, .inl (κ 0, 340, .inl mo_ahead)), (mo_asideA, .inl (κ 0, 17, .inl mo_aside)), (mo_weighingsA, .inl (κ 0, 12, .inl mo_weighings)), (mo_bookA, .inl (κ 0, 30, .inl mo_book)), (mo_isKeptA, .inl (κ 1, 2, .inl mo_isKept)), (mo_keptA, .inl (κ 0, 34, .inl mo_kept)), (mo_seedsA, .inl (κ 0, 2, .inl mo_seeds))]) → va_S A s.heap H locs → lv_has ls 8 [(0, .ref moo), (1, .int x1), (2, .int x2), (4, .int v4), (5, .int v5), (7, .int v7)] → pX9_sell_L110 (pX9_sell_L46 x1 x2 mo_told n46) v4 v5 v7 s0 = some (r0) → W p l e { frames := 1, cells := 0, slots := 0, locals := 100 } s m args below meth c H locs 0 0 Q (F0 m 110 ls [.int s0]) := by
        intro v4 v5 v7 s0 H locs ls hP hD hS hl hres
        unfold pX9_sell_L110 at hres
        refine lv_istore_n (lv' := [(3, .int s0), (0, .ref moo), (1, .int x1), (2, .int x2), (4, .int v4), (5, .int v5), (7, .int v7)]) hx hb dX9_sell_110 rfl hl (by decide) rfl (fun ls hl => ?_)
        refine lv_iload hx hb dX9_sell_111 (lv_at hl 6 rfl) ?_
        refine lv_if_eq (tgt := 121) hx hb dX9_sell_113 (by decide) (fun c14 => ?_) (fun c14 => ?_)
        · replace hres := og_t c14 hres
          refine lv_iload hx hb dX9_sell_121 (lv_at hl 4 rfl) ?_
          exact L123 s0 v5 v4 _ _ _ hP hD hS (lv_sub hl [1, 2, 3, 0, 5] rfl) hres
        · replace hres := og_f c14 hres
          refine lv_iload hx hb dX9_sell_116 (lv_at hl 5 rfl) ?_
          refine lv_goto (tgt := 123) hx hb dX9_sell_118 (by decide) ?_
          exact L123 s0 v5 v5 _ _ _ hP hD hS (lv_sub hl [1, 2, 3, 0, 5] rfl) hres
      have L88 : ∀ (v4 : Int32) (v5 : Int32) (v6 : Int32) (s0 : Int32) (H : Heap) (locs : List Loc) (ls : Array Slot), va_P D vwCl ([(moo, .inr (9, [.ref mo_toldA, .ref mo_stA, .int mo_isThere, .int mo_seed, .ref mo_textA, .int mo_typed, .int mo_faultAt, .int mo_place, .int mo_wrong, .int mo_value, .ref mo_readA, .ref mo_aheadA, .int mo_undoMany, .ref mo_asideA, .ref mo_weighingsA, .int mo_weighed, .ref mo_bookA, .int mo_entries, .ref mo_isKeptA, .ref mo_keptA, .ref mo_seedsA])), (mo_toldA, .inl (κ 0, 37, .inl mo_told)), (mo_stA, .inl (κ 0, 17, .inl mo_st)), (mo_textA, .inl (κ 0, 240, .inl mo_text)), (mo_readA, .inl (κ 0, 37, .inl mo_read)), (mo_aheadA, .inl (κ 0, 340, .inl mo_ahead)), (mo_asideA, .inl (κ 0, 17, .inl mo_aside)), (mo_weighingsA, .inl (κ 0, 12, .inl mo_weighings)), (mo_bookA, .inl (κ 0, 30, .inl mo_book)), (mo_isKeptA, .inl (κ 1, 2, .inl mo_isKept)), (mo_keptA, .inl (κ 0, 34, .inl mo_kept)), (mo_seedsA, .inl (κ 0, 2, .inl mo_seeds))]) H → va_D A ([(moo, .inr (9, [.ref mo_toldA, .ref mo_stA, .int mo_isThere, .int mo_seed, .ref mo_textA, .int mo_typed, .int mo_faultAt, .int mo_place, .int mo_wrong, .int mo_value, .ref mo_readA, .ref mo_aheadA, .int mo_undoMany, .ref mo_asideA, .ref mo_weighingsA, .int mo_weighed, .ref mo_bookA, .int mo_entries, .ref mo_isKeptA, .ref mo_keptA, .ref mo_seedsA])), (mo_toldA, .inl (κ 0, 37, .inl mo_told)), (mo_stA, .inl (κ 0, 17, .inl mo_st)), (mo_textA, .inl (κ 0, 240, .inl mo_text)), (mo_readA, .inl (κ 0, 37, .inl mo_read)), (mo_aheadA, .inl (κ 0, 340, .inl mo_ahead)), (mo_asideA, .inl (κ 0, 17, .inl mo_aside)), (mo_weighingsA, .inl (κ 0, 12, .inl mo_weighings)), (mo_bookA, .inl (κ 0, 30, .inl mo_book)), (mo_isKeptA, .inl (κ 1, 2, .inl mo_isKept)), (mo_keptA, .inl (κ 0, 34, .inl mo_kept)), (mo_seedsA, .inl (κ 0, 2, .inl mo_seeds))]) → va_S A s.heap H locs → lv_has ls 8 [(0, .ref moo), (1, .int x1), (2, .int x2), (4, .int v4), (5, .int v5), (6, .int v6)] → pX9_sell_L88 (pX9_sell_L46 x1 x2 mo_told n46) mo_told v4 v5 v6 s0 = some (r0) → W p l e { frames := 1, cells := 0, slots := 0, locals := 100 } s m args below meth c H locs 0 0 Q (F0 m 88 ls [.int s0]) := by
        intro v4 v5 v6 s0 H locs ls hP hD hS hl hres
        unfold pX9_sell_L88 at hres
        refine lv_istore (lv' := [(7, .int s0), (0, .ref moo), (1, .int x1), (2, .int x2), (4, .int v4), (5, .int v5), (6, .int v6)]) hx hb dX9_sell_88 hl (by decide) rfl (fun ls hl => ?_)
        refine lv_iload hx hb dX9_sell_90 (lv_at hl 0 rfl) ?_
        refine lv_if_eq (tgt := 108) hx hb dX9_sell_92 (by decide) (fun c12 => ?_) (fun c12 => ?_)
        · replace hres := og_t c12 hres
          refine lv_iload hx hb dX9_sell_108 (lv_at hl 6 rfl) ?_
          exact L110 v4 v5 s0 v6 _ _ _ hP hD hS (lv_sub hl [1, 2, 3, 4, 5, 0] rfl) hres
        · replace hres := og_f c12 hres
          refine lv_aload_n hx hb dX9_sell_95 rfl (lv_at hl 1 rfl) ?_
          refine va_get (D := D) (ci := 9) (v := .ref mo_toldA) (C := RX9) (T := TX9) (N := 21) hx hb hts iw9 hown hK.1 hP 0 rfl rfl 0 (by decide) k3 (fun _ h9 => h9) rfl dX9_sell_96 ?_
          refine lv_bipush (v := 19) hx hb dX9_sell_99 (by decide) ?_
          refine lv_iload hx hb dX9_sell_101 (lv_at hl 5 rfl) ?_
          refine lv_iadd hx hb dX9_sell_103 ?_
          obtain ⟨g13, hres⟩ := og_no hres
          refine kr_iald (f := mo_told) (j := (19 + v5).toNatClampNeg) hx hb hK hP 1 rfl g13 rfl dX9_sell_104 ?_
          refine lv_goto (tgt := 110) hx hb dX9_sell_105 (by decide) ?_
          exact L110 v4 v5 s0 (mo_told ((19 + v5).toNatClampNeg)) _ _ _ hP hD hS (lv_sub hl [1, 2, 3, 4, 5, 0] rfl) hres
      rw [pX9_sell_L46] at hres
      refine lv_iload hx hb dX9_sell_46 (lv_at hl 5 rfl) ?_
      refine lv_iload_n hx hb dX9_sell_48 rfl (lv_at hl 1 rfl) ?_
      refine lv_icmp_lt (tgt := 131) hx hb dX9_sell_49 (by decide) (fun c7 => ?_) (fun c7 => ?_)
      · replace hres := og_t c7 hres
        refine lv_iload_n hx hb dX9_sell_131 rfl (lv_at hl 2 rfl) ?_
        refine lv_if_ne (tgt := 139) hx hb dX9_sell_132 (by decide) (fun c8 => ?_) (fun c8 => ?_)
        · replace hres := og_f c8 hres
          refine lv_iload hx hb dX9_sell_139 (lv_at hl 4 rfl) ?_
          have hres := Option.some.inj hres
          have h0 := hres
          subst h0
          exact hret _ _ _ _ (vp_nar_int _) hP hD hS dX9_sell_141
        · replace hres := og_t c8 hres
          refine lv_iload_n hx hb dX9_sell_135 rfl (lv_at hl 3 rfl) ?_
          refine lv_goto (tgt := 141) hx hb dX9_sell_136 (by decide) ?_
          have hres := Option.some.inj hres
          have h0 := hres
          subst h0
          exact hret _ _ _ _ (vp_nar_int _) hP hD hS dX9_sell_141
      · replace hres := og_f c7 hres
        refine lv_iload_n hx hb dX9_sell_52 rfl (lv_at hl 3 rfl) ?_
        refine lv_bipush (v := 100) hx hb dX9_sell_53 (by decide) ?_
        refine lv_aload_n hx hb dX9_sell_55 rfl (lv_at hl 0 rfl) ?_
        refine va_get (D := D) (ci := 9) (v := .ref mo_toldA) (C := RX9) (T := TX9) (N := 21) hx hb hts iw9 hown hK.1 hP 0 rfl rfl 0 (by decide) k3 (fun _ h9 => h9) rfl dX9_sell_56 ?_
        refine lv_iconst (v := 1) hx hb dX9_sell_59 (by decide) ?_
        refine kr_iald (f := mo_told) (j := 1) hx hb hK hP 1 rfl (by decide) (by decide) dX9_sell_60 ?_
        refine lv_isub hx hb dX9_sell_61 ?_
        refine lv_imul hx hb dX9_sell_62 ?_
        refine lv_bipush (v := 100) hx hb dX9_sell_63 (by decide) ?_
        refine lv_idiv hx hb dX9_sell_65 (by decide) ?_
        obtain ⟨y9, ey9, hres⟩ := kl_s hres
        refine kr_tope ey9 ?_
        refine lv_istore (lv' := [(6, .int y9), (0, .ref moo), (1, .int x1), (2, .int x2), (3, .int v3), (4, .int v4), (5, .int v5)]) hx hb dX9_sell_66 hl (by decide) rfl (fun ls hl => ?_)
        refine lv_aload_n hx hb dX9_sell_68 rfl (lv_at hl 1 rfl) ?_
        refine va_get (D := D) (ci := 9) (v := .ref mo_toldA) (C := RX9) (T := TX9) (N := 21) hx hb hts iw9 hown hK.1 hP 0 rfl rfl 0 (by decide) k3 (fun _ h9 => h9) rfl dX9_sell_69 ?_
        refine lv_bipush (v := 19) hx hb dX9_sell_72 (by decide) ?_
        refine lv_iload hx hb dX9_sell_74 (lv_at hl 6 rfl) ?_
        refine lv_iadd hx hb dX9_sell_76 ?_
        obtain ⟨g10, hres⟩ := og_no hres
        refine kr_iald (f := mo_told) (j := (19 + v5).toNatClampNeg) hx hb hK hP 1 rfl g10 rfl dX9_sell_77 ?_
        refine lv_iload hx hb dX9_sell_78 (lv_at hl 0 rfl) ?_
        refine lv_icmp_lt (tgt := 87) hx hb dX9_sell_80 (by decide) (fun c11 => ?_) (fun c11 => ?_)
        · replace hres := og_t c11 hres
          refine lv_iconst (v := 0) hx hb dX9_sell_87 (by decide) ?_
          exact L88 v4 v5 y9 0 _ _ _ hP hD hS (lv_sub hl [1, 2, 3, 5, 6, 0] rfl) hres
        · replace hres := og_f c11 hres
          refine lv_iconst (v := 1) hx hb dX9_sell_83 (by decide) ?_
          refine lv_goto (tgt := 88) hx hb dX9_sell_84 (by decide) ?_
          exact L88 v4 v5 y9 1 _ _ _ hP hD hS (lv_sub hl [1, 2, 3, 5, 6, 0] rfl) hres
  unfold pX9_sell at hres
  refine lv_iload_n hx hb dX9_sell_0 rfl (lv_at hl 1 rfl) ?_
  refine lv_i2l (v := x1.toInt64) hx hb dX9_sell_1 rfl ?_
  refine lv_lconst (v := 0) hx hb dX9_sell_2 (by decide) ?_
  refine lv_ldc2 (v := 9) hx hb hown k0 dX9_sell_3 ?_
  obtain ⟨r1, hc2, hres⟩ := kb1_s hres
  refine krI_S0 (As := [.long (x1.toInt64), .long 0, .long 9]) (rest := []) ⟨hx, hb, hml, hown, hts⟩ hK (tX9_in l D κ (x1.toInt64) 0 9 r1 hc2) (va_cwS 3 hts gX9_sell_X9_in rfl rfl rfl (by decide +kernel) ⟨(Nat.le_of_ble_eq_true rfl), (Nat.le_of_ble_eq_true rfl)⟩) hP hD hS hA rfl hl.1 rfl (Nat.le_of_ble_eq_true rfl) dX9_sell_6 ⟨Nat.zero_le _, Nat.zero_le _⟩ (fun H locs hP hD hS => ?_)
  refine lv_if_eq (tgt := 22) hx hb dX9_sell_9 (by decide) (fun c3 => ?_) (fun c3 => ?_)
  · replace hres := og_t c3 hres
    refine lv_ldc (v := (-1000000002)) hx hb hown k1 dX9_sell_22 ?_
    have hres := Option.some.inj hres
    have h0 := hres
    subst h0
    exact hret _ _ _ _ (vp_nar_int _) hP hD hS dX9_sell_24
  · replace hres := og_f c3 hres
    refine lv_iload_n hx hb dX9_sell_12 rfl (lv_at hl 2 rfl) ?_
    refine lv_i2l (v := x2.toInt64) hx hb dX9_sell_13 rfl ?_
    refine lv_lconst (v := 0) hx hb dX9_sell_14 (by decide) ?_
    refine lv_lconst (v := 1) hx hb dX9_sell_15 (by decide) ?_
    obtain ⟨r4, hc5, hres⟩ := kb1_s hres
    refine krI_S0 (As := [.long (x2.toInt64), .long 0, .long 1]) (rest := []) ⟨hx, hb, hml, hown, hts⟩ hK (tX9_in l D κ (x2.toInt64) 0 1 r4 hc5) (va_cwS 3 hts gX9_sell_X9_in rfl rfl rfl (by decide +kernel) ⟨(Nat.le_of_ble_eq_true rfl), (Nat.le_of_ble_eq_true rfl)⟩) hP hD hS hA rfl hl.1 rfl (Nat.le_of_ble_eq_true rfl) dX9_sell_16 ⟨Nat.zero_le _, Nat.zero_le _⟩ (fun H locs hP hD hS => ?_)
    refine lv_if_ne (tgt := 25) hx hb dX9_sell_19 (by decide) (fun c6 => ?_) (fun c6 => ?_)
    · replace hres := og_f c6 hres
      refine lv_aload_n hx hb dX9_sell_25 rfl (lv_at hl 0 rfl) ?_
      refine va_get (D := D) (ci := 9) (v := .ref mo_stA) (C := RX9) (T := TX9) (N := 21) hx hb hts iw9 hown hK.1 hP 0 rfl rfl 1 (by decide) k2 (fun _ h9 => h9) rfl dX9_sell_26 ?_
      refine lv_bipush (v := 14) hx hb dX9_sell_29 (by decide) ?_
      refine kr_iald (f := mo_st) (j := 14) hx hb hK hP 2 rfl (by decide) (by decide) dX9_sell_31 ?_
      refine lv_istore_n (lv' := [(3, .int (mo_st 14)), (0, .ref moo), (1, .int x1), (2, .int x2)]) hx hb dX9_sell_32 rfl hl (by decide) rfl (fun ls hl => ?_)
      refine lv_iconst (v := (-1)) hx hb dX9_sell_33 (by decide) ?_
      refine lv_istore (lv' := [(4, .int (-1)), (3, .int (mo_st 14)), (0, .ref moo), (1, .int x1), (2, .int x2)]) hx hb dX9_sell_34 hl (by decide) rfl (fun ls hl => ?_)
      refine lv_aload_n hx hb dX9_sell_36 rfl (lv_at hl 2 rfl) ?_
      refine va_get (D := D) (ci := 9) (v := .ref mo_toldA) (C := RX9) (T := TX9) (N := 21) hx hb hts iw9 hown hK.1 hP 0 rfl rfl 0 (by decide) k3 (fun _ h9 => h9) rfl dX9_sell_37 ?_
      refine lv_iconst (v := 3) hx hb dX9_sell_40 (by decide) ?_
      refine kr_iald (f := mo_told) (j := 3) hx hb hK hP 1 rfl (by decide) (by decide) dX9_sell_41 ?_
      refine lv_iconst (v := 1) hx hb dX9_sell_42 (by decide) ?_
      refine lv_isub hx hb dX9_sell_43 ?_
      refine lv_istore (lv' := [(5, .int ((mo_told 3) - 1)), (4, .int (-1)), (3, .int (mo_st 14)), (0, .ref moo), (1, .int x1), (2, .int x2)]) hx hb dX9_sell_44 hl (by decide) rfl (fun ls hl => ?_)
      exact L46 N (mo_st 14) (-1) ((mo_told 3) - 1) _ _ _ hP hD hS (lv_sub hl [3, 4, 5, 2, 1, 0] rfl) hres
    · replace hres := og_t c6 hres
      refine lv_ldc (v := (-1000000002)) hx hb hown k1 dX9_sell_22 ?_
      have hres := Option.some.inj hres
      have h0 := hres
      subst h0
      exact hret _ _ _ _ (vp_nar_int _) hP hD hS dX9_sell_24

def pX9_homeOrder_L134 (k19 : Int32 → Int32 → Int32 → Int32 → Int32 → Option (Int32)) (v2 : Int32) (v3 : Int32) (v4 : Int32) (v6 : Int32) (s0 : Int32) : Option (Int32) :=
    k19 v2 v3 v4 s0 (v6 + 1)
def pX9_homeOrder_L85 (k36 : Int32 → Int32 → Int32 → Int32 → Int32 → Int32 → Int32 → Option (Int32)) (k19 : Int32 → Int32 → Int32 → Int32 → Int32 → Option (Int32)) (v2 : Int32) (v3 : Int32) (v4 : Int32) (v5 : Int32) (v6 : Int32) (v8 : Int32) (s0 : Int32) : Option (Int32) :=
    k36 v2 v3 v4 v5 v6 s0 (v8 + (-1))
def pX9_homeOrder_L83 (k36 : Int32 → Int32 → Int32 → Int32 → Int32 → Int32 → Int32 → Option (Int32)) (k19 : Int32 → Int32 → Int32 → Int32 → Int32 → Option (Int32)) (v2 : Int32) (v3 : Int32) (v4 : Int32) (v5 : Int32) (v6 : Int32) (v7 : Int32) (v8 : Int32) : Option (Int32) :=
    pX9_homeOrder_L85 k36 k19 v2 v3 v4 v5 v6 v8 v7
def pX9_homeOrder_L78 (k36 : Int32 → Int32 → Int32 → Int32 → Int32 → Int32 → Int32 → Option (Int32)) (k19 : Int32 → Int32 → Int32 → Int32 → Int32 → Option (Int32)) (v2 : Int32) (v3 : Int32) (v4 : Int32) (v5 : Int32) (v6 : Int32) (v8 : Int32) : Option (Int32) :=
    pX9_homeOrder_L85 k36 k19 v2 v3 v4 v5 v6 v8 v8
def pX9_homeOrder_L36 (k19 : Int32 → Int32 → Int32 → Int32 → Int32 → Option (Int32)) (x1 : Int32) (mo_told : Nat → Int32) : Nat → Int32 → Int32 → Int32 → Int32 → Int32 → Int32 → Int32 → Option (Int32)
  | 0, _, _, _, _, _, _, _ => none
  | n36 + 1, v2, v3, v4, v5, v6, v7, v8 =>
    (if v8 < 0 then
    kl (v2 &&& (((1 : Int32) <<< (v7 &&& 31)) ^^^ (-1))) fun y4 =>
    if (28 + v7) < 0 ∨ 37 ≤ (28 + v7).toNatClampNeg then none else
    kl (v3 + (mo_told ((28 + v7).toNatClampNeg))) fun y6 =>
    (if v6 = x1 then
    pX9_homeOrder_L134 k19 y4 y6 (v4 + y6) v6 v7
    else
    pX9_homeOrder_L134 k19 y4 y6 (v4 + y6) v6 v5)
    else
    kb1 (pX9_has v2 v8) fun r8 =>
    (if r8 = 0 then
    pX9_homeOrder_L83 (pX9_homeOrder_L36 k19 x1 mo_told n36) k19 v2 v3 v4 v5 v6 v7 v8
    else
    (if v7 < 0 then
    pX9_homeOrder_L78 (pX9_homeOrder_L36 k19 x1 mo_told n36) k19 v2 v3 v4 v5 v6 v8
    else
    if (28 + v8) < 0 ∨ 37 ≤ (28 + v8).toNatClampNeg then none else
    if (28 + v7) < 0 ∨ 37 ≤ (28 + v7).toNatClampNeg then none else
    (if (mo_told ((28 + v7).toNatClampNeg)) < (mo_told ((28 + v8).toNatClampNeg)) then
    pX9_homeOrder_L83 (pX9_homeOrder_L36 k19 x1 mo_told n36) k19 v2 v3 v4 v5 v6 v7 v8
    else
    pX9_homeOrder_L78 (pX9_homeOrder_L36 k19 x1 mo_told n36) k19 v2 v3 v4 v5 v6 v8))))
def pX9_homeOrder_L19 (N : Nat) (x1 : Int32) (mo_told : Nat → Int32) : Nat → Int32 → Int32 → Int32 → Int32 → Int32 → Option (Int32)
  | 0, _, _, _, _, _ => none
  | n19 + 1, v2, v3, v4, v5, v6 =>
    (if v2 = 0 then
    (if x1 = (-1) then
    some (v4)
    else
    some (v5))
    else
    pX9_homeOrder_L36 (pX9_homeOrder_L19 N x1 mo_told n19) x1 mo_told N v2 v3 v4 v5 v6 (-1) ((mo_told 4) - 1))
def pX9_homeOrder (N : Nat) (x1 : Int32) (mo_told : Nat → Int32) (mo_st : Nat → Int32) : Option (Int32) :=
    pX9_homeOrder_L19 N x1 mo_told N (mo_st 15) 0 0 (-1) 0
set_option maxHeartbeats 8000000 in
set_option maxRecDepth 100000 in
theorem tX9_homeOrder (l : Launch) (D : va_G) (κ : Nat → ClassId) (moo : Nat) (mo_toldA : Nat) (mo_stA : Nat) (mo_textA : Nat) (mo_readA : Nat) (mo_aheadA : Nat) (mo_asideA : Nat) (mo_weighingsA : Nat) (mo_bookA : Nat) (mo_isKeptA : Nat) (mo_keptA : Nat) (mo_seedsA : Nat) (N : Nat) (mo_told : Nat → Int32) (mo_st : Nat → Int32) (mo_isThere : Int32) (mo_seed : Int32) (mo_text : Nat → Int32) (mo_typed : Int32) (mo_faultAt : Int32) (mo_place : Int32) (mo_wrong : Int32) (mo_value : Int32) (mo_read : Nat → Int32) (mo_ahead : Nat → Int32) (mo_undoMany : Int32) (mo_aside : Nat → Int32) (mo_weighings : Nat → Int32) (mo_weighed : Int32) (mo_book : Nat → Int32) (mo_entries : Int32) (mo_isKept : Nat → Int32) (mo_kept : Nat → Int32) (mo_seeds : Nat → Int32) (x1 : Int32) (r0 : Int32) (hres : pX9_homeOrder N x1 mo_told mo_st = some (r0)) : krI l yX9_homeOrder wsX9_homeOrder { frames := 1, cells := 0, slots := 0, locals := 100 } D κ [.ref moo, .int x1] ([(moo, .inr (9, [.ref mo_toldA, .ref mo_stA, .int mo_isThere, .int mo_seed, .ref mo_textA, .int mo_typed, .int mo_faultAt, .int mo_place, .int mo_wrong, .int mo_value, .ref mo_readA, .ref mo_aheadA, .int mo_undoMany, .ref mo_asideA, .ref mo_weighingsA, .int mo_weighed, .ref mo_bookA, .int mo_entries, .ref mo_isKeptA, .ref mo_keptA, .ref mo_seedsA])), (mo_toldA, .inl (κ 0, 37, .inl mo_told)), (mo_stA, .inl (κ 0, 17, .inl mo_st)), (mo_textA, .inl (κ 0, 240, .inl mo_text)), (mo_readA, .inl (κ 0, 37, .inl mo_read)), (mo_aheadA, .inl (κ 0, 340, .inl mo_ahead)), (mo_asideA, .inl (κ 0, 17, .inl mo_aside)), (mo_weighingsA, .inl (κ 0, 12, .inl mo_weighings)), (mo_bookA, .inl (κ 0, 30, .inl mo_book)), (mo_isKeptA, .inl (κ 1, 2, .inl mo_isKept)), (mo_keptA, .inl (κ 0, 34, .inl mo_kept)), (mo_seedsA, .inl (κ 0, 2, .inl mo_seeds))]) ([(moo, .inr (9, [.ref mo_toldA, .ref mo_stA, .int mo_isThere, .int mo_seed, .ref mo_textA, .int mo_typed, .int mo_faultAt, .int mo_place, .int mo_wrong, .int mo_value, .ref mo_readA, .ref mo_aheadA, .int mo_undoMany, .ref mo_asideA, .ref mo_weighingsA, .int mo_weighed, .ref mo_bookA, .int mo_entries, .ref mo_isKeptA, .ref mo_keptA, .ref mo_seedsA])), (mo_toldA, .inl (κ 0, 37, .inl mo_told)), (mo_stA, .inl (κ 0, 17, .inl mo_st)), (mo_textA, .inl (κ 0, 240, .inl mo_text)), (mo_readA, .inl (κ 0, 37, .inl mo_read)), (mo_aheadA, .inl (κ 0, 340, .inl mo_ahead)), (mo_asideA, .inl (κ 0, 17, .inl mo_aside)), (mo_weighingsA, .inl (κ 0, 12, .inl mo_weighings)), (mo_bookA, .inl (κ 0, 30, .inl mo_book)), (mo_isKeptA, .inl (κ 1, 2, .inl mo_isKept)), (mo_keptA, .inl (κ 0, 34, .inl mo_kept)), (mo_seedsA, .inl (κ 0, 2, .inl mo_seeds))]) r0 := by
  refine krI_of (cc := cX9_homeOrder) (maxL := 9) (rt := .int) (by decide) rfl (Nat.le_of_ble_eq_true rfl) ?_
  intro p e s m args below meth c A Q ls hx hb hml hown hts hK hA hret hP hD hS hl
  have hown : s.vm.findClass RX9 = some m.cls := hown
  have hl : lv_has ls 9 [(0, .ref moo), (1, .int x1)] := hl
  have iw9 : ∀ w ∈ u_ws RX9 TX9 21, w ∈ wsX9_homeOrder := (fun _ h => List.mem_cons_of_mem _ (List.mem_append_right _ h))
  have k0 : (Cond.fieldLink RX9 13 "KingRansomModel" "st" "[I").before args s = true := hts _ (List.mem_of_getElem? (i := 1) rfl)
  have k1 : (Cond.fieldLink RX9 7 "KingRansomModel" "told" "[I").before args s = true := hts _ (List.mem_of_getElem? (i := 2) rfl)
  have L19 : ∀ (n19 : Nat) (v2 : Int32) (v3 : Int32) (v4 : Int32) (v5 : Int32) (v6 : Int32) (H : Heap) (locs : List Loc) (ls : Array Slot), va_P D vwCl ([(moo, .inr (9, [.ref mo_toldA, .ref mo_stA, .int mo_isThere, .int mo_seed, .ref mo_textA, .int mo_typed, .int mo_faultAt, .int mo_place, .int mo_wrong, .int mo_value, .ref mo_readA, .ref mo_aheadA, .int mo_undoMany, .ref mo_asideA, .ref mo_weighingsA, .int mo_weighed, .ref mo_bookA, .int mo_entries, .ref mo_isKeptA, .ref mo_keptA, .ref mo_seedsA])), (mo_toldA, .inl (κ 0, 37, .inl mo_told)), (mo_stA, .inl (κ 0, 17, .inl mo_st)), (mo_textA, .inl (κ 0, 240, .inl mo_text)), (mo_readA, .inl (κ 0, 37, .inl mo_read)), (mo_aheadA, .inl (κ 0, 340, .inl mo_ahead)), (mo_asideA, .inl (κ 0, 17, .inl mo_aside)), (mo_weighingsA, .inl (κ 0, 12, .inl mo_weighings)), (mo_bookA, .inl (κ 0, 30, .inl mo_book)), (mo_isKeptA, .inl (κ 1, 2, .inl mo_isKept)), (mo_keptA, .inl (κ 0, 34, .inl mo_kept)), (mo_seedsA, .inl (κ 0, 2, .inl mo_seeds))]) H → va_D A ([(moo, .inr (9, [.ref mo_toldA, .ref mo_stA, .int mo_isThere, .int mo_seed, .ref mo_textA, .int mo_typed, .int mo_faultAt, .int mo_place, .int mo_wrong, .int mo_value, .ref mo_readA, .ref mo_aheadA, .int mo_undoMany, .ref mo_asideA, .ref mo_weighingsA, .int mo_weighed, .ref mo_bookA, .int mo_entries, .ref mo_isKeptA, .ref mo_keptA, .ref mo_seedsA])), (mo_toldA, .inl (κ 0, 37, .inl mo_told)), (mo_stA, .inl (κ 0, 17, .inl mo_st)), (mo_textA, .inl (κ 0, 240, .inl mo_text)), (mo_readA, .inl (κ 0, 37, .inl mo_read)), (mo_aheadA, .inl (κ 0, 340, .inl mo_ahead)), (mo_asideA, .inl (κ 0, 17, .inl mo_aside)), (mo_weighingsA, .inl (κ 0, 12, .inl mo_weighings)), (mo_bookA, .inl (κ 0, 30, .inl mo_book)), (mo_isKeptA, .inl (κ 1, 2, .inl mo_isKept)), (mo_keptA, .inl (κ 0, 34, .inl mo_kept)), (mo_seedsA, .inl (κ 0, 2, .inl mo_seeds))]) → va_S A s.heap H locs → lv_has ls 9 [(0, .ref moo), (1, .int x1), (2, .int v2), (3, .int v3), (4, .int v4), (5, .int v5), (6, .int v6)] → pX9_homeOrder_L19 N x1 mo_told n19 v2 v3 v4 v5 v6 = some (r0) → W p l e { frames := 1, cells := 0, slots := 0, locals := 100 } s m args below meth c H locs 0 0 Q (F0 m 19 ls []) := by
    intro n19
    induction n19 with
    | zero =>
      intro v2 v3 v4 v5 v6 H locs ls hP hD hS hl hres
      exact absurd (show none = some _ from hres) (by simp)
    | succ n19 ih19 =>
      intro v2 v3 v4 v5 v6 H locs ls hP hD hS hl hres
      have L134 : ∀ (v2 : Int32) (v3 : Int32) (v4 : Int32) (v6 : Int32) (s0 : Int32) (H : Heap) (locs : List Loc) (ls : Array Slot), va_P D vwCl ([(moo, .inr (9, [.ref mo_toldA, .ref mo_stA, .int mo_isThere, .int mo_seed, .ref mo_textA, .int mo_typed, .int mo_faultAt, .int mo_place, .int mo_wrong, .int mo_value, .ref mo_readA, .ref mo_aheadA, .int mo_undoMany, .ref mo_asideA, .ref mo_weighingsA, .int mo_weighed, .ref mo_bookA, .int mo_entries, .ref mo_isKeptA, .ref mo_keptA, .ref mo_seedsA])), (mo_toldA, .inl (κ 0, 37, .inl mo_told)), (mo_stA, .inl (κ 0, 17, .inl mo_st)), (mo_textA, .inl (κ 0, 240, .inl mo_text)), (mo_readA, .inl (κ 0, 37, .inl mo_read)), (mo_aheadA, .inl (κ 0, 340, .inl mo_ahead)), (mo_asideA, .inl (κ 0, 17, .inl mo_aside)), (mo_weighingsA, .inl (κ 0, 12, .inl mo_weighings)), (mo_bookA, .inl (κ 0, 30, .inl mo_book)), (mo_isKeptA, .inl (κ 1, 2, .inl mo_isKept)), (mo_keptA, .inl (κ 0, 34, .inl mo_kept)), (mo_seedsA, .inl (κ 0, 2, .inl mo_seeds))]) H → va_D A ([(moo, .inr (9, [.ref mo_toldA, .ref mo_stA, .int mo_isThere, .int mo_seed, .ref mo_textA, .int mo_typed, .int mo_faultAt, .int mo_place, .int mo_wrong, .int mo_value, .ref mo_readA, .ref mo_aheadA, .int mo_undoMany, .ref mo_asideA, .ref mo_weighingsA, .int mo_weighed, .ref mo_bookA, .int mo_entries, .ref mo_isKeptA, .ref mo_keptA, .ref mo_seedsA])), (mo_toldA, .inl (κ 0, 37, .inl mo_told)), (mo_stA, .inl (κ 0, 17, .inl mo_st)), (mo_textA, .inl (κ 0, 240, .inl mo_text)), (mo_readA, .inl (κ 0, 37, .inl mo_read)), (mo_aheadA, .inl (κ 0, 340, .inl mo_ahead)), (mo_asideA, .inl (κ 0, 17, .inl mo_aside)), (mo_weighingsA, .inl (κ 0, 12, .inl mo_weighings)), (mo_bookA, .inl (κ 0, 30, .inl mo_book)), (mo_isKeptA, .inl (κ 1, 2, .inl mo_isKept)), (mo_keptA, .inl (κ 0, 34, .inl mo_kept)), (mo_seedsA, .inl (κ 0, 2, .inl mo_seeds))]) → va_S A s.heap H locs → lv_has ls 9 [(0, .ref moo), (1, .int x1), (2, .int v2), (3, .int v3), (4, .int v4), (6, .int v6)] → pX9_homeOrder_L134 (pX9_homeOrder_L19 N x1 mo_told n19) v2 v3 v4 v6 s0 = some (r0) → W p l e { frames := 1, cells := 0, slots := 0, locals := 100 } s m args below meth c H locs 0 0 Q (F0 m 134 ls [.int s0]) := by
        intro v2 v3 v4 v6 s0 H locs ls hP hD hS hl hres
        unfold pX9_homeOrder_L134 at hres
        refine lv_istore (lv' := [(5, .int s0), (0, .ref moo), (1, .int x1), (2, .int v2), (3, .int v3), (4, .int v4), (6, .int v6)]) hx hb dX9_homeOrder_134 hl (by decide) rfl (fun ls hl => ?_)
        refine lv_iinc (v := (v6 + 1)) (lv' := [(6, .int (v6 + 1)), (5, .int s0), (0, .ref moo), (1, .int x1), (2, .int v2), (3, .int v3), (4, .int v4)]) hx hb dX9_homeOrder_136 hl (k := 6) rfl rfl (by decide) rfl (fun ls hl => ?_)
        refine lv_goto (tgt := 19) hx hb dX9_homeOrder_139 (by decide) ?_
        exact ih19 v2 v3 v4 s0 (v6 + 1) _ _ _ hP hD hS (lv_sub hl [2, 3, 4, 5, 6, 1, 0] rfl) hres
      have L36 : ∀ (n36 : Nat) (v2 : Int32) (v3 : Int32) (v4 : Int32) (v5 : Int32) (v6 : Int32) (v7 : Int32) (v8 : Int32) (H : Heap) (locs : List Loc) (ls : Array Slot), va_P D vwCl ([(moo, .inr (9, [.ref mo_toldA, .ref mo_stA, .int mo_isThere, .int mo_seed, .ref mo_textA, .int mo_typed, .int mo_faultAt, .int mo_place, .int mo_wrong, .int mo_value, .ref mo_readA, .ref mo_aheadA, .int mo_undoMany, .ref mo_asideA, .ref mo_weighingsA, .int mo_weighed, .ref mo_bookA, .int mo_entries, .ref mo_isKeptA, .ref mo_keptA, .ref mo_seedsA])), (mo_toldA, .inl (κ 0, 37, .inl mo_told)), (mo_stA, .inl (κ 0, 17, .inl mo_st)), (mo_textA, .inl (κ 0, 240, .inl mo_text)), (mo_readA, .inl (κ 0, 37, .inl mo_read)), (mo_aheadA, .inl (κ 0, 340, .inl mo_ahead)), (mo_asideA, .inl (κ 0, 17, .inl mo_aside)), (mo_weighingsA, .inl (κ 0, 12, .inl mo_weighings)), (mo_bookA, .inl (κ 0, 30, .inl mo_book)), (mo_isKeptA, .inl (κ 1, 2, .inl mo_isKept)), (mo_keptA, .inl (κ 0, 34, .inl mo_kept)), (mo_seedsA, .inl (κ 0, 2, .inl mo_seeds))]) H → va_D A ([(moo, .inr (9, [.ref mo_toldA, .ref mo_stA, .int mo_isThere, .int mo_seed, .ref mo_textA, .int mo_typed, .int mo_faultAt, .int mo_place, .int mo_wrong, .int mo_value, .ref mo_readA, .ref mo_aheadA, .int mo_undoMany, .ref mo_asideA, .ref mo_weighingsA, .int mo_weighed, .ref mo_bookA, .int mo_entries, .ref mo_isKeptA, .ref mo_keptA, .ref mo_seedsA])), (mo_toldA, .inl (κ 0, 37, .inl mo_told)), (mo_stA, .inl (κ 0, 17, .inl mo_st)), (mo_textA, .inl (κ 0, 240, .inl mo_text)), (mo_readA, .inl (κ 0, 37, .inl mo_read)), (mo_aheadA, .inl (κ 0, 340, .inl mo_ahead)), (mo_asideA, .inl (κ 0, 17, .inl mo_aside)), (mo_weighingsA, .inl (κ 0, 12, .inl mo_weighings)), (mo_bookA, .inl (κ 0, 30, .inl mo_book)), (mo_isKeptA, .inl (κ 1, 2, .inl mo_isKept)), (mo_keptA, .inl (κ 0, 34, .inl mo_kept)), (mo_seedsA, .inl (κ 0, 2, .inl mo_seeds))]) → va_S A s.heap H locs → lv_has ls 9 [(0, .ref moo), (1, .int x1), (2, .int v2), (3, .int v3), (4, .int v4), (5, .int v5), (6, .int v6), (7, .int v7), (8, .int v8)] → pX9_homeOrder_L36 (pX9_homeOrder_L19 N x1 mo_told n19) x1 mo_told n36 v2 v3 v4 v5 v6 v7 v8 = some (r0) → W p l e { frames := 1, cells := 0, slots := 0, locals := 100 } s m args below meth c H locs 0 0 Q (F0 m 36 ls []) := by
        intro n36
        induction n36 with
        | zero =>
          intro v2 v3 v4 v5 v6 v7 v8 H locs ls hP hD hS hl hres
          exact absurd (show none = some _ from hres) (by simp)
        | succ n36 ih36 =>
          intro v2 v3 v4 v5 v6 v7 v8 H locs ls hP hD hS hl hres
          have L85 : ∀ (v2 : Int32) (v3 : Int32) (v4 : Int32) (v5 : Int32) (v6 : Int32) (v8 : Int32) (s0 : Int32) (H : Heap) (locs : List Loc) (ls : Array Slot), va_P D vwCl ([(moo, .inr (9, [.ref mo_toldA, .ref mo_stA, .int mo_isThere, .int mo_seed, .ref mo_textA, .int mo_typed, .int mo_faultAt, .int mo_place, .int mo_wrong, .int mo_value, .ref mo_readA, .ref mo_aheadA, .int mo_undoMany, .ref mo_asideA, .ref mo_weighingsA, .int mo_weighed, .ref mo_bookA, .int mo_entries, .ref mo_isKeptA, .ref mo_keptA, .ref mo_seedsA])), (mo_toldA, .inl (κ 0, 37, .inl mo_told)), (mo_stA, .inl (κ 0, 17, .inl mo_st)), (mo_textA, .inl (κ 0, 240, .inl mo_text)), (mo_readA, .inl (κ 0, 37, .inl mo_read)), (mo_aheadA, .inl (κ 0, 340, .inl mo_ahead)), (mo_asideA, .inl (κ 0, 17, .inl mo_aside)), (mo_weighingsA, .inl (κ 0, 12, .inl mo_weighings)), (mo_bookA, .inl (κ 0, 30, .inl mo_book)), (mo_isKeptA, .inl (κ 1, 2, .inl mo_isKept)), (mo_keptA, .inl (κ 0, 34, .inl mo_kept)), (mo_seedsA, .inl (κ 0, 2, .inl mo_seeds))]) H → va_D A ([(moo, .inr (9, [.ref mo_toldA, .ref mo_stA, .int mo_isThere, .int mo_seed, .ref mo_textA, .int mo_typed, .int mo_faultAt, .int mo_place, .int mo_wrong, .int mo_value, .ref mo_readA, .ref mo_aheadA, .int mo_undoMany, .ref mo_asideA, .ref mo_weighingsA, .int mo_weighed, .ref mo_bookA, .int mo_entries, .ref mo_isKeptA, .ref mo_keptA, .ref mo_seedsA])), (mo_toldA, .inl (κ 0, 37, .inl mo_told)), (mo_stA, .inl (κ 0, 17, .inl mo_st)), (mo_textA, .inl (κ 0, 240, .inl mo_text)), (mo_readA, .inl (κ 0, 37, .inl mo_read)), (mo_aheadA, .inl (κ 0, 340, .inl mo_ahead)), (mo_asideA, .inl (κ 0, 17, .inl mo_aside)), (mo_weighingsA, .inl (κ 0, 12, .inl mo_weighings)), (mo_bookA, .inl (κ 0, 30, .inl mo_book)), (mo_isKeptA, .inl (κ 1, 2, .inl mo_isKept)), (mo_keptA, .inl (κ 0, 34, .inl mo_kept)), (mo_seedsA, .inl (κ 0, 2, .inl mo_seeds))]) → va_S A s.heap H locs → lv_has ls 9 [(0, .ref moo), (1, .int x1), (2, .int v2), (3, .int v3), (4, .int v4), (5, .int v5), (6, .int v6), (8, .int v8)] → pX9_homeOrder_L85 (pX9_homeOrder_L36 (pX9_homeOrder_L19 N x1 mo_told n19) x1 mo_told n36) (pX9_homeOrder_L19 N x1 mo_told n19) v2 v3 v4 v5 v6 v8 s0 = some (r0) → W p l e { frames := 1, cells := 0, slots := 0, locals := 100 } s m args below meth c H locs 0 0 Q (F0 m 85 ls [.int s0]) := by
            intro v2 v3 v4 v5 v6 v8 s0 H locs ls hP hD hS hl hres
            unfold pX9_homeOrder_L85 at hres
            refine lv_istore (lv' := [(7, .int s0), (0, .ref moo), (1, .int x1), (2, .int v2), (3, .int v3), (4, .int v4), (5, .int v5), (6, .int v6), (8, .int v8)]) hx hb dX9_homeOrder_85 hl (by decide) rfl (fun ls hl => ?_)
            refine lv_iinc (v := (v8 + (-1))) (lv' := [(8, .int (v8 + (-1))), (7, .int s0), (0, .ref moo), (1, .int x1), (2, .int v2), (3, .int v3), (4, .int v4), (5, .int v5), (6, .int v6)]) hx hb dX9_homeOrder_87 hl (k := 8) rfl rfl (by decide) rfl (fun ls hl => ?_)
            refine lv_goto (tgt := 36) hx hb dX9_homeOrder_90 (by decide) ?_
            exact ih36 v2 v3 v4 v5 v6 s0 (v8 + (-1)) _ _ _ hP hD hS (lv_sub hl [2, 3, 4, 5, 6, 7, 8, 1, 0] rfl) hres
          have L83 : ∀ (v2 : Int32) (v3 : Int32) (v4 : Int32) (v5 : Int32) (v6 : Int32) (v7 : Int32) (v8 : Int32) (H : Heap) (locs : List Loc) (ls : Array Slot), va_P D vwCl ([(moo, .inr (9, [.ref mo_toldA, .ref mo_stA, .int mo_isThere, .int mo_seed, .ref mo_textA, .int mo_typed, .int mo_faultAt, .int mo_place, .int mo_wrong, .int mo_value, .ref mo_readA, .ref mo_aheadA, .int mo_undoMany, .ref mo_asideA, .ref mo_weighingsA, .int mo_weighed, .ref mo_bookA, .int mo_entries, .ref mo_isKeptA, .ref mo_keptA, .ref mo_seedsA])), (mo_toldA, .inl (κ 0, 37, .inl mo_told)), (mo_stA, .inl (κ 0, 17, .inl mo_st)), (mo_textA, .inl (κ 0, 240, .inl mo_text)), (mo_readA, .inl (κ 0, 37, .inl mo_read)), (mo_aheadA, .inl (κ 0, 340, .inl mo_ahead)), (mo_asideA, .inl (κ 0, 17, .inl mo_aside)), (mo_weighingsA, .inl (κ 0, 12, .inl mo_weighings)), (mo_bookA, .inl (κ 0, 30, .inl mo_book)), (mo_isKeptA, .inl (κ 1, 2, .inl mo_isKept)), (mo_keptA, .inl (κ 0, 34, .inl mo_kept)), (mo_seedsA, .inl (κ 0, 2, .inl mo_seeds))]) H → va_D A ([(moo, .inr (9, [.ref mo_toldA, .ref mo_stA, .int mo_isThere, .int mo_seed, .ref mo_textA, .int mo_typed, .int mo_faultAt, .int mo_place, .int mo_wrong, .int mo_value, .ref mo_readA, .ref mo_aheadA, .int mo_undoMany, .ref mo_asideA, .ref mo_weighingsA, .int mo_weighed, .ref mo_bookA, .int mo_entries, .ref mo_isKeptA, .ref mo_keptA, .ref mo_seedsA])), (mo_toldA, .inl (κ 0, 37, .inl mo_told)), (mo_stA, .inl (κ 0, 17, .inl mo_st)), (mo_textA, .inl (κ 0, 240, .inl mo_text)), (mo_readA, .inl (κ 0, 37, .inl mo_read)), (mo_aheadA, .inl (κ 0, 340, .inl mo_ahead)), (mo_asideA, .inl (κ 0, 17, .inl mo_aside)), (mo_weighingsA, .inl (κ 0, 12, .inl mo_weighings)), (mo_bookA, .inl (κ 0, 30, .inl mo_book)), (mo_isKeptA, .inl (κ 1, 2, .inl mo_isKept)), (mo_keptA, .inl (κ 0, 34, .inl mo_kept)), (mo_seedsA, .inl (κ 0, 2, .inl mo_seeds))]) → va_S A s.heap H locs → lv_has ls 9 [(0, .ref moo), (1, .int x1), (2, .int v2), (3, .int v3), (4, .int v4), (5, .int v5), (6, .int v6), (7, .int v7), (8, .int v8)] → pX9_homeOrder_L83 (pX9_homeOrder_L36 (pX9_homeOrder_L19 N x1 mo_told n19) x1 mo_told n36) (pX9_homeOrder_L19 N x1 mo_told n19) v2 v3 v4 v5 v6 v7 v8 = some (r0) → W p l e { frames := 1, cells := 0, slots := 0, locals := 100 } s m args below meth c H locs 0 0 Q (F0 m 83 ls []) := by
            intro v2 v3 v4 v5 v6 v7 v8 H locs ls hP hD hS hl hres
            unfold pX9_homeOrder_L83 at hres
            refine lv_iload hx hb dX9_homeOrder_83 (lv_at hl 7 rfl) ?_
            exact L85 v2 v3 v4 v5 v6 v8 v7 _ _ _ hP hD hS (lv_sub hl [0, 1, 2, 3, 4, 5, 6, 8] rfl) hres
          have L78 : ∀ (v2 : Int32) (v3 : Int32) (v4 : Int32) (v5 : Int32) (v6 : Int32) (v8 : Int32) (H : Heap) (locs : List Loc) (ls : Array Slot), va_P D vwCl ([(moo, .inr (9, [.ref mo_toldA, .ref mo_stA, .int mo_isThere, .int mo_seed, .ref mo_textA, .int mo_typed, .int mo_faultAt, .int mo_place, .int mo_wrong, .int mo_value, .ref mo_readA, .ref mo_aheadA, .int mo_undoMany, .ref mo_asideA, .ref mo_weighingsA, .int mo_weighed, .ref mo_bookA, .int mo_entries, .ref mo_isKeptA, .ref mo_keptA, .ref mo_seedsA])), (mo_toldA, .inl (κ 0, 37, .inl mo_told)), (mo_stA, .inl (κ 0, 17, .inl mo_st)), (mo_textA, .inl (κ 0, 240, .inl mo_text)), (mo_readA, .inl (κ 0, 37, .inl mo_read)), (mo_aheadA, .inl (κ 0, 340, .inl mo_ahead)), (mo_asideA, .inl (κ 0, 17, .inl mo_aside)), (mo_weighingsA, .inl (κ 0, 12, .inl mo_weighings)), (mo_bookA, .inl (κ 0, 30, .inl mo_book)), (mo_isKeptA, .inl (κ 1, 2, .inl mo_isKept)), (mo_keptA, .inl (κ 0, 34, .inl mo_kept)), (mo_seedsA, .inl (κ 0, 2, .inl mo_seeds))]) H → va_D A ([(moo, .inr (9, [.ref mo_toldA, .ref mo_stA, .int mo_isThere, .int mo_seed, .ref mo_textA, .int mo_typed, .int mo_faultAt, .int mo_place, .int mo_wrong, .int mo_value, .ref mo_readA, .ref mo_aheadA, .int mo_undoMany, .ref mo_asideA, .ref mo_weighingsA, .int mo_weighed, .ref mo_bookA, .int mo_entries, .ref mo_isKeptA, .ref mo_keptA, .ref mo_seedsA])), (mo_toldA, .inl (κ 0, 37, .inl mo_told)), (mo_stA, .inl (κ 0, 17, .inl mo_st)), (mo_textA, .inl (κ 0, 240, .inl mo_text)), (mo_readA, .inl (κ 0, 37, .inl mo_read)), (mo_aheadA, .inl (κ 0, 340, .inl mo_ahead)), (mo_asideA, .inl (κ 0, 17, .inl mo_aside)), (mo_weighingsA, .inl (κ 0, 12, .inl mo_weighings)), (mo_bookA, .inl (κ 0, 30, .inl mo_book)), (mo_isKeptA, .inl (κ 1, 2, .inl mo_isKept)), (mo_keptA, .inl (κ 0, 34, .inl mo_kept)), (mo_seedsA, .inl (κ 0, 2, .inl mo_seeds))]) → va_S A s.heap H locs → lv_has ls 9 [(0, .ref moo), (1, .int x1), (2, .int v2), (3, .int v3), (4, .int v4), (5, .int v5), (6, .int v6), (8, .int v8)] → pX9_homeOrder_L78 (pX9_homeOrder_L36 (pX9_homeOrder_L19 N x1 mo_told n19) x1 mo_told n36) (pX9_homeOrder_L19 N x1 mo_told n19) v2 v3 v4 v5 v6 v8 = some (r0) → W p l e { frames := 1, cells := 0, slots := 0, locals := 100 } s m args below meth c H locs 0 0 Q (F0 m 78 ls []) := by
            intro v2 v3 v4 v5 v6 v8 H locs ls hP hD hS hl hres
            unfold pX9_homeOrder_L78 at hres
            refine lv_iload hx hb dX9_homeOrder_78 (lv_at hl 7 rfl) ?_
            refine lv_goto (tgt := 85) hx hb dX9_homeOrder_80 (by decide) ?_
            exact L85 v2 v3 v4 v5 v6 v8 v8 _ _ _ hP hD hS (lv_sub hl [0, 1, 2, 3, 4, 5, 6, 7] rfl) hres
          rw [pX9_homeOrder_L36] at hres
          refine lv_iload hx hb dX9_homeOrder_36 (lv_at hl 8 rfl) ?_
          refine lv_if_lt (tgt := 93) hx hb dX9_homeOrder_38 (by decide) (fun c3 => ?_) (fun c3 => ?_)
          · replace hres := og_t c3 hres
            refine lv_iload_n hx hb dX9_homeOrder_93 rfl (lv_at hl 2 rfl) ?_
            refine lv_iconst (v := 1) hx hb dX9_homeOrder_94 (by decide) ?_
            refine lv_iload hx hb dX9_homeOrder_95 (lv_at hl 7 rfl) ?_
            refine lv_ishl hx hb dX9_homeOrder_97 ?_
            refine lv_iconst (v := (-1)) hx hb dX9_homeOrder_98 (by decide) ?_
            refine lv_ixor hx hb dX9_homeOrder_99 ?_
            refine lv_iand hx hb dX9_homeOrder_100 ?_
            obtain ⟨y4, ey4, hres⟩ := kl_s hres
            refine kr_tope ey4 ?_
            refine lv_istore_n (lv' := [(2, .int y4), (0, .ref moo), (1, .int x1), (3, .int v3), (4, .int v4), (5, .int v5), (6, .int v6), (7, .int v7), (8, .int v8)]) hx hb dX9_homeOrder_101 rfl hl (by decide) rfl (fun ls hl => ?_)
            refine lv_iload_n hx hb dX9_homeOrder_102 rfl (lv_at hl 3 rfl) ?_
            refine lv_aload_n hx hb dX9_homeOrder_103 rfl (lv_at hl 1 rfl) ?_
            refine va_get (D := D) (ci := 9) (v := .ref mo_toldA) (C := RX9) (T := TX9) (N := 21) hx hb hts iw9 hown hK.1 hP 0 rfl rfl 0 (by decide) k1 (fun _ h9 => h9) rfl dX9_homeOrder_104 ?_
            refine lv_bipush (v := 28) hx hb dX9_homeOrder_107 (by decide) ?_
            refine lv_iload hx hb dX9_homeOrder_109 (lv_at hl 7 rfl) ?_
            refine lv_iadd hx hb dX9_homeOrder_111 ?_
            obtain ⟨g5, hres⟩ := og_no hres
            refine kr_iald (f := mo_told) (j := (28 + v7).toNatClampNeg) hx hb hK hP 1 rfl g5 rfl dX9_homeOrder_112 ?_
            refine lv_iadd hx hb dX9_homeOrder_113 ?_
            obtain ⟨y6, ey6, hres⟩ := kl_s hres
            refine kr_tope ey6 ?_
            refine lv_istore_n (lv' := [(3, .int y6), (2, .int y4), (0, .ref moo), (1, .int x1), (4, .int v4), (5, .int v5), (6, .int v6), (7, .int v7), (8, .int v8)]) hx hb dX9_homeOrder_114 rfl hl (by decide) rfl (fun ls hl => ?_)
            refine lv_iload hx hb dX9_homeOrder_115 (lv_at hl 4 rfl) ?_
            refine lv_iload_n hx hb dX9_homeOrder_117 rfl (lv_at hl 0 rfl) ?_
            refine lv_iadd hx hb dX9_homeOrder_118 ?_
            refine lv_istore (lv' := [(4, .int (v4 + y6)), (3, .int y6), (2, .int y4), (0, .ref moo), (1, .int x1), (5, .int v5), (6, .int v6), (7, .int v7), (8, .int v8)]) hx hb dX9_homeOrder_119 hl (by decide) rfl (fun ls hl => ?_)
            refine lv_iload hx hb dX9_homeOrder_121 (lv_at hl 6 rfl) ?_
            refine lv_iload_n hx hb dX9_homeOrder_123 rfl (lv_at hl 4 rfl) ?_
            refine lv_icmp_ne (tgt := 132) hx hb dX9_homeOrder_124 (by decide) (fun c7 => ?_) (fun c7 => ?_)
            · replace hres := og_f c7 hres
              refine lv_iload hx hb dX9_homeOrder_132 (lv_at hl 5 rfl) ?_
              exact L134 y4 y6 (v4 + y6) v6 v5 _ _ _ hP hD hS (lv_sub hl [3, 4, 2, 1, 0, 6] rfl) hres
            · replace hres := og_t c7 hres
              refine lv_iload hx hb dX9_homeOrder_127 (lv_at hl 7 rfl) ?_
              refine lv_goto (tgt := 134) hx hb dX9_homeOrder_129 (by decide) ?_
              exact L134 y4 y6 (v4 + y6) v6 v7 _ _ _ hP hD hS (lv_sub hl [3, 4, 2, 1, 0, 6] rfl) hres
          · replace hres := og_f c3 hres
            refine lv_iload_n hx hb dX9_homeOrder_41 rfl (lv_at hl 2 rfl) ?_
            refine lv_iload hx hb dX9_homeOrder_42 (lv_at hl 8 rfl) ?_
            obtain ⟨r8, hc9, hres⟩ := kb1_s hres
            refine krI_S0 (As := [.int v2, .int v8]) (rest := []) ⟨hx, hb, hml, hown, hts⟩ hK (tX9_has l D κ v2 v8 r8 hc9) (va_cwS 2 hts gX9_homeOrder_X9_has rfl rfl rfl (by decide +kernel) ⟨(Nat.le_of_ble_eq_true rfl), (Nat.le_of_ble_eq_true rfl)⟩) hP hD hS hA rfl hl.1 rfl (Nat.le_of_ble_eq_true rfl) dX9_homeOrder_44 ⟨Nat.zero_le _, Nat.zero_le _⟩ (fun H locs hP hD hS => ?_)
            refine lv_if_eq (tgt := 83) hx hb dX9_homeOrder_47 (by decide) (fun c10 => ?_) (fun c10 => ?_)
            · replace hres := og_t c10 hres
              exact L83 v2 v3 v4 v5 v6 v7 v8 _ _ _ hP hD hS (lv_sub hl [0, 1, 2, 3, 4, 5, 6, 7, 8] rfl) hres
            · replace hres := og_f c10 hres
              refine lv_iload hx hb dX9_homeOrder_50 (lv_at hl 7 rfl) ?_
              refine lv_if_lt (tgt := 78) hx hb dX9_homeOrder_52 (by decide) (fun c11 => ?_) (fun c11 => ?_)
              · replace hres := og_t c11 hres
                exact L78 v2 v3 v4 v5 v6 v8 _ _ _ hP hD hS (lv_sub hl [0, 1, 2, 3, 4, 5, 6, 8] rfl) hres
              · replace hres := og_f c11 hres
                refine lv_aload_n hx hb dX9_homeOrder_55 rfl (lv_at hl 0 rfl) ?_
                refine va_get (D := D) (ci := 9) (v := .ref mo_toldA) (C := RX9) (T := TX9) (N := 21) hx hb hts iw9 hown hK.1 hP 0 rfl rfl 0 (by decide) k1 (fun _ h9 => h9) rfl dX9_homeOrder_56 ?_
                refine lv_bipush (v := 28) hx hb dX9_homeOrder_59 (by decide) ?_
                refine lv_iload hx hb dX9_homeOrder_61 (lv_at hl 8 rfl) ?_
                refine lv_iadd hx hb dX9_homeOrder_63 ?_
                obtain ⟨g12, hres⟩ := og_no hres
                refine kr_iald (f := mo_told) (j := (28 + v8).toNatClampNeg) hx hb hK hP 1 rfl g12 rfl dX9_homeOrder_64 ?_
                refine lv_aload_n hx hb dX9_homeOrder_65 rfl (lv_at hl 0 rfl) ?_
                refine va_get (D := D) (ci := 9) (v := .ref mo_toldA) (C := RX9) (T := TX9) (N := 21) hx hb hts iw9 hown hK.1 hP 0 rfl rfl 0 (by decide) k1 (fun _ h9 => h9) rfl dX9_homeOrder_66 ?_
                refine lv_bipush (v := 28) hx hb dX9_homeOrder_69 (by decide) ?_
                refine lv_iload hx hb dX9_homeOrder_71 (lv_at hl 7 rfl) ?_
                refine lv_iadd hx hb dX9_homeOrder_73 ?_
                obtain ⟨g13, hres⟩ := og_no hres
                refine kr_iald (f := mo_told) (j := (28 + v7).toNatClampNeg) hx hb hK hP 1 rfl g13 rfl dX9_homeOrder_74 ?_
                refine lv_icmp_gt (tgt := 83) hx hb dX9_homeOrder_75 (by decide) (fun c14 => ?_) (fun c14 => ?_)
                · replace hres := og_t c14 hres
                  exact L83 v2 v3 v4 v5 v6 v7 v8 _ _ _ hP hD hS (lv_sub hl [0, 1, 2, 3, 4, 5, 6, 7, 8] rfl) hres
                · replace hres := og_f c14 hres
                  exact L78 v2 v3 v4 v5 v6 v8 _ _ _ hP hD hS (lv_sub hl [0, 1, 2, 3, 4, 5, 6, 8] rfl) hres
      rw [pX9_homeOrder_L19] at hres
      refine lv_iload_n hx hb dX9_homeOrder_19 rfl (lv_at hl 2 rfl) ?_
      refine lv_if_eq (tgt := 142) hx hb dX9_homeOrder_20 (by decide) (fun c1 => ?_) (fun c1 => ?_)
      · replace hres := og_t c1 hres
        refine lv_iload_n hx hb dX9_homeOrder_142 rfl (lv_at hl 1 rfl) ?_
        refine lv_iconst (v := (-1)) hx hb dX9_homeOrder_143 (by decide) ?_
        refine lv_icmp_ne (tgt := 152) hx hb dX9_homeOrder_144 (by decide) (fun c2 => ?_) (fun c2 => ?_)
        · replace hres := og_f c2 hres
          refine lv_iload hx hb dX9_homeOrder_152 (lv_at hl 5 rfl) ?_
          have hres := Option.some.inj hres
          have h0 := hres
          subst h0
          exact hret _ _ _ _ (vp_nar_int _) hP hD hS dX9_homeOrder_154
        · replace hres := og_t c2 hres
          refine lv_iload hx hb dX9_homeOrder_147 (lv_at hl 4 rfl) ?_
          refine lv_goto (tgt := 154) hx hb dX9_homeOrder_149 (by decide) ?_
          have hres := Option.some.inj hres
          have h0 := hres
          subst h0
          exact hret _ _ _ _ (vp_nar_int _) hP hD hS dX9_homeOrder_154
      · replace hres := og_f c1 hres
        refine lv_iconst (v := (-1)) hx hb dX9_homeOrder_23 (by decide) ?_
        refine lv_istore (lv' := [(7, .int (-1)), (0, .ref moo), (1, .int x1), (2, .int v2), (3, .int v3), (4, .int v4), (5, .int v5), (6, .int v6)]) hx hb dX9_homeOrder_24 hl (by decide) rfl (fun ls hl => ?_)
        refine lv_aload_n hx hb dX9_homeOrder_26 rfl (lv_at hl 1 rfl) ?_
        refine va_get (D := D) (ci := 9) (v := .ref mo_toldA) (C := RX9) (T := TX9) (N := 21) hx hb hts iw9 hown hK.1 hP 0 rfl rfl 0 (by decide) k1 (fun _ h9 => h9) rfl dX9_homeOrder_27 ?_
        refine lv_iconst (v := 4) hx hb dX9_homeOrder_30 (by decide) ?_
        refine kr_iald (f := mo_told) (j := 4) hx hb hK hP 1 rfl (by decide) (by decide) dX9_homeOrder_31 ?_
        refine lv_iconst (v := 1) hx hb dX9_homeOrder_32 (by decide) ?_
        refine lv_isub hx hb dX9_homeOrder_33 ?_
        refine lv_istore (lv' := [(8, .int ((mo_told 4) - 1)), (7, .int (-1)), (0, .ref moo), (1, .int x1), (2, .int v2), (3, .int v3), (4, .int v4), (5, .int v5), (6, .int v6)]) hx hb dX9_homeOrder_34 hl (by decide) rfl (fun ls hl => ?_)
        exact L36 N v2 v3 v4 v5 v6 (-1) ((mo_told 4) - 1) _ _ _ hP hD hS (lv_sub hl [2, 3, 4, 5, 6, 7, 8, 1, 0] rfl) hres
  unfold pX9_homeOrder at hres
  refine lv_aload_n hx hb dX9_homeOrder_0 rfl (lv_at hl 0 rfl) ?_
  refine va_get (D := D) (ci := 9) (v := .ref mo_stA) (C := RX9) (T := TX9) (N := 21) hx hb hts iw9 hown hK.1 hP 0 rfl rfl 1 (by decide) k0 (fun _ h9 => h9) rfl dX9_homeOrder_1 ?_
  refine lv_bipush (v := 15) hx hb dX9_homeOrder_4 (by decide) ?_
  refine kr_iald (f := mo_st) (j := 15) hx hb hK hP 2 rfl (by decide) (by decide) dX9_homeOrder_6 ?_
  refine lv_istore_n (lv' := [(2, .int (mo_st 15)), (0, .ref moo), (1, .int x1)]) hx hb dX9_homeOrder_7 rfl hl (by decide) rfl (fun ls hl => ?_)
  refine lv_iconst (v := 0) hx hb dX9_homeOrder_8 (by decide) ?_
  refine lv_istore_n (lv' := [(3, .int 0), (2, .int (mo_st 15)), (0, .ref moo), (1, .int x1)]) hx hb dX9_homeOrder_9 rfl hl (by decide) rfl (fun ls hl => ?_)
  refine lv_iconst (v := 0) hx hb dX9_homeOrder_10 (by decide) ?_
  refine lv_istore (lv' := [(4, .int 0), (3, .int 0), (2, .int (mo_st 15)), (0, .ref moo), (1, .int x1)]) hx hb dX9_homeOrder_11 hl (by decide) rfl (fun ls hl => ?_)
  refine lv_iconst (v := (-1)) hx hb dX9_homeOrder_13 (by decide) ?_
  refine lv_istore (lv' := [(5, .int (-1)), (4, .int 0), (3, .int 0), (2, .int (mo_st 15)), (0, .ref moo), (1, .int x1)]) hx hb dX9_homeOrder_14 hl (by decide) rfl (fun ls hl => ?_)
  refine lv_iconst (v := 0) hx hb dX9_homeOrder_16 (by decide) ?_
  refine lv_istore (lv' := [(6, .int 0), (5, .int (-1)), (4, .int 0), (3, .int 0), (2, .int (mo_st 15)), (0, .ref moo), (1, .int x1)]) hx hb dX9_homeOrder_17 hl (by decide) rfl (fun ls hl => ?_)
  exact L19 N (mo_st 15) 0 0 (-1) 0 _ _ _ hP hD hS (lv_sub hl [5, 6, 4, 3, 2, 1, 0] rfl) hres

def pX9_letters_L144 (k95 : Int64 → Int64 → Int32 → Option (Int32)) (v6 : Int64) (v10 : Int32) (s0 : Int32) (s1 : Int64) : Option (Int32) :=
    k95 v6 ((s1 * (s0.toInt64)) / 100) (v10 + 1)
def pX9_letters_L119 (k95 : Int64 → Int64 → Int32 → Option (Int32)) (x3 : Int32) (x5 : Int32) (v8 : Int64) (v10 : Int32) (s0 : Int32) (s1 : Int64) : Option (Int32) :=
    (if x5 ≤ v10 then
    pX9_letters_L144 k95 ((s1 * (s0.toInt64)) / 100) v10 (100 - x3) v8
    else
    pX9_letters_L144 k95 ((s1 * (s0.toInt64)) / 100) v10 x3 v8)
def pX9_letters_L95 (x2 : Int32) (x3 : Int32) (x4 : Int32) (x5 : Int32) : Nat → Int64 → Int64 → Int32 → Option (Int32)
  | 0, _, _, _ => none
  | n95 + 1, v6, v8, v10 =>
    (if x4 ≤ v10 then
    (if (lg_cmp (v6 + v8) 0) = 0 then
    some (0)
    else
    if (v6 + v8) = 0 then none else
    some ((((v6 * 1000000) / (v6 + v8)).toInt32)))
    else
    (if x5 ≤ v10 then
    pX9_letters_L119 (pX9_letters_L95 x2 x3 x4 x5 n95) x3 x5 v8 v10 (100 - x2) v6
    else
    pX9_letters_L119 (pX9_letters_L95 x2 x3 x4 x5 n95) x3 x5 v8 v10 x2 v6))
def pX9_letters (N : Nat) (x1 : Int32) (x2 : Int32) (x3 : Int32) (x4 : Int32) (x5 : Int32) : Option (Int32) :=
    kb1 (pX9_in (x1.toInt64) 0 100) fun r1 =>
    (if r1 = 0 then
    some ((-1000000002))
    else
    kb1 (pX9_in (x2.toInt64) 0 100) fun r4 =>
    (if r4 = 0 then
    some ((-1000000002))
    else
    kb1 (pX9_in (x3.toInt64) 0 100) fun r7 =>
    (if r7 = 0 then
    some ((-1000000002))
    else
    kb1 (pX9_in (x4.toInt64) 0 9) fun r10 =>
    (if r10 = 0 then
    some ((-1000000002))
    else
    kb1 (pX9_in (x5.toInt64) 0 (x4.toInt64)) fun r13 =>
    (if r13 = 0 then
    some ((-1000000002))
    else
    kl ((1000000000 * (x1.toInt64)) / 100) fun y16 =>
    kl ((1000000000 * ((100 - x1).toInt64)) / 100) fun y17 =>
    pX9_letters_L95 x2 x3 x4 x5 N y16 y17 0)))))
set_option maxHeartbeats 8000000 in
set_option maxRecDepth 100000 in
theorem tX9_letters (l : Launch) (D : va_G) (κ : Nat → ClassId) (moo : Nat) (mo_toldA : Nat) (mo_stA : Nat) (mo_textA : Nat) (mo_readA : Nat) (mo_aheadA : Nat) (mo_asideA : Nat) (mo_weighingsA : Nat) (mo_bookA : Nat) (mo_isKeptA : Nat) (mo_keptA : Nat) (mo_seedsA : Nat) (N : Nat) (mo_told : Nat → Int32) (mo_st : Nat → Int32) (mo_isThere : Int32) (mo_seed : Int32) (mo_text : Nat → Int32) (mo_typed : Int32) (mo_faultAt : Int32) (mo_place : Int32) (mo_wrong : Int32) (mo_value : Int32) (mo_read : Nat → Int32) (mo_ahead : Nat → Int32) (mo_undoMany : Int32) (mo_aside : Nat → Int32) (mo_weighings : Nat → Int32) (mo_weighed : Int32) (mo_book : Nat → Int32) (mo_entries : Int32) (mo_isKept : Nat → Int32) (mo_kept : Nat → Int32) (mo_seeds : Nat → Int32) (x1 : Int32) (x2 : Int32) (x3 : Int32) (x4 : Int32) (x5 : Int32) (r0 : Int32) (hres : pX9_letters N x1 x2 x3 x4 x5 = some (r0)) : krI l yX9_letters wsX9_letters { frames := 1, cells := 0, slots := 0, locals := 100 } D κ [.ref moo, .int x1, .int x2, .int x3, .int x4, .int x5] ([(moo, .inr (9, [.ref mo_toldA, .ref mo_stA, .int mo_isThere, .int mo_seed, .ref mo_textA, .int mo_typed, .int mo_faultAt, .int mo_place, .int mo_wrong, .int mo_value, .ref mo_readA, .ref mo_aheadA, .int mo_undoMany, .ref mo_asideA, .ref mo_weighingsA, .int mo_weighed, .ref mo_bookA, .int mo_entries, .ref mo_isKeptA, .ref mo_keptA, .ref mo_seedsA])), (mo_toldA, .inl (κ 0, 37, .inl mo_told)), (mo_stA, .inl (κ 0, 17, .inl mo_st)), (mo_textA, .inl (κ 0, 240, .inl mo_text)), (mo_readA, .inl (κ 0, 37, .inl mo_read)), (mo_aheadA, .inl (κ 0, 340, .inl mo_ahead)), (mo_asideA, .inl (κ 0, 17, .inl mo_aside)), (mo_weighingsA, .inl (κ 0, 12, .inl mo_weighings)), (mo_bookA, .inl (κ 0, 30, .inl mo_book)), (mo_isKeptA, .inl (κ 1, 2, .inl mo_isKept)), (mo_keptA, .inl (κ 0, 34, .inl mo_kept)), (mo_seedsA, .inl (κ 0, 2, .inl mo_seeds))]) ([(moo, .inr (9, [.ref mo_toldA, .ref mo_stA, .int mo_isThere, .int mo_seed, .ref mo_textA, .int mo_typed, .int mo_faultAt, .int mo_place, .int mo_wrong, .int mo_value, .ref mo_readA, .ref mo_aheadA, .int mo_undoMany, .ref mo_asideA, .ref mo_weighingsA, .int mo_weighed, .ref mo_bookA, .int mo_entries, .ref mo_isKeptA, .ref mo_keptA, .ref mo_seedsA])), (mo_toldA, .inl (κ 0, 37, .inl mo_told)), (mo_stA, .inl (κ 0, 17, .inl mo_st)), (mo_textA, .inl (κ 0, 240, .inl mo_text)), (mo_readA, .inl (κ 0, 37, .inl mo_read)), (mo_aheadA, .inl (κ 0, 340, .inl mo_ahead)), (mo_asideA, .inl (κ 0, 17, .inl mo_aside)), (mo_weighingsA, .inl (κ 0, 12, .inl mo_weighings)), (mo_bookA, .inl (κ 0, 30, .inl mo_book)), (mo_isKeptA, .inl (κ 1, 2, .inl mo_isKept)), (mo_keptA, .inl (κ 0, 34, .inl mo_kept)), (mo_seedsA, .inl (κ 0, 2, .inl mo_seeds))]) r0 := by
  refine krI_of (cc := cX9_letters) (maxL := 11) (rt := .int) (by decide) rfl (Nat.le_of_ble_eq_true rfl) ?_
  intro p e s m args below meth c A Q ls hx hb hml hown hts hK hA hret hP hD hS hl
  have hown : s.vm.findClass RX9 = some m.cls := hown
  have hl : lv_has ls 11 [(0, .ref moo), (1, .int x1), (2, .int x2), (3, .int x3), (4, .int x4), (5, .int x5)] := hl
  have k0 : (Cond.constantLong RX9 137 (100)).before args s = true := hts _ (List.mem_of_getElem? (i := 1) rfl)
  have k1 : (Cond.constant RX9 54 (-1000000002)).before args s = true := hts _ (List.mem_of_getElem? (i := 3) rfl)
  have k2 : (Cond.constantLong RX9 181 (9)).before args s = true := hts _ (List.mem_of_getElem? (i := 2) rfl)
  have k3 : (Cond.constantLong RX9 183 (1000000000)).before args s = true := hts _ (List.mem_of_getElem? (i := 4) rfl)
  have k4 : (Cond.constantLong RX9 185 (1000000)).before args s = true := hts _ (List.mem_of_getElem? (i := 5) rfl)
  have L95 : ∀ (n95 : Nat) (v6 : Int64) (v8 : Int64) (v10 : Int32) (H : Heap) (locs : List Loc) (ls : Array Slot), va_P D vwCl ([(moo, .inr (9, [.ref mo_toldA, .ref mo_stA, .int mo_isThere, .int mo_seed, .ref mo_textA, .int mo_typed, .int mo_faultAt, .int mo_place, .int mo_wrong, .int mo_value, .ref mo_readA, .ref mo_aheadA, .int mo_undoMany, .ref mo_asideA, .ref mo_weighingsA, .int mo_weighed, .ref mo_bookA, .int mo_entries, .ref mo_isKeptA, .ref mo_keptA, .ref mo_seedsA])), (mo_toldA, .inl (κ 0, 37, .inl mo_told)), (mo_stA, .inl (κ 0, 17, .inl mo_st)), (mo_textA, .inl (κ 0, 240, .inl mo_text)), (mo_readA, .inl (κ 0, 37, .inl mo_read)), (mo_aheadA, .inl (κ 0, 340, .inl mo_ahead)), (mo_asideA, .inl (κ 0, 17, .inl mo_aside)), (mo_weighingsA, .inl (κ 0, 12, .inl mo_weighings)), (mo_bookA, .inl (κ 0, 30, .inl mo_book)), (mo_isKeptA, .inl (κ 1, 2, .inl mo_isKept)), (mo_keptA, .inl (κ 0, 34, .inl mo_kept)), (mo_seedsA, .inl (κ 0, 2, .inl mo_seeds))]) H → va_D A ([(moo, .inr (9, [.ref mo_toldA, .ref mo_stA, .int mo_isThere, .int mo_seed, .ref mo_textA, .int mo_typed, .int mo_faultAt, .int mo_place, .int mo_wrong, .int mo_value, .ref mo_readA, .ref mo_aheadA, .int mo_undoMany, .ref mo_asideA, .ref mo_weighingsA, .int mo_weighed, .ref mo_bookA, .int mo_entries, .ref mo_isKeptA, .ref mo_keptA, .ref mo_seedsA])), (mo_toldA, .inl (κ 0, 37, .inl mo_told)), (mo_stA, .inl (κ 0, 17, .inl mo_st)), (mo_textA, .inl (κ 0, 240, .inl mo_text)), (mo_readA, .inl (κ 0, 37, .inl mo_read)), (mo_aheadA, .inl (κ 0, 340, .inl mo_ahead)), (mo_asideA, .inl (κ 0, 17, .inl mo_aside)), (mo_weighingsA, .inl (κ 0, 12, .inl mo_weighings)), (mo_bookA, .inl (κ 0, 30, .inl mo_book)), (mo_isKeptA, .inl (κ 1, 2, .inl mo_isKept)), (mo_keptA, .inl (κ 0, 34, .inl mo_kept)), (mo_seedsA, .inl (κ 0, 2, .inl mo_seeds))]) → va_S A s.heap H locs → lv_has ls 11 [(2, .int x2), (3, .int x3), (4, .int x4), (5, .int x5), (6, .long v6), (8, .long v8), (10, .int v10)] → pX9_letters_L95 x2 x3 x4 x5 n95 v6 v8 v10 = some (r0) → W p l e { frames := 1, cells := 0, slots := 0, locals := 100 } s m args below meth c H locs 0 0 Q (F0 m 95 ls []) := by
    intro n95
    induction n95 with
    | zero =>
      intro v6 v8 v10 H locs ls hP hD hS hl hres
      exact absurd (show none = some _ from hres) (by simp)
    | succ n95 ih95 =>
      intro v6 v8 v10 H locs ls hP hD hS hl hres
      have L144 : ∀ (v6 : Int64) (v10 : Int32) (s0 : Int32) (s1 : Int64) (H : Heap) (locs : List Loc) (ls : Array Slot), va_P D vwCl ([(moo, .inr (9, [.ref mo_toldA, .ref mo_stA, .int mo_isThere, .int mo_seed, .ref mo_textA, .int mo_typed, .int mo_faultAt, .int mo_place, .int mo_wrong, .int mo_value, .ref mo_readA, .ref mo_aheadA, .int mo_undoMany, .ref mo_asideA, .ref mo_weighingsA, .int mo_weighed, .ref mo_bookA, .int mo_entries, .ref mo_isKeptA, .ref mo_keptA, .ref mo_seedsA])), (mo_toldA, .inl (κ 0, 37, .inl mo_told)), (mo_stA, .inl (κ 0, 17, .inl mo_st)), (mo_textA, .inl (κ 0, 240, .inl mo_text)), (mo_readA, .inl (κ 0, 37, .inl mo_read)), (mo_aheadA, .inl (κ 0, 340, .inl mo_ahead)), (mo_asideA, .inl (κ 0, 17, .inl mo_aside)), (mo_weighingsA, .inl (κ 0, 12, .inl mo_weighings)), (mo_bookA, .inl (κ 0, 30, .inl mo_book)), (mo_isKeptA, .inl (κ 1, 2, .inl mo_isKept)), (mo_keptA, .inl (κ 0, 34, .inl mo_kept)), (mo_seedsA, .inl (κ 0, 2, .inl mo_seeds))]) H → va_D A ([(moo, .inr (9, [.ref mo_toldA, .ref mo_stA, .int mo_isThere, .int mo_seed, .ref mo_textA, .int mo_typed, .int mo_faultAt, .int mo_place, .int mo_wrong, .int mo_value, .ref mo_readA, .ref mo_aheadA, .int mo_undoMany, .ref mo_asideA, .ref mo_weighingsA, .int mo_weighed, .ref mo_bookA, .int mo_entries, .ref mo_isKeptA, .ref mo_keptA, .ref mo_seedsA])), (mo_toldA, .inl (κ 0, 37, .inl mo_told)), (mo_stA, .inl (κ 0, 17, .inl mo_st)), (mo_textA, .inl (κ 0, 240, .inl mo_text)), (mo_readA, .inl (κ 0, 37, .inl mo_read)), (mo_aheadA, .inl (κ 0, 340, .inl mo_ahead)), (mo_asideA, .inl (κ 0, 17, .inl mo_aside)), (mo_weighingsA, .inl (κ 0, 12, .inl mo_weighings)), (mo_bookA, .inl (κ 0, 30, .inl mo_book)), (mo_isKeptA, .inl (κ 1, 2, .inl mo_isKept)), (mo_keptA, .inl (κ 0, 34, .inl mo_kept)), (mo_seedsA, .inl (κ 0, 2, .inl mo_seeds))]) → va_S A s.heap H locs → lv_has ls 11 [(2, .int x2), (3, .int x3), (4, .int x4), (5, .int x5), (6, .long v6), (10, .int v10)] → pX9_letters_L144 (pX9_letters_L95 x2 x3 x4 x5 n95) v6 v10 s0 s1 = some (r0) → W p l e { frames := 1, cells := 0, slots := 0, locals := 100 } s m args below meth c H locs 0 0 Q (F0 m 144 ls [.int s0, .long s1]) := by
        intro v6 v10 s0 s1 H locs ls hP hD hS hl hres
        unfold pX9_letters_L144 at hres
        refine lv_i2l (v := s0.toInt64) hx hb dX9_letters_144 rfl ?_
        refine lv_lmul hx hb dX9_letters_145 ?_
        refine lv_ldc2 (v := 100) hx hb hown k0 dX9_letters_146 ?_
        refine lv_ldiv hx hb dX9_letters_149 (by decide) ?_
        refine lv_lstore (lv' := [(8, .long ((s1 * (s0.toInt64)) / 100)), (2, .int x2), (3, .int x3), (4, .int x4), (5, .int x5), (6, .long v6), (10, .int v10)]) hx hb dX9_letters_150 hl (by decide) rfl (fun ls hl => ?_)
        refine lv_iinc (v := (v10 + 1)) (lv' := [(10, .int (v10 + 1)), (8, .long ((s1 * (s0.toInt64)) / 100)), (2, .int x2), (3, .int x3), (4, .int x4), (5, .int x5), (6, .long v6)]) hx hb dX9_letters_152 hl (k := 6) rfl rfl (by decide) rfl (fun ls hl => ?_)
        refine lv_goto (tgt := 95) hx hb dX9_letters_155 (by decide) ?_
        exact ih95 v6 ((s1 * (s0.toInt64)) / 100) (v10 + 1) _ _ _ hP hD hS (lv_sub hl [2, 3, 4, 5, 6, 1, 0] rfl) hres
      have L119 : ∀ (v8 : Int64) (v10 : Int32) (s0 : Int32) (s1 : Int64) (H : Heap) (locs : List Loc) (ls : Array Slot), va_P D vwCl ([(moo, .inr (9, [.ref mo_toldA, .ref mo_stA, .int mo_isThere, .int mo_seed, .ref mo_textA, .int mo_typed, .int mo_faultAt, .int mo_place, .int mo_wrong, .int mo_value, .ref mo_readA, .ref mo_aheadA, .int mo_undoMany, .ref mo_asideA, .ref mo_weighingsA, .int mo_weighed, .ref mo_bookA, .int mo_entries, .ref mo_isKeptA, .ref mo_keptA, .ref mo_seedsA])), (mo_toldA, .inl (κ 0, 37, .inl mo_told)), (mo_stA, .inl (κ 0, 17, .inl mo_st)), (mo_textA, .inl (κ 0, 240, .inl mo_text)), (mo_readA, .inl (κ 0, 37, .inl mo_read)), (mo_aheadA, .inl (κ 0, 340, .inl mo_ahead)), (mo_asideA, .inl (κ 0, 17, .inl mo_aside)), (mo_weighingsA, .inl (κ 0, 12, .inl mo_weighings)), (mo_bookA, .inl (κ 0, 30, .inl mo_book)), (mo_isKeptA, .inl (κ 1, 2, .inl mo_isKept)), (mo_keptA, .inl (κ 0, 34, .inl mo_kept)), (mo_seedsA, .inl (κ 0, 2, .inl mo_seeds))]) H → va_D A ([(moo, .inr (9, [.ref mo_toldA, .ref mo_stA, .int mo_isThere, .int mo_seed, .ref mo_textA, .int mo_typed, .int mo_faultAt, .int mo_place, .int mo_wrong, .int mo_value, .ref mo_readA, .ref mo_aheadA, .int mo_undoMany, .ref mo_asideA, .ref mo_weighingsA, .int mo_weighed, .ref mo_bookA, .int mo_entries, .ref mo_isKeptA, .ref mo_keptA, .ref mo_seedsA])), (mo_toldA, .inl (κ 0, 37, .inl mo_told)), (mo_stA, .inl (κ 0, 17, .inl mo_st)), (mo_textA, .inl (κ 0, 240, .inl mo_text)), (mo_readA, .inl (κ 0, 37, .inl mo_read)), (mo_aheadA, .inl (κ 0, 340, .inl mo_ahead)), (mo_asideA, .inl (κ 0, 17, .inl mo_aside)), (mo_weighingsA, .inl (κ 0, 12, .inl mo_weighings)), (mo_bookA, .inl (κ 0, 30, .inl mo_book)), (mo_isKeptA, .inl (κ 1, 2, .inl mo_isKept)), (mo_keptA, .inl (κ 0, 34, .inl mo_kept)), (mo_seedsA, .inl (κ 0, 2, .inl mo_seeds))]) → va_S A s.heap H locs → lv_has ls 11 [(2, .int x2), (3, .int x3), (4, .int x4), (5, .int x5), (8, .long v8), (10, .int v10)] → pX9_letters_L119 (pX9_letters_L95 x2 x3 x4 x5 n95) x3 x5 v8 v10 s0 s1 = some (r0) → W p l e { frames := 1, cells := 0, slots := 0, locals := 100 } s m args below meth c H locs 0 0 Q (F0 m 119 ls [.int s0, .long s1]) := by
        intro v8 v10 s0 s1 H locs ls hP hD hS hl hres
        unfold pX9_letters_L119 at hres
        refine lv_i2l (v := s0.toInt64) hx hb dX9_letters_119 rfl ?_
        refine lv_lmul hx hb dX9_letters_120 ?_
        refine lv_ldc2 (v := 100) hx hb hown k0 dX9_letters_121 ?_
        refine lv_ldiv hx hb dX9_letters_124 (by decide) ?_
        refine lv_lstore (lv' := [(6, .long ((s1 * (s0.toInt64)) / 100)), (2, .int x2), (3, .int x3), (4, .int x4), (5, .int x5), (8, .long v8), (10, .int v10)]) hx hb dX9_letters_125 hl (by decide) rfl (fun ls hl => ?_)
        refine lv_lload hx hb dX9_letters_127 (lv_at hl 5 rfl) ?_
        refine lv_iload hx hb dX9_letters_129 (lv_at hl 6 rfl) ?_
        refine lv_iload hx hb dX9_letters_131 (lv_at hl 4 rfl) ?_
        refine lv_icmp_ge (tgt := 140) hx hb dX9_letters_133 (by decide) (fun c22 => ?_) (fun c22 => ?_)
        · replace hres := og_t c22 hres
          refine lv_bipush (v := 100) hx hb dX9_letters_140 (by decide) ?_
          refine lv_iload_n hx hb dX9_letters_142 rfl (lv_at hl 2 rfl) ?_
          refine lv_isub hx hb dX9_letters_143 ?_
          exact L144 ((s1 * (s0.toInt64)) / 100) v10 (100 - x3) v8 _ _ _ hP hD hS (lv_sub hl [1, 2, 3, 4, 0, 6] rfl) hres
        · replace hres := og_f c22 hres
          refine lv_iload_n hx hb dX9_letters_136 rfl (lv_at hl 2 rfl) ?_
          refine lv_goto (tgt := 144) hx hb dX9_letters_137 (by decide) ?_
          exact L144 ((s1 * (s0.toInt64)) / 100) v10 x3 v8 _ _ _ hP hD hS (lv_sub hl [1, 2, 3, 4, 0, 6] rfl) hres
      rw [pX9_letters_L95] at hres
      refine lv_iload hx hb dX9_letters_95 (lv_at hl 6 rfl) ?_
      refine lv_iload hx hb dX9_letters_97 (lv_at hl 2 rfl) ?_
      refine lv_icmp_ge (tgt := 158) hx hb dX9_letters_99 (by decide) (fun c18 => ?_) (fun c18 => ?_)
      · replace hres := og_t c18 hres
        refine lv_lload hx hb dX9_letters_158 (lv_at hl 4 rfl) ?_
        refine lv_lload hx hb dX9_letters_160 (lv_at hl 5 rfl) ?_
        refine lv_ladd hx hb dX9_letters_162 ?_
        refine lv_lconst (v := 0) hx hb dX9_letters_163 (by decide) ?_
        refine W.lcmp hx hb dX9_letters_164 ?_
        refine lv_if_ne (tgt := 172) hx hb dX9_letters_165 (by decide) (fun c19 => ?_) (fun c19 => ?_)
        · replace hres := og_f c19 hres
          refine lv_lload hx hb dX9_letters_172 (lv_at hl 4 rfl) ?_
          refine lv_ldc2 (v := 1000000) hx hb hown k4 dX9_letters_174 ?_
          refine lv_lmul hx hb dX9_letters_177 ?_
          refine lv_lload hx hb dX9_letters_178 (lv_at hl 4 rfl) ?_
          refine lv_lload hx hb dX9_letters_180 (lv_at hl 5 rfl) ?_
          refine lv_ladd hx hb dX9_letters_182 ?_
          obtain ⟨g20, hres⟩ := og_no hres
          refine lv_ldiv hx hb dX9_letters_183 g20 ?_
          refine lv_l2i (v := ((v6 * 1000000) / (v6 + v8)).toInt32) hx hb dX9_letters_184 rfl ?_
          have hres := Option.some.inj hres
          have h0 := hres
          subst h0
          exact hret _ _ _ _ (vp_nar_int _) hP hD hS dX9_letters_185
        · replace hres := og_t c19 hres
          refine lv_iconst (v := 0) hx hb dX9_letters_168 (by decide) ?_
          refine lv_goto (tgt := 185) hx hb dX9_letters_169 (by decide) ?_
          have hres := Option.some.inj hres
          have h0 := hres
          subst h0
          exact hret _ _ _ _ (vp_nar_int _) hP hD hS dX9_letters_185
      · replace hres := og_f c18 hres
        refine lv_lload hx hb dX9_letters_102 (lv_at hl 4 rfl) ?_
        refine lv_iload hx hb dX9_letters_104 (lv_at hl 6 rfl) ?_
        refine lv_iload hx hb dX9_letters_106 (lv_at hl 3 rfl) ?_
        refine lv_icmp_ge (tgt := 115) hx hb dX9_letters_108 (by decide) (fun c21 => ?_) (fun c21 => ?_)
        · replace hres := og_t c21 hres
          refine lv_bipush (v := 100) hx hb dX9_letters_115 (by decide) ?_
          refine lv_iload_n hx hb dX9_letters_117 rfl (lv_at hl 0 rfl) ?_
          refine lv_isub hx hb dX9_letters_118 ?_
          exact L119 v8 v10 (100 - x2) v6 _ _ _ hP hD hS (lv_sub hl [0, 1, 2, 3, 5, 6] rfl) hres
        · replace hres := og_f c21 hres
          refine lv_iload_n hx hb dX9_letters_111 rfl (lv_at hl 0 rfl) ?_
          refine lv_goto (tgt := 119) hx hb dX9_letters_112 (by decide) ?_
          exact L119 v8 v10 x2 v6 _ _ _ hP hD hS (lv_sub hl [0, 1, 2, 3, 5, 6] rfl) hres
  unfold pX9_letters at hres
  refine lv_iload_n hx hb dX9_letters_0 rfl (lv_at hl 1 rfl) ?_
  refine lv_i2l (v := x1.toInt64) hx hb dX9_letters_1 rfl ?_
  refine lv_lconst (v := 0) hx hb dX9_letters_2 (by decide) ?_
  refine lv_ldc2 (v := 100) hx hb hown k0 dX9_letters_3 ?_
  obtain ⟨r1, hc2, hres⟩ := kb1_s hres
  refine krI_S0 (As := [.long (x1.toInt64), .long 0, .long 100]) (rest := []) ⟨hx, hb, hml, hown, hts⟩ hK (tX9_in l D κ (x1.toInt64) 0 100 r1 hc2) (va_cwS 3 hts gX9_letters_X9_in rfl rfl rfl (by decide +kernel) ⟨(Nat.le_of_ble_eq_true rfl), (Nat.le_of_ble_eq_true rfl)⟩) hP hD hS hA rfl hl.1 rfl (Nat.le_of_ble_eq_true rfl) dX9_letters_6 ⟨Nat.zero_le _, Nat.zero_le _⟩ (fun H locs hP hD hS => ?_)
  refine lv_if_eq (tgt := 62) hx hb dX9_letters_9 (by decide) (fun c3 => ?_) (fun c3 => ?_)
  · replace hres := og_t c3 hres
    refine lv_ldc (v := (-1000000002)) hx hb hown k1 dX9_letters_62 ?_
    have hres := Option.some.inj hres
    have h0 := hres
    subst h0
    exact hret _ _ _ _ (vp_nar_int _) hP hD hS dX9_letters_64
  · replace hres := og_f c3 hres
    refine lv_iload_n hx hb dX9_letters_12 rfl (lv_at hl 2 rfl) ?_
    refine lv_i2l (v := x2.toInt64) hx hb dX9_letters_13 rfl ?_
    refine lv_lconst (v := 0) hx hb dX9_letters_14 (by decide) ?_
    refine lv_ldc2 (v := 100) hx hb hown k0 dX9_letters_15 ?_
    obtain ⟨r4, hc5, hres⟩ := kb1_s hres
    refine krI_S0 (As := [.long (x2.toInt64), .long 0, .long 100]) (rest := []) ⟨hx, hb, hml, hown, hts⟩ hK (tX9_in l D κ (x2.toInt64) 0 100 r4 hc5) (va_cwS 3 hts gX9_letters_X9_in rfl rfl rfl (by decide +kernel) ⟨(Nat.le_of_ble_eq_true rfl), (Nat.le_of_ble_eq_true rfl)⟩) hP hD hS hA rfl hl.1 rfl (Nat.le_of_ble_eq_true rfl) dX9_letters_18 ⟨Nat.zero_le _, Nat.zero_le _⟩ (fun H locs hP hD hS => ?_)
    refine lv_if_eq (tgt := 62) hx hb dX9_letters_21 (by decide) (fun c6 => ?_) (fun c6 => ?_)
    · replace hres := og_t c6 hres
      refine lv_ldc (v := (-1000000002)) hx hb hown k1 dX9_letters_62 ?_
      have hres := Option.some.inj hres
      have h0 := hres
      subst h0
      exact hret _ _ _ _ (vp_nar_int _) hP hD hS dX9_letters_64
    · replace hres := og_f c6 hres
      refine lv_iload_n hx hb dX9_letters_24 rfl (lv_at hl 3 rfl) ?_
      refine lv_i2l (v := x3.toInt64) hx hb dX9_letters_25 rfl ?_
      refine lv_lconst (v := 0) hx hb dX9_letters_26 (by decide) ?_
      refine lv_ldc2 (v := 100) hx hb hown k0 dX9_letters_27 ?_
      obtain ⟨r7, hc8, hres⟩ := kb1_s hres
      refine krI_S0 (As := [.long (x3.toInt64), .long 0, .long 100]) (rest := []) ⟨hx, hb, hml, hown, hts⟩ hK (tX9_in l D κ (x3.toInt64) 0 100 r7 hc8) (va_cwS 3 hts gX9_letters_X9_in rfl rfl rfl (by decide +kernel) ⟨(Nat.le_of_ble_eq_true rfl), (Nat.le_of_ble_eq_true rfl)⟩) hP hD hS hA rfl hl.1 rfl (Nat.le_of_ble_eq_true rfl) dX9_letters_30 ⟨Nat.zero_le _, Nat.zero_le _⟩ (fun H locs hP hD hS => ?_)
      refine lv_if_eq (tgt := 62) hx hb dX9_letters_33 (by decide) (fun c9 => ?_) (fun c9 => ?_)
      · replace hres := og_t c9 hres
        refine lv_ldc (v := (-1000000002)) hx hb hown k1 dX9_letters_62 ?_
        have hres := Option.some.inj hres
        have h0 := hres
        subst h0
        exact hret _ _ _ _ (vp_nar_int _) hP hD hS dX9_letters_64
      · replace hres := og_f c9 hres
        refine lv_iload hx hb dX9_letters_36 (lv_at hl 4 rfl) ?_
        refine lv_i2l (v := x4.toInt64) hx hb dX9_letters_38 rfl ?_
        refine lv_lconst (v := 0) hx hb dX9_letters_39 (by decide) ?_
        refine lv_ldc2 (v := 9) hx hb hown k2 dX9_letters_40 ?_
        obtain ⟨r10, hc11, hres⟩ := kb1_s hres
        refine krI_S0 (As := [.long (x4.toInt64), .long 0, .long 9]) (rest := []) ⟨hx, hb, hml, hown, hts⟩ hK (tX9_in l D κ (x4.toInt64) 0 9 r10 hc11) (va_cwS 3 hts gX9_letters_X9_in rfl rfl rfl (by decide +kernel) ⟨(Nat.le_of_ble_eq_true rfl), (Nat.le_of_ble_eq_true rfl)⟩) hP hD hS hA rfl hl.1 rfl (Nat.le_of_ble_eq_true rfl) dX9_letters_43 ⟨Nat.zero_le _, Nat.zero_le _⟩ (fun H locs hP hD hS => ?_)
        refine lv_if_eq (tgt := 62) hx hb dX9_letters_46 (by decide) (fun c12 => ?_) (fun c12 => ?_)
        · replace hres := og_t c12 hres
          refine lv_ldc (v := (-1000000002)) hx hb hown k1 dX9_letters_62 ?_
          have hres := Option.some.inj hres
          have h0 := hres
          subst h0
          exact hret _ _ _ _ (vp_nar_int _) hP hD hS dX9_letters_64
        · replace hres := og_f c12 hres
          refine lv_iload hx hb dX9_letters_49 (lv_at hl 5 rfl) ?_
          refine lv_i2l (v := x5.toInt64) hx hb dX9_letters_51 rfl ?_
          refine lv_lconst (v := 0) hx hb dX9_letters_52 (by decide) ?_
          refine lv_iload hx hb dX9_letters_53 (lv_at hl 4 rfl) ?_
          refine lv_i2l (v := x4.toInt64) hx hb dX9_letters_55 rfl ?_
          obtain ⟨r13, hc14, hres⟩ := kb1_s hres
          refine krI_S0 (As := [.long (x5.toInt64), .long 0, .long (x4.toInt64)]) (rest := []) ⟨hx, hb, hml, hown, hts⟩ hK (tX9_in l D κ (x5.toInt64) 0 (x4.toInt64) r13 hc14) (va_cwS 3 hts gX9_letters_X9_in rfl rfl rfl (by decide +kernel) ⟨(Nat.le_of_ble_eq_true rfl), (Nat.le_of_ble_eq_true rfl)⟩) hP hD hS hA rfl hl.1 rfl (Nat.le_of_ble_eq_true rfl) dX9_letters_56 ⟨Nat.zero_le _, Nat.zero_le _⟩ (fun H locs hP hD hS => ?_)
          refine lv_if_ne (tgt := 65) hx hb dX9_letters_59 (by decide) (fun c15 => ?_) (fun c15 => ?_)
          · replace hres := og_f c15 hres
            refine lv_ldc2 (v := 1000000000) hx hb hown k3 dX9_letters_65 ?_
            refine lv_iload_n hx hb dX9_letters_68 rfl (lv_at hl 1 rfl) ?_
            refine lv_i2l (v := x1.toInt64) hx hb dX9_letters_69 rfl ?_
            refine lv_lmul hx hb dX9_letters_70 ?_
            refine lv_ldc2 (v := 100) hx hb hown k0 dX9_letters_71 ?_
            refine lv_ldiv hx hb dX9_letters_74 (by decide) ?_
            obtain ⟨y16, ey16, hres⟩ := kl_s hres
            refine kr_topl ey16 ?_
            refine lv_lstore (lv' := [(6, .long y16), (0, .ref moo), (1, .int x1), (2, .int x2), (3, .int x3), (4, .int x4), (5, .int x5)]) hx hb dX9_letters_75 hl (by decide) rfl (fun ls hl => ?_)
            refine lv_ldc2 (v := 1000000000) hx hb hown k3 dX9_letters_77 ?_
            refine lv_bipush (v := 100) hx hb dX9_letters_80 (by decide) ?_
            refine lv_iload_n hx hb dX9_letters_82 rfl (lv_at hl 2 rfl) ?_
            refine lv_isub hx hb dX9_letters_83 ?_
            refine lv_i2l (v := (100 - x1).toInt64) hx hb dX9_letters_84 rfl ?_
            refine lv_lmul hx hb dX9_letters_85 ?_
            refine lv_ldc2 (v := 100) hx hb hown k0 dX9_letters_86 ?_
            refine lv_ldiv hx hb dX9_letters_89 (by decide) ?_
            obtain ⟨y17, ey17, hres⟩ := kl_s hres
            refine kr_topl ey17 ?_
            refine lv_lstore (lv' := [(8, .long y17), (6, .long y16), (0, .ref moo), (1, .int x1), (2, .int x2), (3, .int x3), (4, .int x4), (5, .int x5)]) hx hb dX9_letters_90 hl (by decide) rfl (fun ls hl => ?_)
            refine lv_iconst (v := 0) hx hb dX9_letters_92 (by decide) ?_
            refine lv_istore (lv' := [(10, .int 0), (8, .long y17), (6, .long y16), (0, .ref moo), (1, .int x1), (2, .int x2), (3, .int x3), (4, .int x4), (5, .int x5)]) hx hb dX9_letters_93 hl (by decide) rfl (fun ls hl => ?_)
            exact L95 N y16 y17 0 _ _ _ hP hD hS (lv_sub hl [5, 6, 7, 8, 2, 1, 0] rfl) hres
          · replace hres := og_t c15 hres
            refine lv_ldc (v := (-1000000002)) hx hb hown k1 dX9_letters_62 ?_
            have hres := Option.some.inj hres
            have h0 := hres
            subst h0
            exact hret _ _ _ _ (vp_nar_int _) hP hD hS dX9_letters_64

def pX9_spared_L90 (k32 : Int32 → Int32 → Option (Int32)) (v4 : Int32) (s0 : Int32) : Option (Int32) :=
    k32 s0 (v4 + 1)
def pX9_spared_L89 (k32 : Int32 → Int32 → Option (Int32)) (v3 : Int32) (v4 : Int32) : Option (Int32) :=
    pX9_spared_L90 k32 v4 v3
def pX9_spared_L66 (k32 : Int32 → Int32 → Option (Int32)) (N : Nat) (x1 : Int32) (x2 : Int32) (mo_told : Nat → Int32) (mo_st : Nat → Int32) (v3 : Int32) (v4 : Int32) (s0 : Int32) : Option (Int32) :=
    (if s0 = 0 then
    pX9_spared_L89 k32 v3 v4
    else
    kb1 (pX9_bringsBy N x1 v4 mo_told mo_st) fun r15 =>
    (if r15 < x2 then
    pX9_spared_L89 k32 v3 v4
    else
    pX9_spared_L90 k32 v4 v4))
def pX9_spared_L61 (k32 : Int32 → Int32 → Option (Int32)) (N : Nat) (x1 : Int32) (x2 : Int32) (mo_told : Nat → Int32) (mo_st : Nat → Int32) (v3 : Int32) (v4 : Int32) : Option (Int32) :=
    pX9_spared_L66 k32 N x1 x2 mo_told mo_st v3 v4 1
def pX9_spared_L32 (N : Nat) (x1 : Int32) (x2 : Int32) (mo_told : Nat → Int32) (mo_st : Nat → Int32) : Nat → Int32 → Int32 → Option (Int32)
  | 0, _, _ => none
  | n32 + 1, v3, v4 =>
    (if ((1 : Int32) <<< ((mo_told 2) &&& 31)) ≤ v4 then
    some (v3)
    else
    (if v3 < 0 then
    pX9_spared_L61 (pX9_spared_L32 N x1 x2 mo_told mo_st n32) N x1 x2 mo_told mo_st v3 v4
    else
    kb1 (pX9_ones N v4) fun r9 =>
    kb1 (pX9_ones N v3) fun r11 =>
    (if r9 ≤ r11 then
    pX9_spared_L66 (pX9_spared_L32 N x1 x2 mo_told mo_st n32) N x1 x2 mo_told mo_st v3 v4 0
    else
    pX9_spared_L61 (pX9_spared_L32 N x1 x2 mo_told mo_st n32) N x1 x2 mo_told mo_st v3 v4)))
def pX9_spared (N : Nat) (x1 : Int32) (x2 : Int32) (mo_told : Nat → Int32) (mo_st : Nat → Int32) : Option (Int32) :=
    kb1 (pX9_in (x1.toInt64) 0 100) fun r1 =>
    (if r1 = 0 then
    some ((-1000000002))
    else
    kb1 (pX9_in (x2.toInt64) 0 9999) fun r4 =>
    (if r4 = 0 then
    some ((-1000000002))
    else
    pX9_spared_L32 N x1 x2 mo_told mo_st N (-1) 0))
set_option maxHeartbeats 8000000 in
set_option maxRecDepth 100000 in
theorem tX9_spared (l : Launch) (D : va_G) (κ : Nat → ClassId) (moo : Nat) (mo_toldA : Nat) (mo_stA : Nat) (mo_textA : Nat) (mo_readA : Nat) (mo_aheadA : Nat) (mo_asideA : Nat) (mo_weighingsA : Nat) (mo_bookA : Nat) (mo_isKeptA : Nat) (mo_keptA : Nat) (mo_seedsA : Nat) (N : Nat) (mo_told : Nat → Int32) (mo_st : Nat → Int32) (mo_isThere : Int32) (mo_seed : Int32) (mo_text : Nat → Int32) (mo_typed : Int32) (mo_faultAt : Int32) (mo_place : Int32) (mo_wrong : Int32) (mo_value : Int32) (mo_read : Nat → Int32) (mo_ahead : Nat → Int32) (mo_undoMany : Int32) (mo_aside : Nat → Int32) (mo_weighings : Nat → Int32) (mo_weighed : Int32) (mo_book : Nat → Int32) (mo_entries : Int32) (mo_isKept : Nat → Int32) (mo_kept : Nat → Int32) (mo_seeds : Nat → Int32) (x1 : Int32) (x2 : Int32) (r0 : Int32) (hres : pX9_spared N x1 x2 mo_told mo_st = some (r0)) : krI l yX9_spared wsX9_spared { frames := 3, cells := 0, slots := 0, locals := 300 } D κ [.ref moo, .int x1, .int x2] ([(moo, .inr (9, [.ref mo_toldA, .ref mo_stA, .int mo_isThere, .int mo_seed, .ref mo_textA, .int mo_typed, .int mo_faultAt, .int mo_place, .int mo_wrong, .int mo_value, .ref mo_readA, .ref mo_aheadA, .int mo_undoMany, .ref mo_asideA, .ref mo_weighingsA, .int mo_weighed, .ref mo_bookA, .int mo_entries, .ref mo_isKeptA, .ref mo_keptA, .ref mo_seedsA])), (mo_toldA, .inl (κ 0, 37, .inl mo_told)), (mo_stA, .inl (κ 0, 17, .inl mo_st)), (mo_textA, .inl (κ 0, 240, .inl mo_text)), (mo_readA, .inl (κ 0, 37, .inl mo_read)), (mo_aheadA, .inl (κ 0, 340, .inl mo_ahead)), (mo_asideA, .inl (κ 0, 17, .inl mo_aside)), (mo_weighingsA, .inl (κ 0, 12, .inl mo_weighings)), (mo_bookA, .inl (κ 0, 30, .inl mo_book)), (mo_isKeptA, .inl (κ 1, 2, .inl mo_isKept)), (mo_keptA, .inl (κ 0, 34, .inl mo_kept)), (mo_seedsA, .inl (κ 0, 2, .inl mo_seeds))]) ([(moo, .inr (9, [.ref mo_toldA, .ref mo_stA, .int mo_isThere, .int mo_seed, .ref mo_textA, .int mo_typed, .int mo_faultAt, .int mo_place, .int mo_wrong, .int mo_value, .ref mo_readA, .ref mo_aheadA, .int mo_undoMany, .ref mo_asideA, .ref mo_weighingsA, .int mo_weighed, .ref mo_bookA, .int mo_entries, .ref mo_isKeptA, .ref mo_keptA, .ref mo_seedsA])), (mo_toldA, .inl (κ 0, 37, .inl mo_told)), (mo_stA, .inl (κ 0, 17, .inl mo_st)), (mo_textA, .inl (κ 0, 240, .inl mo_text)), (mo_readA, .inl (κ 0, 37, .inl mo_read)), (mo_aheadA, .inl (κ 0, 340, .inl mo_ahead)), (mo_asideA, .inl (κ 0, 17, .inl mo_aside)), (mo_weighingsA, .inl (κ 0, 12, .inl mo_weighings)), (mo_bookA, .inl (κ 0, 30, .inl mo_book)), (mo_isKeptA, .inl (κ 1, 2, .inl mo_isKept)), (mo_keptA, .inl (κ 0, 34, .inl mo_kept)), (mo_seedsA, .inl (κ 0, 2, .inl mo_seeds))]) r0 := by
  refine krI_of (cc := cX9_spared) (maxL := 6) (rt := .int) (by decide) rfl (Nat.le_of_ble_eq_true rfl) ?_
  intro p e s m args below meth c A Q ls hx hb hml hown hts hK hA hret hP hD hS hl
  have hown : s.vm.findClass RX9 = some m.cls := hown
  have hl : lv_has ls 6 [(0, .ref moo), (1, .int x1), (2, .int x2)] := hl
  have iw9 : ∀ w ∈ u_ws RX9 TX9 21, w ∈ wsX9_spared := (fun _ h => List.mem_cons_of_mem _ (List.mem_append_right _ h))
  have k0 : (Cond.constantLong RX9 137 (100)).before args s = true := hts _ (List.mem_of_getElem? (i := 1) rfl)
  have k1 : (Cond.constant RX9 54 (-1000000002)).before args s = true := hts _ (List.mem_of_getElem? (i := 3) rfl)
  have k2 : (Cond.constantLong RX9 179 (9999)).before args s = true := hts _ (List.mem_of_getElem? (i := 2) rfl)
  have k3 : (Cond.fieldLink RX9 7 "KingRansomModel" "told" "[I").before args s = true := hts _ (List.mem_of_getElem? (i := 4) rfl)
  have L32 : ∀ (n32 : Nat) (v3 : Int32) (v4 : Int32) (H : Heap) (locs : List Loc) (ls : Array Slot), va_P D vwCl ([(moo, .inr (9, [.ref mo_toldA, .ref mo_stA, .int mo_isThere, .int mo_seed, .ref mo_textA, .int mo_typed, .int mo_faultAt, .int mo_place, .int mo_wrong, .int mo_value, .ref mo_readA, .ref mo_aheadA, .int mo_undoMany, .ref mo_asideA, .ref mo_weighingsA, .int mo_weighed, .ref mo_bookA, .int mo_entries, .ref mo_isKeptA, .ref mo_keptA, .ref mo_seedsA])), (mo_toldA, .inl (κ 0, 37, .inl mo_told)), (mo_stA, .inl (κ 0, 17, .inl mo_st)), (mo_textA, .inl (κ 0, 240, .inl mo_text)), (mo_readA, .inl (κ 0, 37, .inl mo_read)), (mo_aheadA, .inl (κ 0, 340, .inl mo_ahead)), (mo_asideA, .inl (κ 0, 17, .inl mo_aside)), (mo_weighingsA, .inl (κ 0, 12, .inl mo_weighings)), (mo_bookA, .inl (κ 0, 30, .inl mo_book)), (mo_isKeptA, .inl (κ 1, 2, .inl mo_isKept)), (mo_keptA, .inl (κ 0, 34, .inl mo_kept)), (mo_seedsA, .inl (κ 0, 2, .inl mo_seeds))]) H → va_D A ([(moo, .inr (9, [.ref mo_toldA, .ref mo_stA, .int mo_isThere, .int mo_seed, .ref mo_textA, .int mo_typed, .int mo_faultAt, .int mo_place, .int mo_wrong, .int mo_value, .ref mo_readA, .ref mo_aheadA, .int mo_undoMany, .ref mo_asideA, .ref mo_weighingsA, .int mo_weighed, .ref mo_bookA, .int mo_entries, .ref mo_isKeptA, .ref mo_keptA, .ref mo_seedsA])), (mo_toldA, .inl (κ 0, 37, .inl mo_told)), (mo_stA, .inl (κ 0, 17, .inl mo_st)), (mo_textA, .inl (κ 0, 240, .inl mo_text)), (mo_readA, .inl (κ 0, 37, .inl mo_read)), (mo_aheadA, .inl (κ 0, 340, .inl mo_ahead)), (mo_asideA, .inl (κ 0, 17, .inl mo_aside)), (mo_weighingsA, .inl (κ 0, 12, .inl mo_weighings)), (mo_bookA, .inl (κ 0, 30, .inl mo_book)), (mo_isKeptA, .inl (κ 1, 2, .inl mo_isKept)), (mo_keptA, .inl (κ 0, 34, .inl mo_kept)), (mo_seedsA, .inl (κ 0, 2, .inl mo_seeds))]) → va_S A s.heap H locs → lv_has ls 6 [(0, .ref moo), (1, .int x1), (2, .int x2), (3, .int v3), (4, .int v4)] → pX9_spared_L32 N x1 x2 mo_told mo_st n32 v3 v4 = some (r0) → W p l e { frames := 3, cells := 0, slots := 0, locals := 300 } s m args below meth c H locs 0 0 Q (F0 m 32 ls []) := by
    intro n32
    induction n32 with
    | zero =>
      intro v3 v4 H locs ls hP hD hS hl hres
      exact absurd (show none = some _ from hres) (by simp)
    | succ n32 ih32 =>
      intro v3 v4 H locs ls hP hD hS hl hres
      have L90 : ∀ (v4 : Int32) (s0 : Int32) (H : Heap) (locs : List Loc) (ls : Array Slot), va_P D vwCl ([(moo, .inr (9, [.ref mo_toldA, .ref mo_stA, .int mo_isThere, .int mo_seed, .ref mo_textA, .int mo_typed, .int mo_faultAt, .int mo_place, .int mo_wrong, .int mo_value, .ref mo_readA, .ref mo_aheadA, .int mo_undoMany, .ref mo_asideA, .ref mo_weighingsA, .int mo_weighed, .ref mo_bookA, .int mo_entries, .ref mo_isKeptA, .ref mo_keptA, .ref mo_seedsA])), (mo_toldA, .inl (κ 0, 37, .inl mo_told)), (mo_stA, .inl (κ 0, 17, .inl mo_st)), (mo_textA, .inl (κ 0, 240, .inl mo_text)), (mo_readA, .inl (κ 0, 37, .inl mo_read)), (mo_aheadA, .inl (κ 0, 340, .inl mo_ahead)), (mo_asideA, .inl (κ 0, 17, .inl mo_aside)), (mo_weighingsA, .inl (κ 0, 12, .inl mo_weighings)), (mo_bookA, .inl (κ 0, 30, .inl mo_book)), (mo_isKeptA, .inl (κ 1, 2, .inl mo_isKept)), (mo_keptA, .inl (κ 0, 34, .inl mo_kept)), (mo_seedsA, .inl (κ 0, 2, .inl mo_seeds))]) H → va_D A ([(moo, .inr (9, [.ref mo_toldA, .ref mo_stA, .int mo_isThere, .int mo_seed, .ref mo_textA, .int mo_typed, .int mo_faultAt, .int mo_place, .int mo_wrong, .int mo_value, .ref mo_readA, .ref mo_aheadA, .int mo_undoMany, .ref mo_asideA, .ref mo_weighingsA, .int mo_weighed, .ref mo_bookA, .int mo_entries, .ref mo_isKeptA, .ref mo_keptA, .ref mo_seedsA])), (mo_toldA, .inl (κ 0, 37, .inl mo_told)), (mo_stA, .inl (κ 0, 17, .inl mo_st)), (mo_textA, .inl (κ 0, 240, .inl mo_text)), (mo_readA, .inl (κ 0, 37, .inl mo_read)), (mo_aheadA, .inl (κ 0, 340, .inl mo_ahead)), (mo_asideA, .inl (κ 0, 17, .inl mo_aside)), (mo_weighingsA, .inl (κ 0, 12, .inl mo_weighings)), (mo_bookA, .inl (κ 0, 30, .inl mo_book)), (mo_isKeptA, .inl (κ 1, 2, .inl mo_isKept)), (mo_keptA, .inl (κ 0, 34, .inl mo_kept)), (mo_seedsA, .inl (κ 0, 2, .inl mo_seeds))]) → va_S A s.heap H locs → lv_has ls 6 [(0, .ref moo), (1, .int x1), (2, .int x2), (4, .int v4)] → pX9_spared_L90 (pX9_spared_L32 N x1 x2 mo_told mo_st n32) v4 s0 = some (r0) → W p l e { frames := 3, cells := 0, slots := 0, locals := 300 } s m args below meth c H locs 0 0 Q (F0 m 90 ls [.int s0]) := by
        intro v4 s0 H locs ls hP hD hS hl hres
        unfold pX9_spared_L90 at hres
        refine lv_istore_n (lv' := [(3, .int s0), (0, .ref moo), (1, .int x1), (2, .int x2), (4, .int v4)]) hx hb dX9_spared_90 rfl hl (by decide) rfl (fun ls hl => ?_)
        refine lv_iinc (v := (v4 + 1)) (lv' := [(4, .int (v4 + 1)), (3, .int s0), (0, .ref moo), (1, .int x1), (2, .int x2)]) hx hb dX9_spared_91 hl (k := 4) rfl rfl (by decide) rfl (fun ls hl => ?_)
        refine lv_goto (tgt := 32) hx hb dX9_spared_94 (by decide) ?_
        exact ih32 s0 (v4 + 1) _ _ _ hP hD hS (lv_sub hl [2, 3, 4, 1, 0] rfl) hres
      have L89 : ∀ (v3 : Int32) (v4 : Int32) (H : Heap) (locs : List Loc) (ls : Array Slot), va_P D vwCl ([(moo, .inr (9, [.ref mo_toldA, .ref mo_stA, .int mo_isThere, .int mo_seed, .ref mo_textA, .int mo_typed, .int mo_faultAt, .int mo_place, .int mo_wrong, .int mo_value, .ref mo_readA, .ref mo_aheadA, .int mo_undoMany, .ref mo_asideA, .ref mo_weighingsA, .int mo_weighed, .ref mo_bookA, .int mo_entries, .ref mo_isKeptA, .ref mo_keptA, .ref mo_seedsA])), (mo_toldA, .inl (κ 0, 37, .inl mo_told)), (mo_stA, .inl (κ 0, 17, .inl mo_st)), (mo_textA, .inl (κ 0, 240, .inl mo_text)), (mo_readA, .inl (κ 0, 37, .inl mo_read)), (mo_aheadA, .inl (κ 0, 340, .inl mo_ahead)), (mo_asideA, .inl (κ 0, 17, .inl mo_aside)), (mo_weighingsA, .inl (κ 0, 12, .inl mo_weighings)), (mo_bookA, .inl (κ 0, 30, .inl mo_book)), (mo_isKeptA, .inl (κ 1, 2, .inl mo_isKept)), (mo_keptA, .inl (κ 0, 34, .inl mo_kept)), (mo_seedsA, .inl (κ 0, 2, .inl mo_seeds))]) H → va_D A ([(moo, .inr (9, [.ref mo_toldA, .ref mo_stA, .int mo_isThere, .int mo_seed, .ref mo_textA, .int mo_typed, .int mo_faultAt, .int mo_place, .int mo_wrong, .int mo_value, .ref mo_readA, .ref mo_aheadA, .int mo_undoMany, .ref mo_asideA, .ref mo_weighingsA, .int mo_weighed, .ref mo_bookA, .int mo_entries, .ref mo_isKeptA, .ref mo_keptA, .ref mo_seedsA])), (mo_toldA, .inl (κ 0, 37, .inl mo_told)), (mo_stA, .inl (κ 0, 17, .inl mo_st)), (mo_textA, .inl (κ 0, 240, .inl mo_text)), (mo_readA, .inl (κ 0, 37, .inl mo_read)), (mo_aheadA, .inl (κ 0, 340, .inl mo_ahead)), (mo_asideA, .inl (κ 0, 17, .inl mo_aside)), (mo_weighingsA, .inl (κ 0, 12, .inl mo_weighings)), (mo_bookA, .inl (κ 0, 30, .inl mo_book)), (mo_isKeptA, .inl (κ 1, 2, .inl mo_isKept)), (mo_keptA, .inl (κ 0, 34, .inl mo_kept)), (mo_seedsA, .inl (κ 0, 2, .inl mo_seeds))]) → va_S A s.heap H locs → lv_has ls 6 [(0, .ref moo), (1, .int x1), (2, .int x2), (3, .int v3), (4, .int v4)] → pX9_spared_L89 (pX9_spared_L32 N x1 x2 mo_told mo_st n32) v3 v4 = some (r0) → W p l e { frames := 3, cells := 0, slots := 0, locals := 300 } s m args below meth c H locs 0 0 Q (F0 m 89 ls []) := by
        intro v3 v4 H locs ls hP hD hS hl hres
        unfold pX9_spared_L89 at hres
        refine lv_iload_n hx hb dX9_spared_89 rfl (lv_at hl 3 rfl) ?_
        exact L90 v4 v3 _ _ _ hP hD hS (lv_sub hl [0, 1, 2, 4] rfl) hres
      have L66 : ∀ (v3 : Int32) (v4 : Int32) (s0 : Int32) (H : Heap) (locs : List Loc) (ls : Array Slot), va_P D vwCl ([(moo, .inr (9, [.ref mo_toldA, .ref mo_stA, .int mo_isThere, .int mo_seed, .ref mo_textA, .int mo_typed, .int mo_faultAt, .int mo_place, .int mo_wrong, .int mo_value, .ref mo_readA, .ref mo_aheadA, .int mo_undoMany, .ref mo_asideA, .ref mo_weighingsA, .int mo_weighed, .ref mo_bookA, .int mo_entries, .ref mo_isKeptA, .ref mo_keptA, .ref mo_seedsA])), (mo_toldA, .inl (κ 0, 37, .inl mo_told)), (mo_stA, .inl (κ 0, 17, .inl mo_st)), (mo_textA, .inl (κ 0, 240, .inl mo_text)), (mo_readA, .inl (κ 0, 37, .inl mo_read)), (mo_aheadA, .inl (κ 0, 340, .inl mo_ahead)), (mo_asideA, .inl (κ 0, 17, .inl mo_aside)), (mo_weighingsA, .inl (κ 0, 12, .inl mo_weighings)), (mo_bookA, .inl (κ 0, 30, .inl mo_book)), (mo_isKeptA, .inl (κ 1, 2, .inl mo_isKept)), (mo_keptA, .inl (κ 0, 34, .inl mo_kept)), (mo_seedsA, .inl (κ 0, 2, .inl mo_seeds))]) H → va_D A ([(moo, .inr (9, [.ref mo_toldA, .ref mo_stA, .int mo_isThere, .int mo_seed, .ref mo_textA, .int mo_typed, .int mo_faultAt, .int mo_place, .int mo_wrong, .int mo_value, .ref mo_readA, .ref mo_aheadA, .int mo_undoMany, .ref mo_asideA, .ref mo_weighingsA, .int mo_weighed, .ref mo_bookA, .int mo_entries, .ref mo_isKeptA, .ref mo_keptA, .ref mo_seedsA])), (mo_toldA, .inl (κ 0, 37, .inl mo_told)), (mo_stA, .inl (κ 0, 17, .inl mo_st)), (mo_textA, .inl (κ 0, 240, .inl mo_text)), (mo_readA, .inl (κ 0, 37, .inl mo_read)), (mo_aheadA, .inl (κ 0, 340, .inl mo_ahead)), (mo_asideA, .inl (κ 0, 17, .inl mo_aside)), (mo_weighingsA, .inl (κ 0, 12, .inl mo_weighings)), (mo_bookA, .inl (κ 0, 30, .inl mo_book)), (mo_isKeptA, .inl (κ 1, 2, .inl mo_isKept)), (mo_keptA, .inl (κ 0, 34, .inl mo_kept)), (mo_seedsA, .inl (κ 0, 2, .inl mo_seeds))]) → va_S A s.heap H locs → lv_has ls 6 [(0, .ref moo), (1, .int x1), (2, .int x2), (3, .int v3), (4, .int v4)] → pX9_spared_L66 (pX9_spared_L32 N x1 x2 mo_told mo_st n32) N x1 x2 mo_told mo_st v3 v4 s0 = some (r0) → W p l e { frames := 3, cells := 0, slots := 0, locals := 300 } s m args below meth c H locs 0 0 Q (F0 m 66 ls [.int s0]) := by
        intro v3 v4 s0 H locs ls hP hD hS hl hres
        unfold pX9_spared_L66 at hres
        refine lv_istore (lv' := [(5, .int s0), (0, .ref moo), (1, .int x1), (2, .int x2), (3, .int v3), (4, .int v4)]) hx hb dX9_spared_66 hl (by decide) rfl (fun ls hl => ?_)
        refine lv_iload hx hb dX9_spared_68 (lv_at hl 0 rfl) ?_
        refine lv_if_eq (tgt := 89) hx hb dX9_spared_70 (by decide) (fun c14 => ?_) (fun c14 => ?_)
        · replace hres := og_t c14 hres
          exact L89 v3 v4 _ _ _ hP hD hS (lv_sub hl [1, 2, 3, 4, 5] rfl) hres
        · replace hres := og_f c14 hres
          refine lv_aload_n hx hb dX9_spared_73 rfl (lv_at hl 1 rfl) ?_
          refine lv_iload_n hx hb dX9_spared_74 rfl (lv_at hl 2 rfl) ?_
          refine lv_iload hx hb dX9_spared_75 (lv_at hl 5 rfl) ?_
          obtain ⟨r15, hc16, hres⟩ := kb1_s hres
          refine krI_V (As := [.int x1, .int v4]) (rest := []) (wr := []) ⟨hx, hb, hml, hown, hts⟩ hK (tX9_bringsBy l D κ moo mo_toldA mo_stA mo_textA mo_readA mo_aheadA mo_asideA mo_weighingsA mo_bookA mo_isKeptA mo_keptA mo_seedsA N mo_told mo_st mo_isThere mo_seed mo_text mo_typed mo_faultAt mo_place mo_wrong mo_value mo_read mo_ahead mo_undoMany mo_aside mo_weighings mo_weighed mo_book mo_entries mo_isKept mo_kept mo_seeds x1 v4 r15 hc16) (cwV 2 hts gX9_spared_X9_bringsBy rfl rfl rfl (by decide +kernel) ⟨(Nat.le_of_ble_eq_true rfl), (Nat.le_of_ble_eq_true rfl)⟩) rfl rfl rfl hP hD hS hA [0, 1, 2, 3, 4, 5, 6, 7, 8, 9, 10, 11] [] rfl rfl rfl rfl (by decide) rfl hl.1 rfl (Nat.le_of_ble_eq_true rfl) dX9_spared_77 ⟨Nat.zero_le _, Nat.zero_le _⟩ (fun H locs hP hD hS => ?_)
          have hP : va_P D vwCl ([(moo, .inr (9, [.ref mo_toldA, .ref mo_stA, .int mo_isThere, .int mo_seed, .ref mo_textA, .int mo_typed, .int mo_faultAt, .int mo_place, .int mo_wrong, .int mo_value, .ref mo_readA, .ref mo_aheadA, .int mo_undoMany, .ref mo_asideA, .ref mo_weighingsA, .int mo_weighed, .ref mo_bookA, .int mo_entries, .ref mo_isKeptA, .ref mo_keptA, .ref mo_seedsA])), (mo_toldA, .inl (κ 0, 37, .inl mo_told)), (mo_stA, .inl (κ 0, 17, .inl mo_st)), (mo_textA, .inl (κ 0, 240, .inl mo_text)), (mo_readA, .inl (κ 0, 37, .inl mo_read)), (mo_aheadA, .inl (κ 0, 340, .inl mo_ahead)), (mo_asideA, .inl (κ 0, 17, .inl mo_aside)), (mo_weighingsA, .inl (κ 0, 12, .inl mo_weighings)), (mo_bookA, .inl (κ 0, 30, .inl mo_book)), (mo_isKeptA, .inl (κ 1, 2, .inl mo_isKept)), (mo_keptA, .inl (κ 0, 34, .inl mo_kept)), (mo_seedsA, .inl (κ 0, 2, .inl mo_seeds))]) H := hP
          have hD : va_D A ([(moo, .inr (9, [.ref mo_toldA, .ref mo_stA, .int mo_isThere, .int mo_seed, .ref mo_textA, .int mo_typed, .int mo_faultAt, .int mo_place, .int mo_wrong, .int mo_value, .ref mo_readA, .ref mo_aheadA, .int mo_undoMany, .ref mo_asideA, .ref mo_weighingsA, .int mo_weighed, .ref mo_bookA, .int mo_entries, .ref mo_isKeptA, .ref mo_keptA, .ref mo_seedsA])), (mo_toldA, .inl (κ 0, 37, .inl mo_told)), (mo_stA, .inl (κ 0, 17, .inl mo_st)), (mo_textA, .inl (κ 0, 240, .inl mo_text)), (mo_readA, .inl (κ 0, 37, .inl mo_read)), (mo_aheadA, .inl (κ 0, 340, .inl mo_ahead)), (mo_asideA, .inl (κ 0, 17, .inl mo_aside)), (mo_weighingsA, .inl (κ 0, 12, .inl mo_weighings)), (mo_bookA, .inl (κ 0, 30, .inl mo_book)), (mo_isKeptA, .inl (κ 1, 2, .inl mo_isKept)), (mo_keptA, .inl (κ 0, 34, .inl mo_kept)), (mo_seedsA, .inl (κ 0, 2, .inl mo_seeds))]) := hD
          refine lv_iload_n hx hb dX9_spared_80 rfl (lv_at hl 3 rfl) ?_
          refine lv_icmp_lt (tgt := 89) hx hb dX9_spared_81 (by decide) (fun c17 => ?_) (fun c17 => ?_)
          · replace hres := og_t c17 hres
            exact L89 v3 v4 _ _ _ hP hD hS (lv_sub hl [1, 2, 3, 4, 5] rfl) hres
          · replace hres := og_f c17 hres
            refine lv_iload hx hb dX9_spared_84 (lv_at hl 5 rfl) ?_
            refine lv_goto (tgt := 90) hx hb dX9_spared_86 (by decide) ?_
            exact L90 v4 v4 _ _ _ hP hD hS (lv_sub hl [1, 2, 3, 5] rfl) hres
      have L61 : ∀ (v3 : Int32) (v4 : Int32) (H : Heap) (locs : List Loc) (ls : Array Slot), va_P D vwCl ([(moo, .inr (9, [.ref mo_toldA, .ref mo_stA, .int mo_isThere, .int mo_seed, .ref mo_textA, .int mo_typed, .int mo_faultAt, .int mo_place, .int mo_wrong, .int mo_value, .ref mo_readA, .ref mo_aheadA, .int mo_undoMany, .ref mo_asideA, .ref mo_weighingsA, .int mo_weighed, .ref mo_bookA, .int mo_entries, .ref mo_isKeptA, .ref mo_keptA, .ref mo_seedsA])), (mo_toldA, .inl (κ 0, 37, .inl mo_told)), (mo_stA, .inl (κ 0, 17, .inl mo_st)), (mo_textA, .inl (κ 0, 240, .inl mo_text)), (mo_readA, .inl (κ 0, 37, .inl mo_read)), (mo_aheadA, .inl (κ 0, 340, .inl mo_ahead)), (mo_asideA, .inl (κ 0, 17, .inl mo_aside)), (mo_weighingsA, .inl (κ 0, 12, .inl mo_weighings)), (mo_bookA, .inl (κ 0, 30, .inl mo_book)), (mo_isKeptA, .inl (κ 1, 2, .inl mo_isKept)), (mo_keptA, .inl (κ 0, 34, .inl mo_kept)), (mo_seedsA, .inl (κ 0, 2, .inl mo_seeds))]) H → va_D A ([(moo, .inr (9, [.ref mo_toldA, .ref mo_stA, .int mo_isThere, .int mo_seed, .ref mo_textA, .int mo_typed, .int mo_faultAt, .int mo_place, .int mo_wrong, .int mo_value, .ref mo_readA, .ref mo_aheadA, .int mo_undoMany, .ref mo_asideA, .ref mo_weighingsA, .int mo_weighed, .ref mo_bookA, .int mo_entries, .ref mo_isKeptA, .ref mo_keptA, .ref mo_seedsA])), (mo_toldA, .inl (κ 0, 37, .inl mo_told)), (mo_stA, .inl (κ 0, 17, .inl mo_st)), (mo_textA, .inl (κ 0, 240, .inl mo_text)), (mo_readA, .inl (κ 0, 37, .inl mo_read)), (mo_aheadA, .inl (κ 0, 340, .inl mo_ahead)), (mo_asideA, .inl (κ 0, 17, .inl mo_aside)), (mo_weighingsA, .inl (κ 0, 12, .inl mo_weighings)), (mo_bookA, .inl (κ 0, 30, .inl mo_book)), (mo_isKeptA, .inl (κ 1, 2, .inl mo_isKept)), (mo_keptA, .inl (κ 0, 34, .inl mo_kept)), (mo_seedsA, .inl (κ 0, 2, .inl mo_seeds))]) → va_S A s.heap H locs → lv_has ls 6 [(0, .ref moo), (1, .int x1), (2, .int x2), (3, .int v3), (4, .int v4)] → pX9_spared_L61 (pX9_spared_L32 N x1 x2 mo_told mo_st n32) N x1 x2 mo_told mo_st v3 v4 = some (r0) → W p l e { frames := 3, cells := 0, slots := 0, locals := 300 } s m args below meth c H locs 0 0 Q (F0 m 61 ls []) := by
        intro v3 v4 H locs ls hP hD hS hl hres
        unfold pX9_spared_L61 at hres
        refine lv_iconst (v := 1) hx hb dX9_spared_61 (by decide) ?_
        refine lv_goto (tgt := 66) hx hb dX9_spared_62 (by decide) ?_
        exact L66 v3 v4 1 _ _ _ hP hD hS (lv_sub hl [0, 1, 2, 3, 4] rfl) hres
      rw [pX9_spared_L32] at hres
      refine lv_iload hx hb dX9_spared_32 (lv_at hl 4 rfl) ?_
      refine lv_iconst (v := 1) hx hb dX9_spared_34 (by decide) ?_
      refine lv_aload_n hx hb dX9_spared_35 rfl (lv_at hl 0 rfl) ?_
      refine va_get (D := D) (ci := 9) (v := .ref mo_toldA) (C := RX9) (T := TX9) (N := 21) hx hb hts iw9 hown hK.1 hP 0 rfl rfl 0 (by decide) k3 (fun _ h9 => h9) rfl dX9_spared_36 ?_
      refine lv_iconst (v := 2) hx hb dX9_spared_39 (by decide) ?_
      refine kr_iald (f := mo_told) (j := 2) hx hb hK hP 1 rfl (by decide) (by decide) dX9_spared_40 ?_
      refine lv_ishl hx hb dX9_spared_41 ?_
      refine lv_icmp_ge (tgt := 97) hx hb dX9_spared_42 (by decide) (fun c7 => ?_) (fun c7 => ?_)
      · replace hres := og_t c7 hres
        refine lv_iload_n hx hb dX9_spared_97 rfl (lv_at hl 3 rfl) ?_
        have hres := Option.some.inj hres
        have h0 := hres
        subst h0
        exact hret _ _ _ _ (vp_nar_int _) hP hD hS dX9_spared_98
      · replace hres := og_f c7 hres
        refine lv_iload_n hx hb dX9_spared_45 rfl (lv_at hl 3 rfl) ?_
        refine lv_if_lt (tgt := 61) hx hb dX9_spared_46 (by decide) (fun c8 => ?_) (fun c8 => ?_)
        · replace hres := og_t c8 hres
          exact L61 v3 v4 _ _ _ hP hD hS (lv_sub hl [0, 1, 2, 3, 4] rfl) hres
        · replace hres := og_f c8 hres
          refine lv_iload hx hb dX9_spared_49 (lv_at hl 4 rfl) ?_
          obtain ⟨r9, hc10, hres⟩ := kb1_s hres
          refine krI_S0 (As := [.int v4]) (rest := []) ⟨hx, hb, hml, hown, hts⟩ hK (tX9_ones l D κ N v4 r9 hc10) (va_cwS 1 hts gX9_spared_X9_ones rfl rfl rfl (by decide +kernel) ⟨(Nat.le_of_ble_eq_true rfl), (Nat.le_of_ble_eq_true rfl)⟩) hP hD hS hA rfl hl.1 rfl (Nat.le_of_ble_eq_true rfl) dX9_spared_51 ⟨Nat.zero_le _, Nat.zero_le _⟩ (fun H locs hP hD hS => ?_)
          refine lv_iload_n hx hb dX9_spared_54 rfl (lv_at hl 3 rfl) ?_
          obtain ⟨r11, hc12, hres⟩ := kb1_s hres
          refine krI_S0 (As := [.int v3]) (rest := [.int r9]) ⟨hx, hb, hml, hown, hts⟩ hK (tX9_ones l D κ N v3 r11 hc12) (va_cwS 1 hts gX9_spared_X9_ones rfl rfl rfl (by decide +kernel) ⟨(Nat.le_of_ble_eq_true rfl), (Nat.le_of_ble_eq_true rfl)⟩) hP hD hS hA rfl hl.1 rfl (Nat.le_of_ble_eq_true rfl) dX9_spared_55 ⟨Nat.zero_le _, Nat.zero_le _⟩ (fun H locs hP hD hS => ?_)
          refine lv_icmp_le (tgt := 65) hx hb dX9_spared_58 (by decide) (fun c13 => ?_) (fun c13 => ?_)
          · replace hres := og_t c13 hres
            refine lv_iconst (v := 0) hx hb dX9_spared_65 (by decide) ?_
            exact L66 v3 v4 0 _ _ _ hP hD hS (lv_sub hl [0, 1, 2, 3, 4] rfl) hres
          · replace hres := og_f c13 hres
            exact L61 v3 v4 _ _ _ hP hD hS (lv_sub hl [0, 1, 2, 3, 4] rfl) hres
  unfold pX9_spared at hres
  refine lv_iload_n hx hb dX9_spared_0 rfl (lv_at hl 1 rfl) ?_
  refine lv_i2l (v := x1.toInt64) hx hb dX9_spared_1 rfl ?_
  refine lv_lconst (v := 0) hx hb dX9_spared_2 (by decide) ?_
  refine lv_ldc2 (v := 100) hx hb hown k0 dX9_spared_3 ?_
  obtain ⟨r1, hc2, hres⟩ := kb1_s hres
  refine krI_S0 (As := [.long (x1.toInt64), .long 0, .long 100]) (rest := []) ⟨hx, hb, hml, hown, hts⟩ hK (tX9_in l D κ (x1.toInt64) 0 100 r1 hc2) (va_cwS 3 hts gX9_spared_X9_in rfl rfl rfl (by decide +kernel) ⟨(Nat.le_of_ble_eq_true rfl), (Nat.le_of_ble_eq_true rfl)⟩) hP hD hS hA rfl hl.1 rfl (Nat.le_of_ble_eq_true rfl) dX9_spared_6 ⟨Nat.zero_le _, Nat.zero_le _⟩ (fun H locs hP hD hS => ?_)
  refine lv_if_eq (tgt := 24) hx hb dX9_spared_9 (by decide) (fun c3 => ?_) (fun c3 => ?_)
  · replace hres := og_t c3 hres
    refine lv_ldc (v := (-1000000002)) hx hb hown k1 dX9_spared_24 ?_
    have hres := Option.some.inj hres
    have h0 := hres
    subst h0
    exact hret _ _ _ _ (vp_nar_int _) hP hD hS dX9_spared_26
  · replace hres := og_f c3 hres
    refine lv_iload_n hx hb dX9_spared_12 rfl (lv_at hl 2 rfl) ?_
    refine lv_i2l (v := x2.toInt64) hx hb dX9_spared_13 rfl ?_
    refine lv_lconst (v := 0) hx hb dX9_spared_14 (by decide) ?_
    refine lv_ldc2 (v := 9999) hx hb hown k2 dX9_spared_15 ?_
    obtain ⟨r4, hc5, hres⟩ := kb1_s hres
    refine krI_S0 (As := [.long (x2.toInt64), .long 0, .long 9999]) (rest := []) ⟨hx, hb, hml, hown, hts⟩ hK (tX9_in l D κ (x2.toInt64) 0 9999 r4 hc5) (va_cwS 3 hts gX9_spared_X9_in rfl rfl rfl (by decide +kernel) ⟨(Nat.le_of_ble_eq_true rfl), (Nat.le_of_ble_eq_true rfl)⟩) hP hD hS hA rfl hl.1 rfl (Nat.le_of_ble_eq_true rfl) dX9_spared_18 ⟨Nat.zero_le _, Nat.zero_le _⟩ (fun H locs hP hD hS => ?_)
    refine lv_if_ne (tgt := 27) hx hb dX9_spared_21 (by decide) (fun c6 => ?_) (fun c6 => ?_)
    · replace hres := og_f c6 hres
      refine lv_iconst (v := (-1)) hx hb dX9_spared_27 (by decide) ?_
      refine lv_istore_n (lv' := [(3, .int (-1)), (0, .ref moo), (1, .int x1), (2, .int x2)]) hx hb dX9_spared_28 rfl hl (by decide) rfl (fun ls hl => ?_)
      refine lv_iconst (v := 0) hx hb dX9_spared_29 (by decide) ?_
      refine lv_istore (lv' := [(4, .int 0), (3, .int (-1)), (0, .ref moo), (1, .int x1), (2, .int x2)]) hx hb dX9_spared_30 hl (by decide) rfl (fun ls hl => ?_)
      exact L32 N (-1) 0 _ _ _ hP hD hS (lv_sub hl [2, 3, 4, 1, 0] rfl) hres
    · replace hres := og_t c6 hres
      refine lv_ldc (v := (-1000000002)) hx hb hown k1 dX9_spared_24 ?_
      have hres := Option.some.inj hres
      have h0 := hres
      subst h0
      exact hret _ _ _ _ (vp_nar_int _) hP hD hS dX9_spared_26

def pX9_lives_L20 (x1 : Int32) (mo_told : Nat → Int32) : Nat → Int32 → Int32 → Option (Int32)
  | 0, _, _ => none
  | n20 + 1, v2, v3 =>
    (if x1 ≤ v3 then
    some (v2)
    else
    kl ((v2 * (100 - (mo_told 1))) / 100) fun y5 =>
    pX9_lives_L20 x1 mo_told n20 y5 (v3 + 1))
def pX9_lives (N : Nat) (x1 : Int32) (mo_told : Nat → Int32) : Option (Int32) :=
    kb1 (pX9_in (x1.toInt64) 0 60) fun r1 =>
    (if r1 = 0 then
    some ((-1000000002))
    else
    pX9_lives_L20 x1 mo_told N 1000000 0)
set_option maxHeartbeats 8000000 in
set_option maxRecDepth 100000 in
theorem tX9_lives (l : Launch) (D : va_G) (κ : Nat → ClassId) (moo : Nat) (mo_toldA : Nat) (mo_stA : Nat) (mo_textA : Nat) (mo_readA : Nat) (mo_aheadA : Nat) (mo_asideA : Nat) (mo_weighingsA : Nat) (mo_bookA : Nat) (mo_isKeptA : Nat) (mo_keptA : Nat) (mo_seedsA : Nat) (N : Nat) (mo_told : Nat → Int32) (mo_st : Nat → Int32) (mo_isThere : Int32) (mo_seed : Int32) (mo_text : Nat → Int32) (mo_typed : Int32) (mo_faultAt : Int32) (mo_place : Int32) (mo_wrong : Int32) (mo_value : Int32) (mo_read : Nat → Int32) (mo_ahead : Nat → Int32) (mo_undoMany : Int32) (mo_aside : Nat → Int32) (mo_weighings : Nat → Int32) (mo_weighed : Int32) (mo_book : Nat → Int32) (mo_entries : Int32) (mo_isKept : Nat → Int32) (mo_kept : Nat → Int32) (mo_seeds : Nat → Int32) (x1 : Int32) (r0 : Int32) (hres : pX9_lives N x1 mo_told = some (r0)) : krI l yX9_lives wsX9_lives { frames := 1, cells := 0, slots := 0, locals := 100 } D κ [.ref moo, .int x1] ([(moo, .inr (9, [.ref mo_toldA, .ref mo_stA, .int mo_isThere, .int mo_seed, .ref mo_textA, .int mo_typed, .int mo_faultAt, .int mo_place, .int mo_wrong, .int mo_value, .ref mo_readA, .ref mo_aheadA, .int mo_undoMany, .ref mo_asideA, .ref mo_weighingsA, .int mo_weighed, .ref mo_bookA, .int mo_entries, .ref mo_isKeptA, .ref mo_keptA, .ref mo_seedsA])), (mo_toldA, .inl (κ 0, 37, .inl mo_told)), (mo_stA, .inl (κ 0, 17, .inl mo_st)), (mo_textA, .inl (κ 0, 240, .inl mo_text)), (mo_readA, .inl (κ 0, 37, .inl mo_read)), (mo_aheadA, .inl (κ 0, 340, .inl mo_ahead)), (mo_asideA, .inl (κ 0, 17, .inl mo_aside)), (mo_weighingsA, .inl (κ 0, 12, .inl mo_weighings)), (mo_bookA, .inl (κ 0, 30, .inl mo_book)), (mo_isKeptA, .inl (κ 1, 2, .inl mo_isKept)), (mo_keptA, .inl (κ 0, 34, .inl mo_kept)), (mo_seedsA, .inl (κ 0, 2, .inl mo_seeds))]) ([(moo, .inr (9, [.ref mo_toldA, .ref mo_stA, .int mo_isThere, .int mo_seed, .ref mo_textA, .int mo_typed, .int mo_faultAt, .int mo_place, .int mo_wrong, .int mo_value, .ref mo_readA, .ref mo_aheadA, .int mo_undoMany, .ref mo_asideA, .ref mo_weighingsA, .int mo_weighed, .ref mo_bookA, .int mo_entries, .ref mo_isKeptA, .ref mo_keptA, .ref mo_seedsA])), (mo_toldA, .inl (κ 0, 37, .inl mo_told)), (mo_stA, .inl (κ 0, 17, .inl mo_st)), (mo_textA, .inl (κ 0, 240, .inl mo_text)), (mo_readA, .inl (κ 0, 37, .inl mo_read)), (mo_aheadA, .inl (κ 0, 340, .inl mo_ahead)), (mo_asideA, .inl (κ 0, 17, .inl mo_aside)), (mo_weighingsA, .inl (κ 0, 12, .inl mo_weighings)), (mo_bookA, .inl (κ 0, 30, .inl mo_book)), (mo_isKeptA, .inl (κ 1, 2, .inl mo_isKept)), (mo_keptA, .inl (κ 0, 34, .inl mo_kept)), (mo_seedsA, .inl (κ 0, 2, .inl mo_seeds))]) r0 := by
  refine krI_of (cc := cX9_lives) (maxL := 4) (rt := .int) (by decide) rfl (Nat.le_of_ble_eq_true rfl) ?_
  intro p e s m args below meth c A Q ls hx hb hml hown hts hK hA hret hP hD hS hl
  have hown : s.vm.findClass RX9 = some m.cls := hown
  have hl : lv_has ls 4 [(0, .ref moo), (1, .int x1)] := hl
  have iw9 : ∀ w ∈ u_ws RX9 TX9 21, w ∈ wsX9_lives := (fun _ h => List.mem_cons_of_mem _ (List.mem_append_right _ h))
  have k0 : (Cond.constantLong RX9 187 (60)).before args s = true := hts _ (List.mem_of_getElem? (i := 1) rfl)
  have k1 : (Cond.constant RX9 189 (1000000)).before args s = true := hts _ (List.mem_of_getElem? (i := 3) rfl)
  have k2 : (Cond.constant RX9 54 (-1000000002)).before args s = true := hts _ (List.mem_of_getElem? (i := 2) rfl)
  have k3 : (Cond.fieldLink RX9 7 "KingRansomModel" "told" "[I").before args s = true := hts _ (List.mem_of_getElem? (i := 4) rfl)
  have L20 : ∀ (n20 : Nat) (v2 : Int32) (v3 : Int32) (H : Heap) (locs : List Loc) (ls : Array Slot), va_P D vwCl ([(moo, .inr (9, [.ref mo_toldA, .ref mo_stA, .int mo_isThere, .int mo_seed, .ref mo_textA, .int mo_typed, .int mo_faultAt, .int mo_place, .int mo_wrong, .int mo_value, .ref mo_readA, .ref mo_aheadA, .int mo_undoMany, .ref mo_asideA, .ref mo_weighingsA, .int mo_weighed, .ref mo_bookA, .int mo_entries, .ref mo_isKeptA, .ref mo_keptA, .ref mo_seedsA])), (mo_toldA, .inl (κ 0, 37, .inl mo_told)), (mo_stA, .inl (κ 0, 17, .inl mo_st)), (mo_textA, .inl (κ 0, 240, .inl mo_text)), (mo_readA, .inl (κ 0, 37, .inl mo_read)), (mo_aheadA, .inl (κ 0, 340, .inl mo_ahead)), (mo_asideA, .inl (κ 0, 17, .inl mo_aside)), (mo_weighingsA, .inl (κ 0, 12, .inl mo_weighings)), (mo_bookA, .inl (κ 0, 30, .inl mo_book)), (mo_isKeptA, .inl (κ 1, 2, .inl mo_isKept)), (mo_keptA, .inl (κ 0, 34, .inl mo_kept)), (mo_seedsA, .inl (κ 0, 2, .inl mo_seeds))]) H → va_D A ([(moo, .inr (9, [.ref mo_toldA, .ref mo_stA, .int mo_isThere, .int mo_seed, .ref mo_textA, .int mo_typed, .int mo_faultAt, .int mo_place, .int mo_wrong, .int mo_value, .ref mo_readA, .ref mo_aheadA, .int mo_undoMany, .ref mo_asideA, .ref mo_weighingsA, .int mo_weighed, .ref mo_bookA, .int mo_entries, .ref mo_isKeptA, .ref mo_keptA, .ref mo_seedsA])), (mo_toldA, .inl (κ 0, 37, .inl mo_told)), (mo_stA, .inl (κ 0, 17, .inl mo_st)), (mo_textA, .inl (κ 0, 240, .inl mo_text)), (mo_readA, .inl (κ 0, 37, .inl mo_read)), (mo_aheadA, .inl (κ 0, 340, .inl mo_ahead)), (mo_asideA, .inl (κ 0, 17, .inl mo_aside)), (mo_weighingsA, .inl (κ 0, 12, .inl mo_weighings)), (mo_bookA, .inl (κ 0, 30, .inl mo_book)), (mo_isKeptA, .inl (κ 1, 2, .inl mo_isKept)), (mo_keptA, .inl (κ 0, 34, .inl mo_kept)), (mo_seedsA, .inl (κ 0, 2, .inl mo_seeds))]) → va_S A s.heap H locs → lv_has ls 4 [(0, .ref moo), (1, .int x1), (2, .int v2), (3, .int v3)] → pX9_lives_L20 x1 mo_told n20 v2 v3 = some (r0) → W p l e { frames := 1, cells := 0, slots := 0, locals := 100 } s m args below meth c H locs 0 0 Q (F0 m 20 ls []) := by
    intro n20
    induction n20 with
    | zero =>
      intro v2 v3 H locs ls hP hD hS hl hres
      exact absurd (show none = some _ from hres) (by simp)
    | succ n20 ih20 =>
      intro v2 v3 H locs ls hP hD hS hl hres
      rw [pX9_lives_L20] at hres
      refine lv_iload_n hx hb dX9_lives_20 rfl (lv_at hl 3 rfl) ?_
      refine lv_iload_n hx hb dX9_lives_21 rfl (lv_at hl 1 rfl) ?_
      refine lv_icmp_ge (tgt := 46) hx hb dX9_lives_22 (by decide) (fun c4 => ?_) (fun c4 => ?_)
      · replace hres := og_t c4 hres
        refine lv_iload_n hx hb dX9_lives_46 rfl (lv_at hl 2 rfl) ?_
        have hres := Option.some.inj hres
        have h0 := hres
        subst h0
        exact hret _ _ _ _ (vp_nar_int _) hP hD hS dX9_lives_47
      · replace hres := og_f c4 hres
        refine lv_iload_n hx hb dX9_lives_25 rfl (lv_at hl 2 rfl) ?_
        refine lv_bipush (v := 100) hx hb dX9_lives_26 (by decide) ?_
        refine lv_aload_n hx hb dX9_lives_28 rfl (lv_at hl 0 rfl) ?_
        refine va_get (D := D) (ci := 9) (v := .ref mo_toldA) (C := RX9) (T := TX9) (N := 21) hx hb hts iw9 hown hK.1 hP 0 rfl rfl 0 (by decide) k3 (fun _ h9 => h9) rfl dX9_lives_29 ?_
        refine lv_iconst (v := 1) hx hb dX9_lives_32 (by decide) ?_
        refine kr_iald (f := mo_told) (j := 1) hx hb hK hP 1 rfl (by decide) (by decide) dX9_lives_33 ?_
        refine lv_isub hx hb dX9_lives_34 ?_
        refine lv_imul hx hb dX9_lives_35 ?_
        refine lv_bipush (v := 100) hx hb dX9_lives_36 (by decide) ?_
        refine lv_idiv hx hb dX9_lives_38 (by decide) ?_
        obtain ⟨y5, ey5, hres⟩ := kl_s hres
        refine kr_tope ey5 ?_
        refine lv_istore_n (lv' := [(2, .int y5), (0, .ref moo), (1, .int x1), (3, .int v3)]) hx hb dX9_lives_39 rfl hl (by decide) rfl (fun ls hl => ?_)
        refine lv_iinc (v := (v3 + 1)) (lv' := [(3, .int (v3 + 1)), (2, .int y5), (0, .ref moo), (1, .int x1)]) hx hb dX9_lives_40 hl (k := 3) rfl rfl (by decide) rfl (fun ls hl => ?_)
        refine lv_goto (tgt := 20) hx hb dX9_lives_43 (by decide) ?_
        exact ih20 y5 (v3 + 1) _ _ _ hP hD hS (lv_sub hl [2, 3, 1, 0] rfl) hres
  unfold pX9_lives at hres
  refine lv_iload_n hx hb dX9_lives_0 rfl (lv_at hl 1 rfl) ?_
  refine lv_i2l (v := x1.toInt64) hx hb dX9_lives_1 rfl ?_
  refine lv_lconst (v := 0) hx hb dX9_lives_2 (by decide) ?_
  refine lv_ldc2 (v := 60) hx hb hown k0 dX9_lives_3 ?_
  obtain ⟨r1, hc2, hres⟩ := kb1_s hres
  refine krI_S0 (As := [.long (x1.toInt64), .long 0, .long 60]) (rest := []) ⟨hx, hb, hml, hown, hts⟩ hK (tX9_in l D κ (x1.toInt64) 0 60 r1 hc2) (va_cwS 3 hts gX9_lives_X9_in rfl rfl rfl (by decide +kernel) ⟨(Nat.le_of_ble_eq_true rfl), (Nat.le_of_ble_eq_true rfl)⟩) hP hD hS hA rfl hl.1 rfl (Nat.le_of_ble_eq_true rfl) dX9_lives_6 ⟨Nat.zero_le _, Nat.zero_le _⟩ (fun H locs hP hD hS => ?_)
  refine lv_if_ne (tgt := 15) hx hb dX9_lives_9 (by decide) (fun c3 => ?_) (fun c3 => ?_)
  · replace hres := og_f c3 hres
    refine lv_ldc (v := 1000000) hx hb hown k1 dX9_lives_15 ?_
    refine lv_istore_n (lv' := [(2, .int 1000000), (0, .ref moo), (1, .int x1)]) hx hb dX9_lives_17 rfl hl (by decide) rfl (fun ls hl => ?_)
    refine lv_iconst (v := 0) hx hb dX9_lives_18 (by decide) ?_
    refine lv_istore_n (lv' := [(3, .int 0), (2, .int 1000000), (0, .ref moo), (1, .int x1)]) hx hb dX9_lives_19 rfl hl (by decide) rfl (fun ls hl => ?_)
    exact L20 N 1000000 0 _ _ _ hP hD hS (lv_sub hl [2, 3, 1, 0] rfl) hres
  · replace hres := og_t c3 hres
    refine lv_ldc (v := (-1000000002)) hx hb hown k2 dX9_lives_12 ?_
    have hres := Option.some.inj hres
    have h0 := hres
    subst h0
    exact hret _ _ _ _ (vp_nar_int _) hP hD hS dX9_lives_14

def pX9_monthsTo_L90 : Nat → Int32 → Int32 → Int32 → (Nat → Int32) → (Nat → Int32) → Option (Int32 × (Nat → Int32) × (Nat → Int32))
  | 0, _, _, _, _, _ => none
  | n90 + 1, v1, v2, v3, w_mo_st, w_mo_aside =>
    (if 17 ≤ v3 then
    (if v2 = 0 then
    some ((-1), w_mo_st, w_mo_aside)
    else
    some (v1, w_mo_st, w_mo_aside))
    else
    if v3 < 0 ∨ 17 ≤ v3.toNatClampNeg then none else
    pX9_monthsTo_L90 n90 v1 v2 (v3 + 1) (upd w_mo_st v3.toNatClampNeg (w_mo_aside v3.toNatClampNeg)) w_mo_aside)
def pX9_monthsTo_L87 (N : Nat) (v1 : Int32) (s0 : Int32) (w_mo_st : Nat → Int32) (w_mo_aside : Nat → Int32) : Option (Int32 × (Nat → Int32) × (Nat → Int32)) :=
    pX9_monthsTo_L90 N v1 s0 0 w_mo_st w_mo_aside
def pX9_monthsTo_L68 (N : Nat) (v1 : Int32) (w_mo_st : Nat → Int32) (w_mo_aside : Nat → Int32) : Option (Int32 × (Nat → Int32) × (Nat → Int32)) :=
    kb1 (pX9_cost N w_mo_st) fun r7 =>
    (if (w_mo_st 12) < r7 then
    pX9_monthsTo_L87 N v1 0 w_mo_st w_mo_aside
    else
    pX9_monthsTo_L87 N v1 1 w_mo_st w_mo_aside)
def pX9_monthsTo_L38 (N : Nat) (mo_told : Nat → Int32) : Nat → Int32 → (Nat → Int32) → (Nat → Int32) → Option (Int32 × (Nat → Int32) × (Nat → Int32))
  | 0, _, _, _ => none
  | n38 + 1, v1, w_mo_st, w_mo_aside =>
    (if 99 ≤ v1 then
    pX9_monthsTo_L68 N v1 w_mo_st w_mo_aside
    else
    kb1 (pX9_cost N w_mo_st) fun r11 =>
    (if r11 ≤ (w_mo_st 12) then
    pX9_monthsTo_L68 N v1 w_mo_st w_mo_aside
    else
    kb1 (pX9_oneMonth N mo_told w_mo_st) fun w14 =>
    pX9_monthsTo_L38 N mo_told n38 (v1 + 1) w14 w_mo_aside))
def pX9_monthsTo_L12 (N : Nat) (mo_told : Nat → Int32) (mo_st : Nat → Int32) : Nat → Int32 → (Nat → Int32) → Option (Int32 × (Nat → Int32) × (Nat → Int32))
  | 0, _, _ => none
  | n12 + 1, v1, w_mo_aside =>
    (if 17 ≤ v1 then
    pX9_monthsTo_L38 N mo_told N 0 mo_st w_mo_aside
    else
    if v1 < 0 ∨ 17 ≤ v1.toNatClampNeg then none else
    pX9_monthsTo_L12 N mo_told mo_st n12 (v1 + 1) (upd w_mo_aside v1.toNatClampNeg (mo_st v1.toNatClampNeg)))
def pX9_monthsTo (N : Nat) (mo_told : Nat → Int32) (mo_st : Nat → Int32) (mo_isThere : Int32) (mo_aside : Nat → Int32) : Option (Int32 × (Nat → Int32) × (Nat → Int32)) :=
    kb1 (pX9_isHeld mo_st mo_isThere) fun r1 =>
    (if r1 = 0 then
    some ((-1000000003), mo_st, mo_aside)
    else
    pX9_monthsTo_L12 N mo_told mo_st N 0 mo_aside)
set_option maxHeartbeats 8000000 in
set_option maxRecDepth 100000 in
theorem tX9_monthsTo (l : Launch) (D : va_G) (κ : Nat → ClassId) (moo : Nat) (mo_toldA : Nat) (mo_stA : Nat) (mo_textA : Nat) (mo_readA : Nat) (mo_aheadA : Nat) (mo_asideA : Nat) (mo_weighingsA : Nat) (mo_bookA : Nat) (mo_isKeptA : Nat) (mo_keptA : Nat) (mo_seedsA : Nat) (N : Nat) (mo_told : Nat → Int32) (mo_st : Nat → Int32) (mo_isThere : Int32) (mo_seed : Int32) (mo_text : Nat → Int32) (mo_typed : Int32) (mo_faultAt : Int32) (mo_place : Int32) (mo_wrong : Int32) (mo_value : Int32) (mo_read : Nat → Int32) (mo_ahead : Nat → Int32) (mo_undoMany : Int32) (mo_aside : Nat → Int32) (mo_weighings : Nat → Int32) (mo_weighed : Int32) (mo_book : Nat → Int32) (mo_entries : Int32) (mo_isKept : Nat → Int32) (mo_kept : Nat → Int32) (mo_seeds : Nat → Int32) (r0 : Int32) (z_mo_st : Nat → Int32) (z_mo_aside : Nat → Int32) (hres : pX9_monthsTo N mo_told mo_st mo_isThere mo_aside = some (r0, z_mo_st, z_mo_aside)) : krI l yX9_monthsTo wsX9_monthsTo { frames := 3, cells := 0, slots := 0, locals := 300 } D κ [.ref moo] ([(moo, .inr (9, [.ref mo_toldA, .ref mo_stA, .int mo_isThere, .int mo_seed, .ref mo_textA, .int mo_typed, .int mo_faultAt, .int mo_place, .int mo_wrong, .int mo_value, .ref mo_readA, .ref mo_aheadA, .int mo_undoMany, .ref mo_asideA, .ref mo_weighingsA, .int mo_weighed, .ref mo_bookA, .int mo_entries, .ref mo_isKeptA, .ref mo_keptA, .ref mo_seedsA])), (mo_toldA, .inl (κ 0, 37, .inl mo_told)), (mo_stA, .inl (κ 0, 17, .inl mo_st)), (mo_textA, .inl (κ 0, 240, .inl mo_text)), (mo_readA, .inl (κ 0, 37, .inl mo_read)), (mo_aheadA, .inl (κ 0, 340, .inl mo_ahead)), (mo_asideA, .inl (κ 0, 17, .inl mo_aside)), (mo_weighingsA, .inl (κ 0, 12, .inl mo_weighings)), (mo_bookA, .inl (κ 0, 30, .inl mo_book)), (mo_isKeptA, .inl (κ 1, 2, .inl mo_isKept)), (mo_keptA, .inl (κ 0, 34, .inl mo_kept)), (mo_seedsA, .inl (κ 0, 2, .inl mo_seeds))]) ([(moo, .inr (9, [.ref mo_toldA, .ref mo_stA, .int mo_isThere, .int mo_seed, .ref mo_textA, .int mo_typed, .int mo_faultAt, .int mo_place, .int mo_wrong, .int mo_value, .ref mo_readA, .ref mo_aheadA, .int mo_undoMany, .ref mo_asideA, .ref mo_weighingsA, .int mo_weighed, .ref mo_bookA, .int mo_entries, .ref mo_isKeptA, .ref mo_keptA, .ref mo_seedsA])), (mo_toldA, .inl (κ 0, 37, .inl mo_told)), (mo_stA, .inl (κ 0, 17, .inl z_mo_st)), (mo_textA, .inl (κ 0, 240, .inl mo_text)), (mo_readA, .inl (κ 0, 37, .inl mo_read)), (mo_aheadA, .inl (κ 0, 340, .inl mo_ahead)), (mo_asideA, .inl (κ 0, 17, .inl z_mo_aside)), (mo_weighingsA, .inl (κ 0, 12, .inl mo_weighings)), (mo_bookA, .inl (κ 0, 30, .inl mo_book)), (mo_isKeptA, .inl (κ 1, 2, .inl mo_isKept)), (mo_keptA, .inl (κ 0, 34, .inl mo_kept)), (mo_seedsA, .inl (κ 0, 2, .inl mo_seeds))]) r0 := by
  refine krI_of (cc := cX9_monthsTo) (maxL := 4) (rt := .int) (by decide) rfl (Nat.le_of_ble_eq_true rfl) ?_
  intro p e s m args below meth c A Q ls hx hb hml hown hts hK hA hret hP hD hS hl
  have hown : s.vm.findClass RX9 = some m.cls := hown
  have hl : lv_has ls 4 [(0, .ref moo)] := hl
  have iw9 : ∀ w ∈ u_ws RX9 TX9 21, w ∈ wsX9_monthsTo := (fun _ h => List.mem_cons_of_mem _ (List.mem_append_right _ h))
  have k0 : (Cond.constant RX9 147 (-1000000003)).before args s = true := hts _ (List.mem_of_getElem? (i := 1) rfl)
  have k1 : (Cond.fieldLink RX9 13 "KingRansomModel" "st" "[I").before args s = true := hts _ (List.mem_of_getElem? (i := 3) rfl)
  have k2 : (Cond.fieldLink RX9 29 "KingRansomModel" "aside" "[I").before args s = true := hts _ (List.mem_of_getElem? (i := 2) rfl)
  have L90 : ∀ (n90 : Nat) (v1 : Int32) (v2 : Int32) (v3 : Int32) (w_mo_st : Nat → Int32) (w_mo_aside : Nat → Int32) (H : Heap) (locs : List Loc) (ls : Array Slot), va_P D vwCl ([(moo, .inr (9, [.ref mo_toldA, .ref mo_stA, .int mo_isThere, .int mo_seed, .ref mo_textA, .int mo_typed, .int mo_faultAt, .int mo_place, .int mo_wrong, .int mo_value, .ref mo_readA, .ref mo_aheadA, .int mo_undoMany, .ref mo_asideA, .ref mo_weighingsA, .int mo_weighed, .ref mo_bookA, .int mo_entries, .ref mo_isKeptA, .ref mo_keptA, .ref mo_seedsA])), (mo_toldA, .inl (κ 0, 37, .inl mo_told)), (mo_stA, .inl (κ 0, 17, .inl w_mo_st)), (mo_textA, .inl (κ 0, 240, .inl mo_text)), (mo_readA, .inl (κ 0, 37, .inl mo_read)), (mo_aheadA, .inl (κ 0, 340, .inl mo_ahead)), (mo_asideA, .inl (κ 0, 17, .inl w_mo_aside)), (mo_weighingsA, .inl (κ 0, 12, .inl mo_weighings)), (mo_bookA, .inl (κ 0, 30, .inl mo_book)), (mo_isKeptA, .inl (κ 1, 2, .inl mo_isKept)), (mo_keptA, .inl (κ 0, 34, .inl mo_kept)), (mo_seedsA, .inl (κ 0, 2, .inl mo_seeds))]) H → va_D A ([(moo, .inr (9, [.ref mo_toldA, .ref mo_stA, .int mo_isThere, .int mo_seed, .ref mo_textA, .int mo_typed, .int mo_faultAt, .int mo_place, .int mo_wrong, .int mo_value, .ref mo_readA, .ref mo_aheadA, .int mo_undoMany, .ref mo_asideA, .ref mo_weighingsA, .int mo_weighed, .ref mo_bookA, .int mo_entries, .ref mo_isKeptA, .ref mo_keptA, .ref mo_seedsA])), (mo_toldA, .inl (κ 0, 37, .inl mo_told)), (mo_stA, .inl (κ 0, 17, .inl w_mo_st)), (mo_textA, .inl (κ 0, 240, .inl mo_text)), (mo_readA, .inl (κ 0, 37, .inl mo_read)), (mo_aheadA, .inl (κ 0, 340, .inl mo_ahead)), (mo_asideA, .inl (κ 0, 17, .inl w_mo_aside)), (mo_weighingsA, .inl (κ 0, 12, .inl mo_weighings)), (mo_bookA, .inl (κ 0, 30, .inl mo_book)), (mo_isKeptA, .inl (κ 1, 2, .inl mo_isKept)), (mo_keptA, .inl (κ 0, 34, .inl mo_kept)), (mo_seedsA, .inl (κ 0, 2, .inl mo_seeds))]) → va_S A s.heap H locs → lv_has ls 4 [(0, .ref moo), (1, .int v1), (2, .int v2), (3, .int v3)] → pX9_monthsTo_L90 n90 v1 v2 v3 w_mo_st w_mo_aside = some (r0, z_mo_st, z_mo_aside) → W p l e { frames := 3, cells := 0, slots := 0, locals := 300 } s m args below meth c H locs 0 0 Q (F0 m 90 ls []) := by
    intro n90
    induction n90 with
    | zero =>
      intro v1 v2 v3 w_mo_st w_mo_aside H locs ls hP hD hS hl hres
      exact absurd (show none = some _ from hres) (by simp)
    | succ n90 ih90 =>
      intro v1 v2 v3 w_mo_st w_mo_aside H locs ls hP hD hS hl hres
      rw [pX9_monthsTo_L90] at hres
      refine lv_iload_n hx hb dX9_monthsTo_90 rfl (lv_at hl 3 rfl) ?_
      refine lv_bipush (v := 17) hx hb dX9_monthsTo_91 (by decide) ?_
      refine lv_icmp_ge (tgt := 114) hx hb dX9_monthsTo_93 (by decide) (fun c4 => ?_) (fun c4 => ?_)
      · replace hres := og_t c4 hres
        refine lv_iload_n hx hb dX9_monthsTo_114 rfl (lv_at hl 2 rfl) ?_
        refine lv_if_eq (tgt := 122) hx hb dX9_monthsTo_115 (by decide) (fun c5 => ?_) (fun c5 => ?_)
        · replace hres := og_t c5 hres
          refine lv_iconst (v := (-1)) hx hb dX9_monthsTo_122 (by decide) ?_
          have hres := Option.some.inj hres
          have h0 := (Prod.mk.inj hres).1
          replace hres := (Prod.mk.inj hres).2
          have h1 := (Prod.mk.inj hres).1
          replace hres := (Prod.mk.inj hres).2
          have h2 := hres
          subst h0
          subst h1
          subst h2
          exact hret _ _ _ _ (vp_nar_int _) hP hD hS dX9_monthsTo_123
        · replace hres := og_f c5 hres
          refine lv_iload_n hx hb dX9_monthsTo_118 rfl (lv_at hl 1 rfl) ?_
          refine lv_goto (tgt := 123) hx hb dX9_monthsTo_119 (by decide) ?_
          have hres := Option.some.inj hres
          have h0 := (Prod.mk.inj hres).1
          replace hres := (Prod.mk.inj hres).2
          have h1 := (Prod.mk.inj hres).1
          replace hres := (Prod.mk.inj hres).2
          have h2 := hres
          subst h0
          subst h1
          subst h2
          exact hret _ _ _ _ (vp_nar_int _) hP hD hS dX9_monthsTo_123
      · replace hres := og_f c4 hres
        refine lv_aload_n hx hb dX9_monthsTo_96 rfl (lv_at hl 0 rfl) ?_
        refine va_get (D := D) (ci := 9) (v := .ref mo_stA) (C := RX9) (T := TX9) (N := 21) hx hb hts iw9 hown hK.1 hP 0 rfl rfl 1 (by decide) k1 (fun _ h9 => h9) rfl dX9_monthsTo_97 ?_
        refine lv_iload_n hx hb dX9_monthsTo_100 rfl (lv_at hl 3 rfl) ?_
        refine lv_aload_n hx hb dX9_monthsTo_101 rfl (lv_at hl 0 rfl) ?_
        refine va_get (D := D) (ci := 9) (v := .ref mo_asideA) (C := RX9) (T := TX9) (N := 21) hx hb hts iw9 hown hK.1 hP 0 rfl rfl 13 (by decide) k2 (fun _ h9 => h9) rfl dX9_monthsTo_102 ?_
        refine lv_iload_n hx hb dX9_monthsTo_105 rfl (lv_at hl 3 rfl) ?_
        obtain ⟨g6, hres⟩ := og_no hres
        refine kr_iald (f := w_mo_aside) (j := v3.toNatClampNeg) hx hb hK hP 6 rfl g6 rfl dX9_monthsTo_106 ?_
        refine kr_iast (f := w_mo_st) (j := v3.toNatClampNeg) (x := (w_mo_aside v3.toNatClampNeg)) hx hb hK hP hD hS 2 rfl g6 rfl dX9_monthsTo_107 (fun H locs hP hD hS => ?_)
        have hP : va_P D vwCl ([(moo, .inr (9, [.ref mo_toldA, .ref mo_stA, .int mo_isThere, .int mo_seed, .ref mo_textA, .int mo_typed, .int mo_faultAt, .int mo_place, .int mo_wrong, .int mo_value, .ref mo_readA, .ref mo_aheadA, .int mo_undoMany, .ref mo_asideA, .ref mo_weighingsA, .int mo_weighed, .ref mo_bookA, .int mo_entries, .ref mo_isKeptA, .ref mo_keptA, .ref mo_seedsA])), (mo_toldA, .inl (κ 0, 37, .inl mo_told)), (mo_stA, .inl (κ 0, 17, .inl (upd w_mo_st v3.toNatClampNeg (w_mo_aside v3.toNatClampNeg)))), (mo_textA, .inl (κ 0, 240, .inl mo_text)), (mo_readA, .inl (κ 0, 37, .inl mo_read)), (mo_aheadA, .inl (κ 0, 340, .inl mo_ahead)), (mo_asideA, .inl (κ 0, 17, .inl w_mo_aside)), (mo_weighingsA, .inl (κ 0, 12, .inl mo_weighings)), (mo_bookA, .inl (κ 0, 30, .inl mo_book)), (mo_isKeptA, .inl (κ 1, 2, .inl mo_isKept)), (mo_keptA, .inl (κ 0, 34, .inl mo_kept)), (mo_seedsA, .inl (κ 0, 2, .inl mo_seeds))]) H := hP
        have hD : va_D A ([(moo, .inr (9, [.ref mo_toldA, .ref mo_stA, .int mo_isThere, .int mo_seed, .ref mo_textA, .int mo_typed, .int mo_faultAt, .int mo_place, .int mo_wrong, .int mo_value, .ref mo_readA, .ref mo_aheadA, .int mo_undoMany, .ref mo_asideA, .ref mo_weighingsA, .int mo_weighed, .ref mo_bookA, .int mo_entries, .ref mo_isKeptA, .ref mo_keptA, .ref mo_seedsA])), (mo_toldA, .inl (κ 0, 37, .inl mo_told)), (mo_stA, .inl (κ 0, 17, .inl (upd w_mo_st v3.toNatClampNeg (w_mo_aside v3.toNatClampNeg)))), (mo_textA, .inl (κ 0, 240, .inl mo_text)), (mo_readA, .inl (κ 0, 37, .inl mo_read)), (mo_aheadA, .inl (κ 0, 340, .inl mo_ahead)), (mo_asideA, .inl (κ 0, 17, .inl w_mo_aside)), (mo_weighingsA, .inl (κ 0, 12, .inl mo_weighings)), (mo_bookA, .inl (κ 0, 30, .inl mo_book)), (mo_isKeptA, .inl (κ 1, 2, .inl mo_isKept)), (mo_keptA, .inl (κ 0, 34, .inl mo_kept)), (mo_seedsA, .inl (κ 0, 2, .inl mo_seeds))]) := hD
        refine lv_iinc (v := (v3 + 1)) (lv' := [(3, .int (v3 + 1)), (0, .ref moo), (1, .int v1), (2, .int v2)]) hx hb dX9_monthsTo_108 hl (k := 3) rfl rfl (by decide) rfl (fun ls hl => ?_)
        refine lv_goto (tgt := 90) hx hb dX9_monthsTo_111 (by decide) ?_
        exact ih90 v1 v2 (v3 + 1) (upd w_mo_st v3.toNatClampNeg (w_mo_aside v3.toNatClampNeg)) w_mo_aside _ _ _ hP hD hS (lv_sub hl [1, 2, 3, 0] rfl) hres
  have L87 : ∀ (v1 : Int32) (s0 : Int32) (w_mo_st : Nat → Int32) (w_mo_aside : Nat → Int32) (H : Heap) (locs : List Loc) (ls : Array Slot), va_P D vwCl ([(moo, .inr (9, [.ref mo_toldA, .ref mo_stA, .int mo_isThere, .int mo_seed, .ref mo_textA, .int mo_typed, .int mo_faultAt, .int mo_place, .int mo_wrong, .int mo_value, .ref mo_readA, .ref mo_aheadA, .int mo_undoMany, .ref mo_asideA, .ref mo_weighingsA, .int mo_weighed, .ref mo_bookA, .int mo_entries, .ref mo_isKeptA, .ref mo_keptA, .ref mo_seedsA])), (mo_toldA, .inl (κ 0, 37, .inl mo_told)), (mo_stA, .inl (κ 0, 17, .inl w_mo_st)), (mo_textA, .inl (κ 0, 240, .inl mo_text)), (mo_readA, .inl (κ 0, 37, .inl mo_read)), (mo_aheadA, .inl (κ 0, 340, .inl mo_ahead)), (mo_asideA, .inl (κ 0, 17, .inl w_mo_aside)), (mo_weighingsA, .inl (κ 0, 12, .inl mo_weighings)), (mo_bookA, .inl (κ 0, 30, .inl mo_book)), (mo_isKeptA, .inl (κ 1, 2, .inl mo_isKept)), (mo_keptA, .inl (κ 0, 34, .inl mo_kept)), (mo_seedsA, .inl (κ 0, 2, .inl mo_seeds))]) H → va_D A ([(moo, .inr (9, [.ref mo_toldA, .ref mo_stA, .int mo_isThere, .int mo_seed, .ref mo_textA, .int mo_typed, .int mo_faultAt, .int mo_place, .int mo_wrong, .int mo_value, .ref mo_readA, .ref mo_aheadA, .int mo_undoMany, .ref mo_asideA, .ref mo_weighingsA, .int mo_weighed, .ref mo_bookA, .int mo_entries, .ref mo_isKeptA, .ref mo_keptA, .ref mo_seedsA])), (mo_toldA, .inl (κ 0, 37, .inl mo_told)), (mo_stA, .inl (κ 0, 17, .inl w_mo_st)), (mo_textA, .inl (κ 0, 240, .inl mo_text)), (mo_readA, .inl (κ 0, 37, .inl mo_read)), (mo_aheadA, .inl (κ 0, 340, .inl mo_ahead)), (mo_asideA, .inl (κ 0, 17, .inl w_mo_aside)), (mo_weighingsA, .inl (κ 0, 12, .inl mo_weighings)), (mo_bookA, .inl (κ 0, 30, .inl mo_book)), (mo_isKeptA, .inl (κ 1, 2, .inl mo_isKept)), (mo_keptA, .inl (κ 0, 34, .inl mo_kept)), (mo_seedsA, .inl (κ 0, 2, .inl mo_seeds))]) → va_S A s.heap H locs → lv_has ls 4 [(0, .ref moo), (1, .int v1)] → pX9_monthsTo_L87 N v1 s0 w_mo_st w_mo_aside = some (r0, z_mo_st, z_mo_aside) → W p l e { frames := 3, cells := 0, slots := 0, locals := 300 } s m args below meth c H locs 0 0 Q (F0 m 87 ls [.int s0]) := by
    intro v1 s0 w_mo_st w_mo_aside H locs ls hP hD hS hl hres
    unfold pX9_monthsTo_L87 at hres
    refine lv_istore_n (lv' := [(2, .int s0), (0, .ref moo), (1, .int v1)]) hx hb dX9_monthsTo_87 rfl hl (by decide) rfl (fun ls hl => ?_)
    refine lv_iconst (v := 0) hx hb dX9_monthsTo_88 (by decide) ?_
    refine lv_istore_n (lv' := [(3, .int 0), (2, .int s0), (0, .ref moo), (1, .int v1)]) hx hb dX9_monthsTo_89 rfl hl (by decide) rfl (fun ls hl => ?_)
    exact L90 N v1 s0 0 w_mo_st w_mo_aside _ _ _ hP hD hS (lv_sub hl [2, 3, 1, 0] rfl) hres
  have L68 : ∀ (v1 : Int32) (w_mo_st : Nat → Int32) (w_mo_aside : Nat → Int32) (H : Heap) (locs : List Loc) (ls : Array Slot), va_P D vwCl ([(moo, .inr (9, [.ref mo_toldA, .ref mo_stA, .int mo_isThere, .int mo_seed, .ref mo_textA, .int mo_typed, .int mo_faultAt, .int mo_place, .int mo_wrong, .int mo_value, .ref mo_readA, .ref mo_aheadA, .int mo_undoMany, .ref mo_asideA, .ref mo_weighingsA, .int mo_weighed, .ref mo_bookA, .int mo_entries, .ref mo_isKeptA, .ref mo_keptA, .ref mo_seedsA])), (mo_toldA, .inl (κ 0, 37, .inl mo_told)), (mo_stA, .inl (κ 0, 17, .inl w_mo_st)), (mo_textA, .inl (κ 0, 240, .inl mo_text)), (mo_readA, .inl (κ 0, 37, .inl mo_read)), (mo_aheadA, .inl (κ 0, 340, .inl mo_ahead)), (mo_asideA, .inl (κ 0, 17, .inl w_mo_aside)), (mo_weighingsA, .inl (κ 0, 12, .inl mo_weighings)), (mo_bookA, .inl (κ 0, 30, .inl mo_book)), (mo_isKeptA, .inl (κ 1, 2, .inl mo_isKept)), (mo_keptA, .inl (κ 0, 34, .inl mo_kept)), (mo_seedsA, .inl (κ 0, 2, .inl mo_seeds))]) H → va_D A ([(moo, .inr (9, [.ref mo_toldA, .ref mo_stA, .int mo_isThere, .int mo_seed, .ref mo_textA, .int mo_typed, .int mo_faultAt, .int mo_place, .int mo_wrong, .int mo_value, .ref mo_readA, .ref mo_aheadA, .int mo_undoMany, .ref mo_asideA, .ref mo_weighingsA, .int mo_weighed, .ref mo_bookA, .int mo_entries, .ref mo_isKeptA, .ref mo_keptA, .ref mo_seedsA])), (mo_toldA, .inl (κ 0, 37, .inl mo_told)), (mo_stA, .inl (κ 0, 17, .inl w_mo_st)), (mo_textA, .inl (κ 0, 240, .inl mo_text)), (mo_readA, .inl (κ 0, 37, .inl mo_read)), (mo_aheadA, .inl (κ 0, 340, .inl mo_ahead)), (mo_asideA, .inl (κ 0, 17, .inl w_mo_aside)), (mo_weighingsA, .inl (κ 0, 12, .inl mo_weighings)), (mo_bookA, .inl (κ 0, 30, .inl mo_book)), (mo_isKeptA, .inl (κ 1, 2, .inl mo_isKept)), (mo_keptA, .inl (κ 0, 34, .inl mo_kept)), (mo_seedsA, .inl (κ 0, 2, .inl mo_seeds))]) → va_S A s.heap H locs → lv_has ls 4 [(0, .ref moo), (1, .int v1)] → pX9_monthsTo_L68 N v1 w_mo_st w_mo_aside = some (r0, z_mo_st, z_mo_aside) → W p l e { frames := 3, cells := 0, slots := 0, locals := 300 } s m args below meth c H locs 0 0 Q (F0 m 68 ls []) := by
    intro v1 w_mo_st w_mo_aside H locs ls hP hD hS hl hres
    unfold pX9_monthsTo_L68 at hres
    refine lv_aload_n hx hb dX9_monthsTo_68 rfl (lv_at hl 0 rfl) ?_
    refine va_get (D := D) (ci := 9) (v := .ref mo_stA) (C := RX9) (T := TX9) (N := 21) hx hb hts iw9 hown hK.1 hP 0 rfl rfl 1 (by decide) k1 (fun _ h9 => h9) rfl dX9_monthsTo_69 ?_
    refine lv_bipush (v := 12) hx hb dX9_monthsTo_72 (by decide) ?_
    refine kr_iald (f := w_mo_st) (j := 12) hx hb hK hP 2 rfl (by decide) (by decide) dX9_monthsTo_74 ?_
    refine lv_aload_n hx hb dX9_monthsTo_75 rfl (lv_at hl 0 rfl) ?_
    obtain ⟨r7, hc8, hres⟩ := kb1_s hres
    refine krI_V (As := []) (rest := [.int (w_mo_st 12)]) (wr := []) ⟨hx, hb, hml, hown, hts⟩ hK (tX9_cost l D κ moo mo_toldA mo_stA mo_textA mo_readA mo_aheadA mo_asideA mo_weighingsA mo_bookA mo_isKeptA mo_keptA mo_seedsA N mo_told w_mo_st mo_isThere mo_seed mo_text mo_typed mo_faultAt mo_place mo_wrong mo_value mo_read mo_ahead mo_undoMany w_mo_aside mo_weighings mo_weighed mo_book mo_entries mo_isKept mo_kept mo_seeds r7 hc8) (cwV 0 hts gX9_monthsTo_X9_cost rfl rfl rfl (by decide +kernel) ⟨(Nat.le_of_ble_eq_true rfl), (Nat.le_of_ble_eq_true rfl)⟩) rfl rfl rfl hP hD hS hA [0, 1, 2, 3, 4, 5, 6, 7, 8, 9, 10, 11] [] rfl rfl rfl rfl (by decide) rfl hl.1 rfl (Nat.le_of_ble_eq_true rfl) dX9_monthsTo_76 ⟨Nat.zero_le _, Nat.zero_le _⟩ (fun H locs hP hD hS => ?_)
    have hP : va_P D vwCl ([(moo, .inr (9, [.ref mo_toldA, .ref mo_stA, .int mo_isThere, .int mo_seed, .ref mo_textA, .int mo_typed, .int mo_faultAt, .int mo_place, .int mo_wrong, .int mo_value, .ref mo_readA, .ref mo_aheadA, .int mo_undoMany, .ref mo_asideA, .ref mo_weighingsA, .int mo_weighed, .ref mo_bookA, .int mo_entries, .ref mo_isKeptA, .ref mo_keptA, .ref mo_seedsA])), (mo_toldA, .inl (κ 0, 37, .inl mo_told)), (mo_stA, .inl (κ 0, 17, .inl w_mo_st)), (mo_textA, .inl (κ 0, 240, .inl mo_text)), (mo_readA, .inl (κ 0, 37, .inl mo_read)), (mo_aheadA, .inl (κ 0, 340, .inl mo_ahead)), (mo_asideA, .inl (κ 0, 17, .inl w_mo_aside)), (mo_weighingsA, .inl (κ 0, 12, .inl mo_weighings)), (mo_bookA, .inl (κ 0, 30, .inl mo_book)), (mo_isKeptA, .inl (κ 1, 2, .inl mo_isKept)), (mo_keptA, .inl (κ 0, 34, .inl mo_kept)), (mo_seedsA, .inl (κ 0, 2, .inl mo_seeds))]) H := hP
    have hD : va_D A ([(moo, .inr (9, [.ref mo_toldA, .ref mo_stA, .int mo_isThere, .int mo_seed, .ref mo_textA, .int mo_typed, .int mo_faultAt, .int mo_place, .int mo_wrong, .int mo_value, .ref mo_readA, .ref mo_aheadA, .int mo_undoMany, .ref mo_asideA, .ref mo_weighingsA, .int mo_weighed, .ref mo_bookA, .int mo_entries, .ref mo_isKeptA, .ref mo_keptA, .ref mo_seedsA])), (mo_toldA, .inl (κ 0, 37, .inl mo_told)), (mo_stA, .inl (κ 0, 17, .inl w_mo_st)), (mo_textA, .inl (κ 0, 240, .inl mo_text)), (mo_readA, .inl (κ 0, 37, .inl mo_read)), (mo_aheadA, .inl (κ 0, 340, .inl mo_ahead)), (mo_asideA, .inl (κ 0, 17, .inl w_mo_aside)), (mo_weighingsA, .inl (κ 0, 12, .inl mo_weighings)), (mo_bookA, .inl (κ 0, 30, .inl mo_book)), (mo_isKeptA, .inl (κ 1, 2, .inl mo_isKept)), (mo_keptA, .inl (κ 0, 34, .inl mo_kept)), (mo_seedsA, .inl (κ 0, 2, .inl mo_seeds))]) := hD
    refine lv_icmp_lt (tgt := 86) hx hb dX9_monthsTo_79 (by decide) (fun c9 => ?_) (fun c9 => ?_)
    · replace hres := og_t c9 hres
      refine lv_iconst (v := 0) hx hb dX9_monthsTo_86 (by decide) ?_
      exact L87 v1 0 w_mo_st w_mo_aside _ _ _ hP hD hS (lv_sub hl [0, 1] rfl) hres
    · replace hres := og_f c9 hres
      refine lv_iconst (v := 1) hx hb dX9_monthsTo_82 (by decide) ?_
      refine lv_goto (tgt := 87) hx hb dX9_monthsTo_83 (by decide) ?_
      exact L87 v1 1 w_mo_st w_mo_aside _ _ _ hP hD hS (lv_sub hl [0, 1] rfl) hres
  have L38 : ∀ (n38 : Nat) (v1 : Int32) (w_mo_st : Nat → Int32) (w_mo_aside : Nat → Int32) (H : Heap) (locs : List Loc) (ls : Array Slot), va_P D vwCl ([(moo, .inr (9, [.ref mo_toldA, .ref mo_stA, .int mo_isThere, .int mo_seed, .ref mo_textA, .int mo_typed, .int mo_faultAt, .int mo_place, .int mo_wrong, .int mo_value, .ref mo_readA, .ref mo_aheadA, .int mo_undoMany, .ref mo_asideA, .ref mo_weighingsA, .int mo_weighed, .ref mo_bookA, .int mo_entries, .ref mo_isKeptA, .ref mo_keptA, .ref mo_seedsA])), (mo_toldA, .inl (κ 0, 37, .inl mo_told)), (mo_stA, .inl (κ 0, 17, .inl w_mo_st)), (mo_textA, .inl (κ 0, 240, .inl mo_text)), (mo_readA, .inl (κ 0, 37, .inl mo_read)), (mo_aheadA, .inl (κ 0, 340, .inl mo_ahead)), (mo_asideA, .inl (κ 0, 17, .inl w_mo_aside)), (mo_weighingsA, .inl (κ 0, 12, .inl mo_weighings)), (mo_bookA, .inl (κ 0, 30, .inl mo_book)), (mo_isKeptA, .inl (κ 1, 2, .inl mo_isKept)), (mo_keptA, .inl (κ 0, 34, .inl mo_kept)), (mo_seedsA, .inl (κ 0, 2, .inl mo_seeds))]) H → va_D A ([(moo, .inr (9, [.ref mo_toldA, .ref mo_stA, .int mo_isThere, .int mo_seed, .ref mo_textA, .int mo_typed, .int mo_faultAt, .int mo_place, .int mo_wrong, .int mo_value, .ref mo_readA, .ref mo_aheadA, .int mo_undoMany, .ref mo_asideA, .ref mo_weighingsA, .int mo_weighed, .ref mo_bookA, .int mo_entries, .ref mo_isKeptA, .ref mo_keptA, .ref mo_seedsA])), (mo_toldA, .inl (κ 0, 37, .inl mo_told)), (mo_stA, .inl (κ 0, 17, .inl w_mo_st)), (mo_textA, .inl (κ 0, 240, .inl mo_text)), (mo_readA, .inl (κ 0, 37, .inl mo_read)), (mo_aheadA, .inl (κ 0, 340, .inl mo_ahead)), (mo_asideA, .inl (κ 0, 17, .inl w_mo_aside)), (mo_weighingsA, .inl (κ 0, 12, .inl mo_weighings)), (mo_bookA, .inl (κ 0, 30, .inl mo_book)), (mo_isKeptA, .inl (κ 1, 2, .inl mo_isKept)), (mo_keptA, .inl (κ 0, 34, .inl mo_kept)), (mo_seedsA, .inl (κ 0, 2, .inl mo_seeds))]) → va_S A s.heap H locs → lv_has ls 4 [(0, .ref moo), (1, .int v1)] → pX9_monthsTo_L38 N mo_told n38 v1 w_mo_st w_mo_aside = some (r0, z_mo_st, z_mo_aside) → W p l e { frames := 3, cells := 0, slots := 0, locals := 300 } s m args below meth c H locs 0 0 Q (F0 m 38 ls []) := by
    intro n38
    induction n38 with
    | zero =>
      intro v1 w_mo_st w_mo_aside H locs ls hP hD hS hl hres
      exact absurd (show none = some _ from hres) (by simp)
    | succ n38 ih38 =>
      intro v1 w_mo_st w_mo_aside H locs ls hP hD hS hl hres
      rw [pX9_monthsTo_L38] at hres
      refine lv_iload_n hx hb dX9_monthsTo_38 rfl (lv_at hl 1 rfl) ?_
      refine lv_bipush (v := 99) hx hb dX9_monthsTo_39 (by decide) ?_
      refine lv_icmp_ge (tgt := 68) hx hb dX9_monthsTo_41 (by decide) (fun c10 => ?_) (fun c10 => ?_)
      · replace hres := og_t c10 hres
        exact L68 v1 w_mo_st w_mo_aside _ _ _ hP hD hS (lv_sub hl [0, 1] rfl) hres
      · replace hres := og_f c10 hres
        refine lv_aload_n hx hb dX9_monthsTo_44 rfl (lv_at hl 0 rfl) ?_
        refine va_get (D := D) (ci := 9) (v := .ref mo_stA) (C := RX9) (T := TX9) (N := 21) hx hb hts iw9 hown hK.1 hP 0 rfl rfl 1 (by decide) k1 (fun _ h9 => h9) rfl dX9_monthsTo_45 ?_
        refine lv_bipush (v := 12) hx hb dX9_monthsTo_48 (by decide) ?_
        refine kr_iald (f := w_mo_st) (j := 12) hx hb hK hP 2 rfl (by decide) (by decide) dX9_monthsTo_50 ?_
        refine lv_aload_n hx hb dX9_monthsTo_51 rfl (lv_at hl 0 rfl) ?_
        obtain ⟨r11, hc12, hres⟩ := kb1_s hres
        refine krI_V (As := []) (rest := [.int (w_mo_st 12)]) (wr := []) ⟨hx, hb, hml, hown, hts⟩ hK (tX9_cost l D κ moo mo_toldA mo_stA mo_textA mo_readA mo_aheadA mo_asideA mo_weighingsA mo_bookA mo_isKeptA mo_keptA mo_seedsA N mo_told w_mo_st mo_isThere mo_seed mo_text mo_typed mo_faultAt mo_place mo_wrong mo_value mo_read mo_ahead mo_undoMany w_mo_aside mo_weighings mo_weighed mo_book mo_entries mo_isKept mo_kept mo_seeds r11 hc12) (cwV 0 hts gX9_monthsTo_X9_cost rfl rfl rfl (by decide +kernel) ⟨(Nat.le_of_ble_eq_true rfl), (Nat.le_of_ble_eq_true rfl)⟩) rfl rfl rfl hP hD hS hA [0, 1, 2, 3, 4, 5, 6, 7, 8, 9, 10, 11] [] rfl rfl rfl rfl (by decide) rfl hl.1 rfl (Nat.le_of_ble_eq_true rfl) dX9_monthsTo_52 ⟨Nat.zero_le _, Nat.zero_le _⟩ (fun H locs hP hD hS => ?_)
        have hP : va_P D vwCl ([(moo, .inr (9, [.ref mo_toldA, .ref mo_stA, .int mo_isThere, .int mo_seed, .ref mo_textA, .int mo_typed, .int mo_faultAt, .int mo_place, .int mo_wrong, .int mo_value, .ref mo_readA, .ref mo_aheadA, .int mo_undoMany, .ref mo_asideA, .ref mo_weighingsA, .int mo_weighed, .ref mo_bookA, .int mo_entries, .ref mo_isKeptA, .ref mo_keptA, .ref mo_seedsA])), (mo_toldA, .inl (κ 0, 37, .inl mo_told)), (mo_stA, .inl (κ 0, 17, .inl w_mo_st)), (mo_textA, .inl (κ 0, 240, .inl mo_text)), (mo_readA, .inl (κ 0, 37, .inl mo_read)), (mo_aheadA, .inl (κ 0, 340, .inl mo_ahead)), (mo_asideA, .inl (κ 0, 17, .inl w_mo_aside)), (mo_weighingsA, .inl (κ 0, 12, .inl mo_weighings)), (mo_bookA, .inl (κ 0, 30, .inl mo_book)), (mo_isKeptA, .inl (κ 1, 2, .inl mo_isKept)), (mo_keptA, .inl (κ 0, 34, .inl mo_kept)), (mo_seedsA, .inl (κ 0, 2, .inl mo_seeds))]) H := hP
        have hD : va_D A ([(moo, .inr (9, [.ref mo_toldA, .ref mo_stA, .int mo_isThere, .int mo_seed, .ref mo_textA, .int mo_typed, .int mo_faultAt, .int mo_place, .int mo_wrong, .int mo_value, .ref mo_readA, .ref mo_aheadA, .int mo_undoMany, .ref mo_asideA, .ref mo_weighingsA, .int mo_weighed, .ref mo_bookA, .int mo_entries, .ref mo_isKeptA, .ref mo_keptA, .ref mo_seedsA])), (mo_toldA, .inl (κ 0, 37, .inl mo_told)), (mo_stA, .inl (κ 0, 17, .inl w_mo_st)), (mo_textA, .inl (κ 0, 240, .inl mo_text)), (mo_readA, .inl (κ 0, 37, .inl mo_read)), (mo_aheadA, .inl (κ 0, 340, .inl mo_ahead)), (mo_asideA, .inl (κ 0, 17, .inl w_mo_aside)), (mo_weighingsA, .inl (κ 0, 12, .inl mo_weighings)), (mo_bookA, .inl (κ 0, 30, .inl mo_book)), (mo_isKeptA, .inl (κ 1, 2, .inl mo_isKept)), (mo_keptA, .inl (κ 0, 34, .inl mo_kept)), (mo_seedsA, .inl (κ 0, 2, .inl mo_seeds))]) := hD
        refine lv_icmp_ge (tgt := 68) hx hb dX9_monthsTo_55 (by decide) (fun c13 => ?_) (fun c13 => ?_)
        · replace hres := og_t c13 hres
          exact L68 v1 w_mo_st w_mo_aside _ _ _ hP hD hS (lv_sub hl [0, 1] rfl) hres
        · replace hres := og_f c13 hres
          refine lv_aload_n hx hb dX9_monthsTo_58 rfl (lv_at hl 0 rfl) ?_
          obtain ⟨w14, hc15, hres⟩ := kb1_s hres
          refine krV_V (As := []) (rest := []) (wr := []) ⟨hx, hb, hml, hown, hts⟩ hK (tX9_oneMonth l D κ moo mo_toldA mo_stA mo_textA mo_readA mo_aheadA mo_asideA mo_weighingsA mo_bookA mo_isKeptA mo_keptA mo_seedsA N mo_told w_mo_st mo_isThere mo_seed mo_text mo_typed mo_faultAt mo_place mo_wrong mo_value mo_read mo_ahead mo_undoMany w_mo_aside mo_weighings mo_weighed mo_book mo_entries mo_isKept mo_kept mo_seeds w14 hc15) (cwV 0 hts gX9_monthsTo_X9_oneMonth rfl rfl rfl (by decide +kernel) ⟨(Nat.le_of_ble_eq_true rfl), (Nat.le_of_ble_eq_true rfl)⟩) rfl rfl rfl hP hD hS hA [0, 1, 2, 3, 4, 5, 6, 7, 8, 9, 10, 11] [] rfl rfl rfl rfl (by decide) rfl hl.1 rfl (Nat.le_of_ble_eq_true rfl) dX9_monthsTo_59 ⟨Nat.zero_le _, Nat.zero_le _⟩ (fun H locs hP hD hS => ?_)
          have hP : va_P D vwCl ([(moo, .inr (9, [.ref mo_toldA, .ref mo_stA, .int mo_isThere, .int mo_seed, .ref mo_textA, .int mo_typed, .int mo_faultAt, .int mo_place, .int mo_wrong, .int mo_value, .ref mo_readA, .ref mo_aheadA, .int mo_undoMany, .ref mo_asideA, .ref mo_weighingsA, .int mo_weighed, .ref mo_bookA, .int mo_entries, .ref mo_isKeptA, .ref mo_keptA, .ref mo_seedsA])), (mo_toldA, .inl (κ 0, 37, .inl mo_told)), (mo_stA, .inl (κ 0, 17, .inl w14)), (mo_textA, .inl (κ 0, 240, .inl mo_text)), (mo_readA, .inl (κ 0, 37, .inl mo_read)), (mo_aheadA, .inl (κ 0, 340, .inl mo_ahead)), (mo_asideA, .inl (κ 0, 17, .inl w_mo_aside)), (mo_weighingsA, .inl (κ 0, 12, .inl mo_weighings)), (mo_bookA, .inl (κ 0, 30, .inl mo_book)), (mo_isKeptA, .inl (κ 1, 2, .inl mo_isKept)), (mo_keptA, .inl (κ 0, 34, .inl mo_kept)), (mo_seedsA, .inl (κ 0, 2, .inl mo_seeds))]) H := hP
          have hD : va_D A ([(moo, .inr (9, [.ref mo_toldA, .ref mo_stA, .int mo_isThere, .int mo_seed, .ref mo_textA, .int mo_typed, .int mo_faultAt, .int mo_place, .int mo_wrong, .int mo_value, .ref mo_readA, .ref mo_aheadA, .int mo_undoMany, .ref mo_asideA, .ref mo_weighingsA, .int mo_weighed, .ref mo_bookA, .int mo_entries, .ref mo_isKeptA, .ref mo_keptA, .ref mo_seedsA])), (mo_toldA, .inl (κ 0, 37, .inl mo_told)), (mo_stA, .inl (κ 0, 17, .inl w14)), (mo_textA, .inl (κ 0, 240, .inl mo_text)), (mo_readA, .inl (κ 0, 37, .inl mo_read)), (mo_aheadA, .inl (κ 0, 340, .inl mo_ahead)), (mo_asideA, .inl (κ 0, 17, .inl w_mo_aside)), (mo_weighingsA, .inl (κ 0, 12, .inl mo_weighings)), (mo_bookA, .inl (κ 0, 30, .inl mo_book)), (mo_isKeptA, .inl (κ 1, 2, .inl mo_isKept)), (mo_keptA, .inl (κ 0, 34, .inl mo_kept)), (mo_seedsA, .inl (κ 0, 2, .inl mo_seeds))]) := hD
          refine lv_iinc (v := (v1 + 1)) (lv' := [(1, .int (v1 + 1)), (0, .ref moo)]) hx hb dX9_monthsTo_62 hl (k := 1) rfl rfl (by decide) rfl (fun ls hl => ?_)
          refine lv_goto (tgt := 38) hx hb dX9_monthsTo_65 (by decide) ?_
          exact ih38 (v1 + 1) w14 w_mo_aside _ _ _ hP hD hS (lv_sub hl [1, 0] rfl) hres
  have L12 : ∀ (n12 : Nat) (v1 : Int32) (w_mo_aside : Nat → Int32) (H : Heap) (locs : List Loc) (ls : Array Slot), va_P D vwCl ([(moo, .inr (9, [.ref mo_toldA, .ref mo_stA, .int mo_isThere, .int mo_seed, .ref mo_textA, .int mo_typed, .int mo_faultAt, .int mo_place, .int mo_wrong, .int mo_value, .ref mo_readA, .ref mo_aheadA, .int mo_undoMany, .ref mo_asideA, .ref mo_weighingsA, .int mo_weighed, .ref mo_bookA, .int mo_entries, .ref mo_isKeptA, .ref mo_keptA, .ref mo_seedsA])), (mo_toldA, .inl (κ 0, 37, .inl mo_told)), (mo_stA, .inl (κ 0, 17, .inl mo_st)), (mo_textA, .inl (κ 0, 240, .inl mo_text)), (mo_readA, .inl (κ 0, 37, .inl mo_read)), (mo_aheadA, .inl (κ 0, 340, .inl mo_ahead)), (mo_asideA, .inl (κ 0, 17, .inl w_mo_aside)), (mo_weighingsA, .inl (κ 0, 12, .inl mo_weighings)), (mo_bookA, .inl (κ 0, 30, .inl mo_book)), (mo_isKeptA, .inl (κ 1, 2, .inl mo_isKept)), (mo_keptA, .inl (κ 0, 34, .inl mo_kept)), (mo_seedsA, .inl (κ 0, 2, .inl mo_seeds))]) H → va_D A ([(moo, .inr (9, [.ref mo_toldA, .ref mo_stA, .int mo_isThere, .int mo_seed, .ref mo_textA, .int mo_typed, .int mo_faultAt, .int mo_place, .int mo_wrong, .int mo_value, .ref mo_readA, .ref mo_aheadA, .int mo_undoMany, .ref mo_asideA, .ref mo_weighingsA, .int mo_weighed, .ref mo_bookA, .int mo_entries, .ref mo_isKeptA, .ref mo_keptA, .ref mo_seedsA])), (mo_toldA, .inl (κ 0, 37, .inl mo_told)), (mo_stA, .inl (κ 0, 17, .inl mo_st)), (mo_textA, .inl (κ 0, 240, .inl mo_text)), (mo_readA, .inl (κ 0, 37, .inl mo_read)), (mo_aheadA, .inl (κ 0, 340, .inl mo_ahead)), (mo_asideA, .inl (κ 0, 17, .inl w_mo_aside)), (mo_weighingsA, .inl (κ 0, 12, .inl mo_weighings)), (mo_bookA, .inl (κ 0, 30, .inl mo_book)), (mo_isKeptA, .inl (κ 1, 2, .inl mo_isKept)), (mo_keptA, .inl (κ 0, 34, .inl mo_kept)), (mo_seedsA, .inl (κ 0, 2, .inl mo_seeds))]) → va_S A s.heap H locs → lv_has ls 4 [(0, .ref moo), (1, .int v1)] → pX9_monthsTo_L12 N mo_told mo_st n12 v1 w_mo_aside = some (r0, z_mo_st, z_mo_aside) → W p l e { frames := 3, cells := 0, slots := 0, locals := 300 } s m args below meth c H locs 0 0 Q (F0 m 12 ls []) := by
    intro n12
    induction n12 with
    | zero =>
      intro v1 w_mo_aside H locs ls hP hD hS hl hres
      exact absurd (show none = some _ from hres) (by simp)
    | succ n12 ih12 =>
      intro v1 w_mo_aside H locs ls hP hD hS hl hres
      rw [pX9_monthsTo_L12] at hres
      refine lv_iload_n hx hb dX9_monthsTo_12 rfl (lv_at hl 1 rfl) ?_
      refine lv_bipush (v := 17) hx hb dX9_monthsTo_13 (by decide) ?_
      refine lv_icmp_ge (tgt := 36) hx hb dX9_monthsTo_15 (by decide) (fun c16 => ?_) (fun c16 => ?_)
      · replace hres := og_t c16 hres
        refine lv_iconst (v := 0) hx hb dX9_monthsTo_36 (by decide) ?_
        refine lv_istore_n (lv' := [(1, .int 0), (0, .ref moo)]) hx hb dX9_monthsTo_37 rfl hl (by decide) rfl (fun ls hl => ?_)
        exact L38 N 0 mo_st w_mo_aside _ _ _ hP hD hS (lv_sub hl [1, 0] rfl) hres
      · replace hres := og_f c16 hres
        refine lv_aload_n hx hb dX9_monthsTo_18 rfl (lv_at hl 0 rfl) ?_
        refine va_get (D := D) (ci := 9) (v := .ref mo_asideA) (C := RX9) (T := TX9) (N := 21) hx hb hts iw9 hown hK.1 hP 0 rfl rfl 13 (by decide) k2 (fun _ h9 => h9) rfl dX9_monthsTo_19 ?_
        refine lv_iload_n hx hb dX9_monthsTo_22 rfl (lv_at hl 1 rfl) ?_
        refine lv_aload_n hx hb dX9_monthsTo_23 rfl (lv_at hl 0 rfl) ?_
        refine va_get (D := D) (ci := 9) (v := .ref mo_stA) (C := RX9) (T := TX9) (N := 21) hx hb hts iw9 hown hK.1 hP 0 rfl rfl 1 (by decide) k1 (fun _ h9 => h9) rfl dX9_monthsTo_24 ?_
        refine lv_iload_n hx hb dX9_monthsTo_27 rfl (lv_at hl 1 rfl) ?_
        obtain ⟨g17, hres⟩ := og_no hres
        refine kr_iald (f := mo_st) (j := v1.toNatClampNeg) hx hb hK hP 2 rfl g17 rfl dX9_monthsTo_28 ?_
        refine kr_iast (f := w_mo_aside) (j := v1.toNatClampNeg) (x := (mo_st v1.toNatClampNeg)) hx hb hK hP hD hS 6 rfl g17 rfl dX9_monthsTo_29 (fun H locs hP hD hS => ?_)
        have hP : va_P D vwCl ([(moo, .inr (9, [.ref mo_toldA, .ref mo_stA, .int mo_isThere, .int mo_seed, .ref mo_textA, .int mo_typed, .int mo_faultAt, .int mo_place, .int mo_wrong, .int mo_value, .ref mo_readA, .ref mo_aheadA, .int mo_undoMany, .ref mo_asideA, .ref mo_weighingsA, .int mo_weighed, .ref mo_bookA, .int mo_entries, .ref mo_isKeptA, .ref mo_keptA, .ref mo_seedsA])), (mo_toldA, .inl (κ 0, 37, .inl mo_told)), (mo_stA, .inl (κ 0, 17, .inl mo_st)), (mo_textA, .inl (κ 0, 240, .inl mo_text)), (mo_readA, .inl (κ 0, 37, .inl mo_read)), (mo_aheadA, .inl (κ 0, 340, .inl mo_ahead)), (mo_asideA, .inl (κ 0, 17, .inl (upd w_mo_aside v1.toNatClampNeg (mo_st v1.toNatClampNeg)))), (mo_weighingsA, .inl (κ 0, 12, .inl mo_weighings)), (mo_bookA, .inl (κ 0, 30, .inl mo_book)), (mo_isKeptA, .inl (κ 1, 2, .inl mo_isKept)), (mo_keptA, .inl (κ 0, 34, .inl mo_kept)), (mo_seedsA, .inl (κ 0, 2, .inl mo_seeds))]) H := hP
        have hD : va_D A ([(moo, .inr (9, [.ref mo_toldA, .ref mo_stA, .int mo_isThere, .int mo_seed, .ref mo_textA, .int mo_typed, .int mo_faultAt, .int mo_place, .int mo_wrong, .int mo_value, .ref mo_readA, .ref mo_aheadA, .int mo_undoMany, .ref mo_asideA, .ref mo_weighingsA, .int mo_weighed, .ref mo_bookA, .int mo_entries, .ref mo_isKeptA, .ref mo_keptA, .ref mo_seedsA])), (mo_toldA, .inl (κ 0, 37, .inl mo_told)), (mo_stA, .inl (κ 0, 17, .inl mo_st)), (mo_textA, .inl (κ 0, 240, .inl mo_text)), (mo_readA, .inl (κ 0, 37, .inl mo_read)), (mo_aheadA, .inl (κ 0, 340, .inl mo_ahead)), (mo_asideA, .inl (κ 0, 17, .inl (upd w_mo_aside v1.toNatClampNeg (mo_st v1.toNatClampNeg)))), (mo_weighingsA, .inl (κ 0, 12, .inl mo_weighings)), (mo_bookA, .inl (κ 0, 30, .inl mo_book)), (mo_isKeptA, .inl (κ 1, 2, .inl mo_isKept)), (mo_keptA, .inl (κ 0, 34, .inl mo_kept)), (mo_seedsA, .inl (κ 0, 2, .inl mo_seeds))]) := hD
        refine lv_iinc (v := (v1 + 1)) (lv' := [(1, .int (v1 + 1)), (0, .ref moo)]) hx hb dX9_monthsTo_30 hl (k := 1) rfl rfl (by decide) rfl (fun ls hl => ?_)
        refine lv_goto (tgt := 12) hx hb dX9_monthsTo_33 (by decide) ?_
        exact ih12 (v1 + 1) (upd w_mo_aside v1.toNatClampNeg (mo_st v1.toNatClampNeg)) _ _ _ hP hD hS (lv_sub hl [1, 0] rfl) hres
  unfold pX9_monthsTo at hres
  refine lv_aload_n hx hb dX9_monthsTo_0 rfl (lv_at hl 0 rfl) ?_
  obtain ⟨r1, hc2, hres⟩ := kb1_s hres
  refine krI_V (As := []) (rest := []) (wr := []) ⟨hx, hb, hml, hown, hts⟩ hK (tX9_isHeld l D κ moo mo_toldA mo_stA mo_textA mo_readA mo_aheadA mo_asideA mo_weighingsA mo_bookA mo_isKeptA mo_keptA mo_seedsA mo_told mo_st mo_isThere mo_seed mo_text mo_typed mo_faultAt mo_place mo_wrong mo_value mo_read mo_ahead mo_undoMany mo_aside mo_weighings mo_weighed mo_book mo_entries mo_isKept mo_kept mo_seeds r1 hc2) (cwV 0 hts gX9_monthsTo_X9_isHeld rfl rfl rfl (by decide +kernel) ⟨(Nat.le_of_ble_eq_true rfl), (Nat.le_of_ble_eq_true rfl)⟩) rfl rfl rfl hP hD hS hA [0, 1, 2, 3, 4, 5, 6, 7, 8, 9, 10, 11] [] rfl rfl rfl rfl (by decide) rfl hl.1 rfl (Nat.le_of_ble_eq_true rfl) dX9_monthsTo_1 ⟨Nat.zero_le _, Nat.zero_le _⟩ (fun H locs hP hD hS => ?_)
  have hP : va_P D vwCl ([(moo, .inr (9, [.ref mo_toldA, .ref mo_stA, .int mo_isThere, .int mo_seed, .ref mo_textA, .int mo_typed, .int mo_faultAt, .int mo_place, .int mo_wrong, .int mo_value, .ref mo_readA, .ref mo_aheadA, .int mo_undoMany, .ref mo_asideA, .ref mo_weighingsA, .int mo_weighed, .ref mo_bookA, .int mo_entries, .ref mo_isKeptA, .ref mo_keptA, .ref mo_seedsA])), (mo_toldA, .inl (κ 0, 37, .inl mo_told)), (mo_stA, .inl (κ 0, 17, .inl mo_st)), (mo_textA, .inl (κ 0, 240, .inl mo_text)), (mo_readA, .inl (κ 0, 37, .inl mo_read)), (mo_aheadA, .inl (κ 0, 340, .inl mo_ahead)), (mo_asideA, .inl (κ 0, 17, .inl mo_aside)), (mo_weighingsA, .inl (κ 0, 12, .inl mo_weighings)), (mo_bookA, .inl (κ 0, 30, .inl mo_book)), (mo_isKeptA, .inl (κ 1, 2, .inl mo_isKept)), (mo_keptA, .inl (κ 0, 34, .inl mo_kept)), (mo_seedsA, .inl (κ 0, 2, .inl mo_seeds))]) H := hP
  have hD : va_D A ([(moo, .inr (9, [.ref mo_toldA, .ref mo_stA, .int mo_isThere, .int mo_seed, .ref mo_textA, .int mo_typed, .int mo_faultAt, .int mo_place, .int mo_wrong, .int mo_value, .ref mo_readA, .ref mo_aheadA, .int mo_undoMany, .ref mo_asideA, .ref mo_weighingsA, .int mo_weighed, .ref mo_bookA, .int mo_entries, .ref mo_isKeptA, .ref mo_keptA, .ref mo_seedsA])), (mo_toldA, .inl (κ 0, 37, .inl mo_told)), (mo_stA, .inl (κ 0, 17, .inl mo_st)), (mo_textA, .inl (κ 0, 240, .inl mo_text)), (mo_readA, .inl (κ 0, 37, .inl mo_read)), (mo_aheadA, .inl (κ 0, 340, .inl mo_ahead)), (mo_asideA, .inl (κ 0, 17, .inl mo_aside)), (mo_weighingsA, .inl (κ 0, 12, .inl mo_weighings)), (mo_bookA, .inl (κ 0, 30, .inl mo_book)), (mo_isKeptA, .inl (κ 1, 2, .inl mo_isKept)), (mo_keptA, .inl (κ 0, 34, .inl mo_kept)), (mo_seedsA, .inl (κ 0, 2, .inl mo_seeds))]) := hD
  refine lv_if_ne (tgt := 10) hx hb dX9_monthsTo_4 (by decide) (fun c3 => ?_) (fun c3 => ?_)
  · replace hres := og_f c3 hres
    refine lv_iconst (v := 0) hx hb dX9_monthsTo_10 (by decide) ?_
    refine lv_istore_n (lv' := [(1, .int 0), (0, .ref moo)]) hx hb dX9_monthsTo_11 rfl hl (by decide) rfl (fun ls hl => ?_)
    exact L12 N 0 mo_aside _ _ _ hP hD hS (lv_sub hl [1, 0] rfl) hres
  · replace hres := og_t c3 hres
    refine lv_ldc (v := (-1000000003)) hx hb hown k0 dX9_monthsTo_7 ?_
    have hres := Option.some.inj hres
    have h0 := (Prod.mk.inj hres).1
    replace hres := (Prod.mk.inj hres).2
    have h1 := (Prod.mk.inj hres).1
    replace hres := (Prod.mk.inj hres).2
    have h2 := hres
    subst h0
    subst h1
    subst h2
    exact hret _ _ _ _ (vp_nar_int _) hP hD hS dX9_monthsTo_9

def pX9_weigh (x1 : Int32) (x2 : Int32) (mo_told : Nat → Int32) (mo_weighings : Nat → Int32) (mo_weighed : Int32) : Option (Int32 × (Nat → Int32) × Int32) :=
    kb1 (pX9_in (x1.toInt64) 0 ((((1 : Int32) <<< ((mo_told 5) &&& 31)) - 1).toInt64)) fun r1 =>
    (if r1 = 0 then
    some ((-1000000001), mo_weighings, mo_weighed)
    else
    kb1 (pX9_in (x2.toInt64) 0 999) fun r4 =>
    (if r4 = 0 then
    some ((-1000000002), mo_weighings, mo_weighed)
    else
    (if mo_weighed = 6 then
    some ((-1000000004), mo_weighings, mo_weighed)
    else
    if (2 * mo_weighed) < 0 ∨ 12 ≤ (2 * mo_weighed).toNatClampNeg then none else
    if ((2 * mo_weighed) + 1) < 0 ∨ 12 ≤ ((2 * mo_weighed) + 1).toNatClampNeg then none else
    some ((mo_weighed + 1), (upd (upd mo_weighings ((2 * mo_weighed).toNatClampNeg) x1) (((2 * mo_weighed) + 1).toNatClampNeg) x2), (mo_weighed + 1)))))
set_option maxHeartbeats 8000000 in
set_option maxRecDepth 100000 in
theorem tX9_weigh (l : Launch) (D : va_G) (κ : Nat → ClassId) (moo : Nat) (mo_toldA : Nat) (mo_stA : Nat) (mo_textA : Nat) (mo_readA : Nat) (mo_aheadA : Nat) (mo_asideA : Nat) (mo_weighingsA : Nat) (mo_bookA : Nat) (mo_isKeptA : Nat) (mo_keptA : Nat) (mo_seedsA : Nat) (mo_told : Nat → Int32) (mo_st : Nat → Int32) (mo_isThere : Int32) (mo_seed : Int32) (mo_text : Nat → Int32) (mo_typed : Int32) (mo_faultAt : Int32) (mo_place : Int32) (mo_wrong : Int32) (mo_value : Int32) (mo_read : Nat → Int32) (mo_ahead : Nat → Int32) (mo_undoMany : Int32) (mo_aside : Nat → Int32) (mo_weighings : Nat → Int32) (mo_weighed : Int32) (mo_book : Nat → Int32) (mo_entries : Int32) (mo_isKept : Nat → Int32) (mo_kept : Nat → Int32) (mo_seeds : Nat → Int32) (x1 : Int32) (x2 : Int32) (r0 : Int32) (z_mo_weighings : Nat → Int32) (z_mo_weighed : Int32) (hres : pX9_weigh x1 x2 mo_told mo_weighings mo_weighed = some (r0, z_mo_weighings, z_mo_weighed)) : krI l yX9_weigh wsX9_weigh { frames := 1, cells := 0, slots := 0, locals := 100 } D κ [.ref moo, .int x1, .int x2] ([(moo, .inr (9, [.ref mo_toldA, .ref mo_stA, .int mo_isThere, .int mo_seed, .ref mo_textA, .int mo_typed, .int mo_faultAt, .int mo_place, .int mo_wrong, .int mo_value, .ref mo_readA, .ref mo_aheadA, .int mo_undoMany, .ref mo_asideA, .ref mo_weighingsA, .int mo_weighed, .ref mo_bookA, .int mo_entries, .ref mo_isKeptA, .ref mo_keptA, .ref mo_seedsA])), (mo_toldA, .inl (κ 0, 37, .inl mo_told)), (mo_stA, .inl (κ 0, 17, .inl mo_st)), (mo_textA, .inl (κ 0, 240, .inl mo_text)), (mo_readA, .inl (κ 0, 37, .inl mo_read)), (mo_aheadA, .inl (κ 0, 340, .inl mo_ahead)), (mo_asideA, .inl (κ 0, 17, .inl mo_aside)), (mo_weighingsA, .inl (κ 0, 12, .inl mo_weighings)), (mo_bookA, .inl (κ 0, 30, .inl mo_book)), (mo_isKeptA, .inl (κ 1, 2, .inl mo_isKept)), (mo_keptA, .inl (κ 0, 34, .inl mo_kept)), (mo_seedsA, .inl (κ 0, 2, .inl mo_seeds))]) ([(moo, .inr (9, [.ref mo_toldA, .ref mo_stA, .int mo_isThere, .int mo_seed, .ref mo_textA, .int mo_typed, .int mo_faultAt, .int mo_place, .int mo_wrong, .int mo_value, .ref mo_readA, .ref mo_aheadA, .int mo_undoMany, .ref mo_asideA, .ref mo_weighingsA, .int z_mo_weighed, .ref mo_bookA, .int mo_entries, .ref mo_isKeptA, .ref mo_keptA, .ref mo_seedsA])), (mo_toldA, .inl (κ 0, 37, .inl mo_told)), (mo_stA, .inl (κ 0, 17, .inl mo_st)), (mo_textA, .inl (κ 0, 240, .inl mo_text)), (mo_readA, .inl (κ 0, 37, .inl mo_read)), (mo_aheadA, .inl (κ 0, 340, .inl mo_ahead)), (mo_asideA, .inl (κ 0, 17, .inl mo_aside)), (mo_weighingsA, .inl (κ 0, 12, .inl z_mo_weighings)), (mo_bookA, .inl (κ 0, 30, .inl mo_book)), (mo_isKeptA, .inl (κ 1, 2, .inl mo_isKept)), (mo_keptA, .inl (κ 0, 34, .inl mo_kept)), (mo_seedsA, .inl (κ 0, 2, .inl mo_seeds))]) r0 := by
  refine krI_of (cc := cX9_weigh) (maxL := 3) (rt := .int) (by decide) rfl (Nat.le_of_ble_eq_true rfl) ?_
  intro p e s m args below meth c A Q ls hx hb hml hown hts hK hA hret hP hD hS hl
  have hown : s.vm.findClass RX9 = some m.cls := hown
  have hl : lv_has ls 3 [(0, .ref moo), (1, .int x1), (2, .int x2)] := hl
  have iw9 : ∀ w ∈ u_ws RX9 TX9 21, w ∈ wsX9_weigh := (fun _ h => List.mem_cons_of_mem _ (List.mem_append_right _ h))
  have k0 : (Cond.fieldLink RX9 7 "KingRansomModel" "told" "[I").before args s = true := hts _ (List.mem_of_getElem? (i := 1) rfl)
  have k1 : (Cond.constantLong RX9 154 (999)).before args s = true := hts _ (List.mem_of_getElem? (i := 3) rfl)
  have k2 : (Cond.fieldLink RX9 113 "KingRansomModel" "weighed" "I").before args s = true := hts _ (List.mem_of_getElem? (i := 5) rfl)
  have k3 : (Cond.fieldLink RX9 32 "KingRansomModel" "weighings" "[I").before args s = true := hts _ (List.mem_of_getElem? (i := 7) rfl)
  have k4 : (Cond.constant RX9 58 (-1000000004)).before args s = true := hts _ (List.mem_of_getElem? (i := 6) rfl)
  have k5 : (Cond.constant RX9 54 (-1000000002)).before args s = true := hts _ (List.mem_of_getElem? (i := 4) rfl)
  have k6 : (Cond.constant RX9 126 (-1000000001)).before args s = true := hts _ (List.mem_of_getElem? (i := 2) rfl)
  unfold pX9_weigh at hres
  refine lv_iload_n hx hb dX9_weigh_0 rfl (lv_at hl 1 rfl) ?_
  refine lv_i2l (v := x1.toInt64) hx hb dX9_weigh_1 rfl ?_
  refine lv_lconst (v := 0) hx hb dX9_weigh_2 (by decide) ?_
  refine lv_iconst (v := 1) hx hb dX9_weigh_3 (by decide) ?_
  refine lv_aload_n hx hb dX9_weigh_4 rfl (lv_at hl 0 rfl) ?_
  refine va_get (D := D) (ci := 9) (v := .ref mo_toldA) (C := RX9) (T := TX9) (N := 21) hx hb hts iw9 hown hK.1 hP 0 rfl rfl 0 (by decide) k0 (fun _ h9 => h9) rfl dX9_weigh_5 ?_
  refine lv_iconst (v := 5) hx hb dX9_weigh_8 (by decide) ?_
  refine kr_iald (f := mo_told) (j := 5) hx hb hK hP 1 rfl (by decide) (by decide) dX9_weigh_9 ?_
  refine lv_ishl hx hb dX9_weigh_10 ?_
  refine lv_iconst (v := 1) hx hb dX9_weigh_11 (by decide) ?_
  refine lv_isub hx hb dX9_weigh_12 ?_
  refine lv_i2l (v := (((1 : Int32) <<< ((mo_told 5) &&& 31)) - 1).toInt64) hx hb dX9_weigh_13 rfl ?_
  obtain ⟨r1, hc2, hres⟩ := kb1_s hres
  refine krI_S0 (As := [.long (x1.toInt64), .long 0, .long ((((1 : Int32) <<< ((mo_told 5) &&& 31)) - 1).toInt64)]) (rest := []) ⟨hx, hb, hml, hown, hts⟩ hK (tX9_in l D κ (x1.toInt64) 0 ((((1 : Int32) <<< ((mo_told 5) &&& 31)) - 1).toInt64) r1 hc2) (va_cwS 3 hts gX9_weigh_X9_in rfl rfl rfl (by decide +kernel) ⟨(Nat.le_of_ble_eq_true rfl), (Nat.le_of_ble_eq_true rfl)⟩) hP hD hS hA rfl hl.1 rfl (Nat.le_of_ble_eq_true rfl) dX9_weigh_14 ⟨Nat.zero_le _, Nat.zero_le _⟩ (fun H locs hP hD hS => ?_)
  refine lv_if_ne (tgt := 23) hx hb dX9_weigh_17 (by decide) (fun c3 => ?_) (fun c3 => ?_)
  · replace hres := og_f c3 hres
    refine lv_iload_n hx hb dX9_weigh_23 rfl (lv_at hl 2 rfl) ?_
    refine lv_i2l (v := x2.toInt64) hx hb dX9_weigh_24 rfl ?_
    refine lv_lconst (v := 0) hx hb dX9_weigh_25 (by decide) ?_
    refine lv_ldc2 (v := 999) hx hb hown k1 dX9_weigh_26 ?_
    obtain ⟨r4, hc5, hres⟩ := kb1_s hres
    refine krI_S0 (As := [.long (x2.toInt64), .long 0, .long 999]) (rest := []) ⟨hx, hb, hml, hown, hts⟩ hK (tX9_in l D κ (x2.toInt64) 0 999 r4 hc5) (va_cwS 3 hts gX9_weigh_X9_in rfl rfl rfl (by decide +kernel) ⟨(Nat.le_of_ble_eq_true rfl), (Nat.le_of_ble_eq_true rfl)⟩) hP hD hS hA rfl hl.1 rfl (Nat.le_of_ble_eq_true rfl) dX9_weigh_29 ⟨Nat.zero_le _, Nat.zero_le _⟩ (fun H locs hP hD hS => ?_)
    refine lv_if_ne (tgt := 38) hx hb dX9_weigh_32 (by decide) (fun c6 => ?_) (fun c6 => ?_)
    · replace hres := og_f c6 hres
      refine lv_aload_n hx hb dX9_weigh_38 rfl (lv_at hl 0 rfl) ?_
      refine va_get (D := D) (ci := 9) (v := .int mo_weighed) (C := RX9) (T := TX9) (N := 21) hx hb hts iw9 hown hK.1 hP 0 rfl rfl 15 (by decide) k2 (fun _ h9 => h9) rfl dX9_weigh_39 ?_
      refine lv_bipush (v := 6) hx hb dX9_weigh_42 (by decide) ?_
      refine lv_icmp_ne (tgt := 50) hx hb dX9_weigh_44 (by decide) (fun c7 => ?_) (fun c7 => ?_)
      · replace hres := og_f c7 hres
        refine lv_aload_n hx hb dX9_weigh_50 rfl (lv_at hl 0 rfl) ?_
        refine va_get (D := D) (ci := 9) (v := .ref mo_weighingsA) (C := RX9) (T := TX9) (N := 21) hx hb hts iw9 hown hK.1 hP 0 rfl rfl 14 (by decide) k3 (fun _ h9 => h9) rfl dX9_weigh_51 ?_
        refine lv_iconst (v := 2) hx hb dX9_weigh_54 (by decide) ?_
        refine lv_aload_n hx hb dX9_weigh_55 rfl (lv_at hl 0 rfl) ?_
        refine va_get (D := D) (ci := 9) (v := .int mo_weighed) (C := RX9) (T := TX9) (N := 21) hx hb hts iw9 hown hK.1 hP 0 rfl rfl 15 (by decide) k2 (fun _ h9 => h9) rfl dX9_weigh_56 ?_
        refine lv_imul hx hb dX9_weigh_59 ?_
        refine lv_iload_n hx hb dX9_weigh_60 rfl (lv_at hl 1 rfl) ?_
        obtain ⟨g8, hres⟩ := og_no hres
        refine kr_iast (f := mo_weighings) (j := (2 * mo_weighed).toNatClampNeg) (x := x1) hx hb hK hP hD hS 7 rfl g8 rfl dX9_weigh_61 (fun H locs hP hD hS => ?_)
        have hP : va_P D vwCl ([(moo, .inr (9, [.ref mo_toldA, .ref mo_stA, .int mo_isThere, .int mo_seed, .ref mo_textA, .int mo_typed, .int mo_faultAt, .int mo_place, .int mo_wrong, .int mo_value, .ref mo_readA, .ref mo_aheadA, .int mo_undoMany, .ref mo_asideA, .ref mo_weighingsA, .int mo_weighed, .ref mo_bookA, .int mo_entries, .ref mo_isKeptA, .ref mo_keptA, .ref mo_seedsA])), (mo_toldA, .inl (κ 0, 37, .inl mo_told)), (mo_stA, .inl (κ 0, 17, .inl mo_st)), (mo_textA, .inl (κ 0, 240, .inl mo_text)), (mo_readA, .inl (κ 0, 37, .inl mo_read)), (mo_aheadA, .inl (κ 0, 340, .inl mo_ahead)), (mo_asideA, .inl (κ 0, 17, .inl mo_aside)), (mo_weighingsA, .inl (κ 0, 12, .inl (upd mo_weighings ((2 * mo_weighed).toNatClampNeg) x1))), (mo_bookA, .inl (κ 0, 30, .inl mo_book)), (mo_isKeptA, .inl (κ 1, 2, .inl mo_isKept)), (mo_keptA, .inl (κ 0, 34, .inl mo_kept)), (mo_seedsA, .inl (κ 0, 2, .inl mo_seeds))]) H := hP
        have hD : va_D A ([(moo, .inr (9, [.ref mo_toldA, .ref mo_stA, .int mo_isThere, .int mo_seed, .ref mo_textA, .int mo_typed, .int mo_faultAt, .int mo_place, .int mo_wrong, .int mo_value, .ref mo_readA, .ref mo_aheadA, .int mo_undoMany, .ref mo_asideA, .ref mo_weighingsA, .int mo_weighed, .ref mo_bookA, .int mo_entries, .ref mo_isKeptA, .ref mo_keptA, .ref mo_seedsA])), (mo_toldA, .inl (κ 0, 37, .inl mo_told)), (mo_stA, .inl (κ 0, 17, .inl mo_st)), (mo_textA, .inl (κ 0, 240, .inl mo_text)), (mo_readA, .inl (κ 0, 37, .inl mo_read)), (mo_aheadA, .inl (κ 0, 340, .inl mo_ahead)), (mo_asideA, .inl (κ 0, 17, .inl mo_aside)), (mo_weighingsA, .inl (κ 0, 12, .inl (upd mo_weighings ((2 * mo_weighed).toNatClampNeg) x1))), (mo_bookA, .inl (κ 0, 30, .inl mo_book)), (mo_isKeptA, .inl (κ 1, 2, .inl mo_isKept)), (mo_keptA, .inl (κ 0, 34, .inl mo_kept)), (mo_seedsA, .inl (κ 0, 2, .inl mo_seeds))]) := hD
        refine lv_aload_n hx hb dX9_weigh_62 rfl (lv_at hl 0 rfl) ?_
        refine va_get (D := D) (ci := 9) (v := .ref mo_weighingsA) (C := RX9) (T := TX9) (N := 21) hx hb hts iw9 hown hK.1 hP 0 rfl rfl 14 (by decide) k3 (fun _ h9 => h9) rfl dX9_weigh_63 ?_
        refine lv_iconst (v := 2) hx hb dX9_weigh_66 (by decide) ?_
        refine lv_aload_n hx hb dX9_weigh_67 rfl (lv_at hl 0 rfl) ?_
        refine va_get (D := D) (ci := 9) (v := .int mo_weighed) (C := RX9) (T := TX9) (N := 21) hx hb hts iw9 hown hK.1 hP 0 rfl rfl 15 (by decide) k2 (fun _ h9 => h9) rfl dX9_weigh_68 ?_
        refine lv_imul hx hb dX9_weigh_71 ?_
        refine lv_iconst (v := 1) hx hb dX9_weigh_72 (by decide) ?_
        refine lv_iadd hx hb dX9_weigh_73 ?_
        refine lv_iload_n hx hb dX9_weigh_74 rfl (lv_at hl 2 rfl) ?_
        obtain ⟨g9, hres⟩ := og_no hres
        refine kr_iast (f := (upd mo_weighings ((2 * mo_weighed).toNatClampNeg) x1)) (j := ((2 * mo_weighed) + 1).toNatClampNeg) (x := x2) hx hb hK hP hD hS 7 rfl g9 rfl dX9_weigh_75 (fun H locs hP hD hS => ?_)
        have hP : va_P D vwCl ([(moo, .inr (9, [.ref mo_toldA, .ref mo_stA, .int mo_isThere, .int mo_seed, .ref mo_textA, .int mo_typed, .int mo_faultAt, .int mo_place, .int mo_wrong, .int mo_value, .ref mo_readA, .ref mo_aheadA, .int mo_undoMany, .ref mo_asideA, .ref mo_weighingsA, .int mo_weighed, .ref mo_bookA, .int mo_entries, .ref mo_isKeptA, .ref mo_keptA, .ref mo_seedsA])), (mo_toldA, .inl (κ 0, 37, .inl mo_told)), (mo_stA, .inl (κ 0, 17, .inl mo_st)), (mo_textA, .inl (κ 0, 240, .inl mo_text)), (mo_readA, .inl (κ 0, 37, .inl mo_read)), (mo_aheadA, .inl (κ 0, 340, .inl mo_ahead)), (mo_asideA, .inl (κ 0, 17, .inl mo_aside)), (mo_weighingsA, .inl (κ 0, 12, .inl (upd (upd mo_weighings ((2 * mo_weighed).toNatClampNeg) x1) (((2 * mo_weighed) + 1).toNatClampNeg) x2))), (mo_bookA, .inl (κ 0, 30, .inl mo_book)), (mo_isKeptA, .inl (κ 1, 2, .inl mo_isKept)), (mo_keptA, .inl (κ 0, 34, .inl mo_kept)), (mo_seedsA, .inl (κ 0, 2, .inl mo_seeds))]) H := hP
        have hD : va_D A ([(moo, .inr (9, [.ref mo_toldA, .ref mo_stA, .int mo_isThere, .int mo_seed, .ref mo_textA, .int mo_typed, .int mo_faultAt, .int mo_place, .int mo_wrong, .int mo_value, .ref mo_readA, .ref mo_aheadA, .int mo_undoMany, .ref mo_asideA, .ref mo_weighingsA, .int mo_weighed, .ref mo_bookA, .int mo_entries, .ref mo_isKeptA, .ref mo_keptA, .ref mo_seedsA])), (mo_toldA, .inl (κ 0, 37, .inl mo_told)), (mo_stA, .inl (κ 0, 17, .inl mo_st)), (mo_textA, .inl (κ 0, 240, .inl mo_text)), (mo_readA, .inl (κ 0, 37, .inl mo_read)), (mo_aheadA, .inl (κ 0, 340, .inl mo_ahead)), (mo_asideA, .inl (κ 0, 17, .inl mo_aside)), (mo_weighingsA, .inl (κ 0, 12, .inl (upd (upd mo_weighings ((2 * mo_weighed).toNatClampNeg) x1) (((2 * mo_weighed) + 1).toNatClampNeg) x2))), (mo_bookA, .inl (κ 0, 30, .inl mo_book)), (mo_isKeptA, .inl (κ 1, 2, .inl mo_isKept)), (mo_keptA, .inl (κ 0, 34, .inl mo_kept)), (mo_seedsA, .inl (κ 0, 2, .inl mo_seeds))]) := hD
        refine lv_aload_n hx hb dX9_weigh_76 rfl (lv_at hl 0 rfl) ?_
        refine lv_dup hx hb dX9_weigh_77 rfl ?_
        refine va_get (D := D) (ci := 9) (v := .int mo_weighed) (C := RX9) (T := TX9) (N := 21) hx hb hts iw9 hown hK.1 hP 0 rfl rfl 15 (by decide) k2 (fun _ h9 => h9) rfl dX9_weigh_78 ?_
        refine lv_iconst (v := 1) hx hb dX9_weigh_81 (by decide) ?_
        refine lv_iadd hx hb dX9_weigh_82 ?_
        refine va_put (D := D) (ci := 9) (v := .int (mo_weighed + 1)) (ty := .int) (C := RX9) (T := TX9) (N := 21) hx hb hts iw9 tyX9 tyX9_ok nmX9 hown hK.1 hP hD hS 0 rfl rfl 15 (by decide) k2 (fun _ h9 => h9) rfl (tyX9_ok 15 (by decide)) rfl rfl (Nat.le_of_ble_eq_true rfl) dX9_weigh_83 (fun H locs hP hD hS => ?_)
        have hP : va_P D vwCl ([(moo, .inr (9, [.ref mo_toldA, .ref mo_stA, .int mo_isThere, .int mo_seed, .ref mo_textA, .int mo_typed, .int mo_faultAt, .int mo_place, .int mo_wrong, .int mo_value, .ref mo_readA, .ref mo_aheadA, .int mo_undoMany, .ref mo_asideA, .ref mo_weighingsA, .int (mo_weighed + 1), .ref mo_bookA, .int mo_entries, .ref mo_isKeptA, .ref mo_keptA, .ref mo_seedsA])), (mo_toldA, .inl (κ 0, 37, .inl mo_told)), (mo_stA, .inl (κ 0, 17, .inl mo_st)), (mo_textA, .inl (κ 0, 240, .inl mo_text)), (mo_readA, .inl (κ 0, 37, .inl mo_read)), (mo_aheadA, .inl (κ 0, 340, .inl mo_ahead)), (mo_asideA, .inl (κ 0, 17, .inl mo_aside)), (mo_weighingsA, .inl (κ 0, 12, .inl (upd (upd mo_weighings ((2 * mo_weighed).toNatClampNeg) x1) (((2 * mo_weighed) + 1).toNatClampNeg) x2))), (mo_bookA, .inl (κ 0, 30, .inl mo_book)), (mo_isKeptA, .inl (κ 1, 2, .inl mo_isKept)), (mo_keptA, .inl (κ 0, 34, .inl mo_kept)), (mo_seedsA, .inl (κ 0, 2, .inl mo_seeds))]) H := hP
        have hD : va_D A ([(moo, .inr (9, [.ref mo_toldA, .ref mo_stA, .int mo_isThere, .int mo_seed, .ref mo_textA, .int mo_typed, .int mo_faultAt, .int mo_place, .int mo_wrong, .int mo_value, .ref mo_readA, .ref mo_aheadA, .int mo_undoMany, .ref mo_asideA, .ref mo_weighingsA, .int (mo_weighed + 1), .ref mo_bookA, .int mo_entries, .ref mo_isKeptA, .ref mo_keptA, .ref mo_seedsA])), (mo_toldA, .inl (κ 0, 37, .inl mo_told)), (mo_stA, .inl (κ 0, 17, .inl mo_st)), (mo_textA, .inl (κ 0, 240, .inl mo_text)), (mo_readA, .inl (κ 0, 37, .inl mo_read)), (mo_aheadA, .inl (κ 0, 340, .inl mo_ahead)), (mo_asideA, .inl (κ 0, 17, .inl mo_aside)), (mo_weighingsA, .inl (κ 0, 12, .inl (upd (upd mo_weighings ((2 * mo_weighed).toNatClampNeg) x1) (((2 * mo_weighed) + 1).toNatClampNeg) x2))), (mo_bookA, .inl (κ 0, 30, .inl mo_book)), (mo_isKeptA, .inl (κ 1, 2, .inl mo_isKept)), (mo_keptA, .inl (κ 0, 34, .inl mo_kept)), (mo_seedsA, .inl (κ 0, 2, .inl mo_seeds))]) := hD
        refine lv_aload_n hx hb dX9_weigh_86 rfl (lv_at hl 0 rfl) ?_
        refine va_get (D := D) (ci := 9) (v := .int (mo_weighed + 1)) (C := RX9) (T := TX9) (N := 21) hx hb hts iw9 hown hK.1 hP 0 rfl rfl 15 (by decide) k2 (fun _ h9 => h9) rfl dX9_weigh_87 ?_
        have hres := Option.some.inj hres
        have h0 := (Prod.mk.inj hres).1
        replace hres := (Prod.mk.inj hres).2
        have h1 := (Prod.mk.inj hres).1
        replace hres := (Prod.mk.inj hres).2
        have h2 := hres
        subst h0
        subst h1
        subst h2
        exact hret _ _ _ _ (vp_nar_int _) hP hD hS dX9_weigh_90
      · replace hres := og_t c7 hres
        refine lv_ldc (v := (-1000000004)) hx hb hown k4 dX9_weigh_47 ?_
        have hres := Option.some.inj hres
        have h0 := (Prod.mk.inj hres).1
        replace hres := (Prod.mk.inj hres).2
        have h1 := (Prod.mk.inj hres).1
        replace hres := (Prod.mk.inj hres).2
        have h2 := hres
        subst h0
        subst h1
        subst h2
        exact hret _ _ _ _ (vp_nar_int _) hP hD hS dX9_weigh_49
    · replace hres := og_t c6 hres
      refine lv_ldc (v := (-1000000002)) hx hb hown k5 dX9_weigh_35 ?_
      have hres := Option.some.inj hres
      have h0 := (Prod.mk.inj hres).1
      replace hres := (Prod.mk.inj hres).2
      have h1 := (Prod.mk.inj hres).1
      replace hres := (Prod.mk.inj hres).2
      have h2 := hres
      subst h0
      subst h1
      subst h2
      exact hret _ _ _ _ (vp_nar_int _) hP hD hS dX9_weigh_37
  · replace hres := og_t c3 hres
    refine lv_ldc (v := (-1000000001)) hx hb hown k6 dX9_weigh_20 ?_
    have hres := Option.some.inj hres
    have h0 := (Prod.mk.inj hres).1
    replace hres := (Prod.mk.inj hres).2
    have h1 := (Prod.mk.inj hres).1
    replace hres := (Prod.mk.inj hres).2
    have h2 := hres
    subst h0
    subst h1
    subst h2
    exact hret _ _ _ _ (vp_nar_int _) hP hD hS dX9_weigh_22

def pX9_weightBy (N : Nat) (x1 : Int32) (x2 : Int32) (x3 : Int32) (mo_told : Nat → Int32) : Option (Int32) :=
    kb1 (pX9_ones N x1) fun r1 =>
    kb1 (pX9_has x1 x2) fun r3 =>
    (if r3 = 0 then
    some ((((mo_told 6) * r1) - 0))
    else
    some ((((mo_told 6) * r1) - x3)))
set_option maxHeartbeats 8000000 in
set_option maxRecDepth 100000 in
theorem tX9_weightBy (l : Launch) (D : va_G) (κ : Nat → ClassId) (moo : Nat) (mo_toldA : Nat) (mo_stA : Nat) (mo_textA : Nat) (mo_readA : Nat) (mo_aheadA : Nat) (mo_asideA : Nat) (mo_weighingsA : Nat) (mo_bookA : Nat) (mo_isKeptA : Nat) (mo_keptA : Nat) (mo_seedsA : Nat) (N : Nat) (mo_told : Nat → Int32) (mo_st : Nat → Int32) (mo_isThere : Int32) (mo_seed : Int32) (mo_text : Nat → Int32) (mo_typed : Int32) (mo_faultAt : Int32) (mo_place : Int32) (mo_wrong : Int32) (mo_value : Int32) (mo_read : Nat → Int32) (mo_ahead : Nat → Int32) (mo_undoMany : Int32) (mo_aside : Nat → Int32) (mo_weighings : Nat → Int32) (mo_weighed : Int32) (mo_book : Nat → Int32) (mo_entries : Int32) (mo_isKept : Nat → Int32) (mo_kept : Nat → Int32) (mo_seeds : Nat → Int32) (x1 : Int32) (x2 : Int32) (x3 : Int32) (r0 : Int32) (hres : pX9_weightBy N x1 x2 x3 mo_told = some (r0)) : krI l yX9_weightBy wsX9_weightBy { frames := 1, cells := 0, slots := 0, locals := 100 } D κ [.ref moo, .int x1, .int x2, .int x3] ([(moo, .inr (9, [.ref mo_toldA, .ref mo_stA, .int mo_isThere, .int mo_seed, .ref mo_textA, .int mo_typed, .int mo_faultAt, .int mo_place, .int mo_wrong, .int mo_value, .ref mo_readA, .ref mo_aheadA, .int mo_undoMany, .ref mo_asideA, .ref mo_weighingsA, .int mo_weighed, .ref mo_bookA, .int mo_entries, .ref mo_isKeptA, .ref mo_keptA, .ref mo_seedsA])), (mo_toldA, .inl (κ 0, 37, .inl mo_told)), (mo_stA, .inl (κ 0, 17, .inl mo_st)), (mo_textA, .inl (κ 0, 240, .inl mo_text)), (mo_readA, .inl (κ 0, 37, .inl mo_read)), (mo_aheadA, .inl (κ 0, 340, .inl mo_ahead)), (mo_asideA, .inl (κ 0, 17, .inl mo_aside)), (mo_weighingsA, .inl (κ 0, 12, .inl mo_weighings)), (mo_bookA, .inl (κ 0, 30, .inl mo_book)), (mo_isKeptA, .inl (κ 1, 2, .inl mo_isKept)), (mo_keptA, .inl (κ 0, 34, .inl mo_kept)), (mo_seedsA, .inl (κ 0, 2, .inl mo_seeds))]) ([(moo, .inr (9, [.ref mo_toldA, .ref mo_stA, .int mo_isThere, .int mo_seed, .ref mo_textA, .int mo_typed, .int mo_faultAt, .int mo_place, .int mo_wrong, .int mo_value, .ref mo_readA, .ref mo_aheadA, .int mo_undoMany, .ref mo_asideA, .ref mo_weighingsA, .int mo_weighed, .ref mo_bookA, .int mo_entries, .ref mo_isKeptA, .ref mo_keptA, .ref mo_seedsA])), (mo_toldA, .inl (κ 0, 37, .inl mo_told)), (mo_stA, .inl (κ 0, 17, .inl mo_st)), (mo_textA, .inl (κ 0, 240, .inl mo_text)), (mo_readA, .inl (κ 0, 37, .inl mo_read)), (mo_aheadA, .inl (κ 0, 340, .inl mo_ahead)), (mo_asideA, .inl (κ 0, 17, .inl mo_aside)), (mo_weighingsA, .inl (κ 0, 12, .inl mo_weighings)), (mo_bookA, .inl (κ 0, 30, .inl mo_book)), (mo_isKeptA, .inl (κ 1, 2, .inl mo_isKept)), (mo_keptA, .inl (κ 0, 34, .inl mo_kept)), (mo_seedsA, .inl (κ 0, 2, .inl mo_seeds))]) r0 := by
  refine krI_of (cc := cX9_weightBy) (maxL := 4) (rt := .int) (by decide) rfl (Nat.le_of_ble_eq_true rfl) ?_
  intro p e s m args below meth c A Q ls hx hb hml hown hts hK hA hret hP hD hS hl
  have hown : s.vm.findClass RX9 = some m.cls := hown
  have hl : lv_has ls 4 [(0, .ref moo), (1, .int x1), (2, .int x2), (3, .int x3)] := hl
  have iw9 : ∀ w ∈ u_ws RX9 TX9 21, w ∈ wsX9_weightBy := (fun _ h => List.mem_cons_of_mem _ (List.mem_append_right _ h))
  have k0 : (Cond.fieldLink RX9 7 "KingRansomModel" "told" "[I").before args s = true := hts _ (List.mem_of_getElem? (i := 1) rfl)
  unfold pX9_weightBy at hres
  refine lv_aload_n hx hb dX9_weightBy_0 rfl (lv_at hl 0 rfl) ?_
  refine va_get (D := D) (ci := 9) (v := .ref mo_toldA) (C := RX9) (T := TX9) (N := 21) hx hb hts iw9 hown hK.1 hP 0 rfl rfl 0 (by decide) k0 (fun _ h9 => h9) rfl dX9_weightBy_1 ?_
  refine lv_bipush (v := 6) hx hb dX9_weightBy_4 (by decide) ?_
  refine kr_iald (f := mo_told) (j := 6) hx hb hK hP 1 rfl (by decide) (by decide) dX9_weightBy_6 ?_
  refine lv_iload_n hx hb dX9_weightBy_7 rfl (lv_at hl 1 rfl) ?_
  obtain ⟨r1, hc2, hres⟩ := kb1_s hres
  refine krI_S0 (As := [.int x1]) (rest := [.int (mo_told 6)]) ⟨hx, hb, hml, hown, hts⟩ hK (tX9_ones l D κ N x1 r1 hc2) (va_cwS 1 hts gX9_weightBy_X9_ones rfl rfl rfl (by decide +kernel) ⟨(Nat.le_of_ble_eq_true rfl), (Nat.le_of_ble_eq_true rfl)⟩) hP hD hS hA rfl hl.1 rfl (Nat.le_of_ble_eq_true rfl) dX9_weightBy_8 ⟨Nat.zero_le _, Nat.zero_le _⟩ (fun H locs hP hD hS => ?_)
  refine lv_imul hx hb dX9_weightBy_11 ?_
  refine lv_iload_n hx hb dX9_weightBy_12 rfl (lv_at hl 1 rfl) ?_
  refine lv_iload_n hx hb dX9_weightBy_13 rfl (lv_at hl 2 rfl) ?_
  obtain ⟨r3, hc4, hres⟩ := kb1_s hres
  refine krI_S0 (As := [.int x1, .int x2]) (rest := [.int ((mo_told 6) * r1)]) ⟨hx, hb, hml, hown, hts⟩ hK (tX9_has l D κ x1 x2 r3 hc4) (va_cwS 2 hts gX9_weightBy_X9_has rfl rfl rfl (by decide +kernel) ⟨(Nat.le_of_ble_eq_true rfl), (Nat.le_of_ble_eq_true rfl)⟩) hP hD hS hA rfl hl.1 rfl (Nat.le_of_ble_eq_true rfl) dX9_weightBy_14 ⟨Nat.zero_le _, Nat.zero_le _⟩ (fun H locs hP hD hS => ?_)
  refine lv_if_eq (tgt := 24) hx hb dX9_weightBy_17 (by decide) (fun c5 => ?_) (fun c5 => ?_)
  · replace hres := og_t c5 hres
    refine lv_iconst (v := 0) hx hb dX9_weightBy_24 (by decide) ?_
    refine lv_isub hx hb dX9_weightBy_25 ?_
    have hres := Option.some.inj hres
    have h0 := hres
    subst h0
    exact hret _ _ _ _ (vp_nar_int _) hP hD hS dX9_weightBy_26
  · replace hres := og_f c5 hres
    refine lv_iload_n hx hb dX9_weightBy_20 rfl (lv_at hl 3 rfl) ?_
    refine lv_goto (tgt := 25) hx hb dX9_weightBy_21 (by decide) ?_
    refine lv_isub hx hb dX9_weightBy_25 ?_
    have hres := Option.some.inj hres
    have h0 := hres
    subst h0
    exact hret _ _ _ _ (vp_nar_int _) hP hD hS dX9_weightBy_26

def pX9_canBe_L67 (k20 : Int32 → Int32 → Option (Int32)) (v4 : Int32) (s0 : Int32) : Option (Int32) :=
    k20 s0 (v4 + 1)
def pX9_canBe_L66 (k20 : Int32 → Int32 → Option (Int32)) (v4 : Int32) : Option (Int32) :=
    pX9_canBe_L67 k20 v4 0
def pX9_canBe_L20 (N : Nat) (x1 : Int32) (x2 : Int32) (mo_told : Nat → Int32) (mo_weighings : Nat → Int32) (mo_weighed : Int32) : Nat → Int32 → Int32 → Option (Int32)
  | 0, _, _ => none
  | n20 + 1, v3, v4 =>
    (if mo_weighed ≤ v4 then
    if ¬ (v3 = 0 ∨ v3 = 1) then none else
    some (v3)
    else
    (if v3 = 0 then
    pX9_canBe_L66 (pX9_canBe_L20 N x1 x2 mo_told mo_weighings mo_weighed n20) v4
    else
    if (2 * v4) < 0 ∨ 12 ≤ (2 * v4).toNatClampNeg then none else
    kb1 (pX9_weightBy N (mo_weighings ((2 * v4).toNatClampNeg)) x1 x2 mo_told) fun r6 =>
    if ((2 * v4) + 1) < 0 ∨ 12 ≤ ((2 * v4) + 1).toNatClampNeg then none else
    (if r6 = (mo_weighings (((2 * v4) + 1).toNatClampNeg)) then
    pX9_canBe_L67 (pX9_canBe_L20 N x1 x2 mo_told mo_weighings mo_weighed n20) v4 1
    else
    pX9_canBe_L66 (pX9_canBe_L20 N x1 x2 mo_told mo_weighings mo_weighed n20) v4)))
def pX9_canBe_L16 (N : Nat) (x1 : Int32) (x2 : Int32) (mo_told : Nat → Int32) (mo_weighings : Nat → Int32) (mo_weighed : Int32) (s0 : Int32) : Option (Int32) :=
    pX9_canBe_L20 N x1 x2 mo_told mo_weighings mo_weighed N s0 0
def pX9_canBe (N : Nat) (x1 : Int32) (x2 : Int32) (mo_told : Nat → Int32) (mo_weighings : Nat → Int32) (mo_weighed : Int32) : Option (Int32) :=
    (if (mo_told 6) < x2 then
    pX9_canBe_L16 N x1 x2 mo_told mo_weighings mo_weighed 0
    else
    pX9_canBe_L16 N x1 x2 mo_told mo_weighings mo_weighed 1)
set_option maxHeartbeats 8000000 in
set_option maxRecDepth 100000 in
theorem tX9_canBe (l : Launch) (D : va_G) (κ : Nat → ClassId) (moo : Nat) (mo_toldA : Nat) (mo_stA : Nat) (mo_textA : Nat) (mo_readA : Nat) (mo_aheadA : Nat) (mo_asideA : Nat) (mo_weighingsA : Nat) (mo_bookA : Nat) (mo_isKeptA : Nat) (mo_keptA : Nat) (mo_seedsA : Nat) (N : Nat) (mo_told : Nat → Int32) (mo_st : Nat → Int32) (mo_isThere : Int32) (mo_seed : Int32) (mo_text : Nat → Int32) (mo_typed : Int32) (mo_faultAt : Int32) (mo_place : Int32) (mo_wrong : Int32) (mo_value : Int32) (mo_read : Nat → Int32) (mo_ahead : Nat → Int32) (mo_undoMany : Int32) (mo_aside : Nat → Int32) (mo_weighings : Nat → Int32) (mo_weighed : Int32) (mo_book : Nat → Int32) (mo_entries : Int32) (mo_isKept : Nat → Int32) (mo_kept : Nat → Int32) (mo_seeds : Nat → Int32) (x1 : Int32) (x2 : Int32) (r0 : Int32) (hres : pX9_canBe N x1 x2 mo_told mo_weighings mo_weighed = some (r0)) : krI l yX9_canBe wsX9_canBe { frames := 2, cells := 0, slots := 0, locals := 200 } D κ [.ref moo, .int x1, .int x2] ([(moo, .inr (9, [.ref mo_toldA, .ref mo_stA, .int mo_isThere, .int mo_seed, .ref mo_textA, .int mo_typed, .int mo_faultAt, .int mo_place, .int mo_wrong, .int mo_value, .ref mo_readA, .ref mo_aheadA, .int mo_undoMany, .ref mo_asideA, .ref mo_weighingsA, .int mo_weighed, .ref mo_bookA, .int mo_entries, .ref mo_isKeptA, .ref mo_keptA, .ref mo_seedsA])), (mo_toldA, .inl (κ 0, 37, .inl mo_told)), (mo_stA, .inl (κ 0, 17, .inl mo_st)), (mo_textA, .inl (κ 0, 240, .inl mo_text)), (mo_readA, .inl (κ 0, 37, .inl mo_read)), (mo_aheadA, .inl (κ 0, 340, .inl mo_ahead)), (mo_asideA, .inl (κ 0, 17, .inl mo_aside)), (mo_weighingsA, .inl (κ 0, 12, .inl mo_weighings)), (mo_bookA, .inl (κ 0, 30, .inl mo_book)), (mo_isKeptA, .inl (κ 1, 2, .inl mo_isKept)), (mo_keptA, .inl (κ 0, 34, .inl mo_kept)), (mo_seedsA, .inl (κ 0, 2, .inl mo_seeds))]) ([(moo, .inr (9, [.ref mo_toldA, .ref mo_stA, .int mo_isThere, .int mo_seed, .ref mo_textA, .int mo_typed, .int mo_faultAt, .int mo_place, .int mo_wrong, .int mo_value, .ref mo_readA, .ref mo_aheadA, .int mo_undoMany, .ref mo_asideA, .ref mo_weighingsA, .int mo_weighed, .ref mo_bookA, .int mo_entries, .ref mo_isKeptA, .ref mo_keptA, .ref mo_seedsA])), (mo_toldA, .inl (κ 0, 37, .inl mo_told)), (mo_stA, .inl (κ 0, 17, .inl mo_st)), (mo_textA, .inl (κ 0, 240, .inl mo_text)), (mo_readA, .inl (κ 0, 37, .inl mo_read)), (mo_aheadA, .inl (κ 0, 340, .inl mo_ahead)), (mo_asideA, .inl (κ 0, 17, .inl mo_aside)), (mo_weighingsA, .inl (κ 0, 12, .inl mo_weighings)), (mo_bookA, .inl (κ 0, 30, .inl mo_book)), (mo_isKeptA, .inl (κ 1, 2, .inl mo_isKept)), (mo_keptA, .inl (κ 0, 34, .inl mo_kept)), (mo_seedsA, .inl (κ 0, 2, .inl mo_seeds))]) r0 := by
  refine krI_of (cc := cX9_canBe) (maxL := 5) (rt := .boolean) (by decide) rfl (Nat.le_of_ble_eq_true rfl) ?_
  intro p e s m args below meth c A Q ls hx hb hml hown hts hK hA hret hP hD hS hl
  have hown : s.vm.findClass RX9 = some m.cls := hown
  have hl : lv_has ls 5 [(0, .ref moo), (1, .int x1), (2, .int x2)] := hl
  have iw9 : ∀ w ∈ u_ws RX9 TX9 21, w ∈ wsX9_canBe := (fun _ h => List.mem_cons_of_mem _ (List.mem_append_right _ h))
  have k0 : (Cond.fieldLink RX9 7 "KingRansomModel" "told" "[I").before args s = true := hts _ (List.mem_of_getElem? (i := 1) rfl)
  have k1 : (Cond.fieldLink RX9 113 "KingRansomModel" "weighed" "I").before args s = true := hts _ (List.mem_of_getElem? (i := 2) rfl)
  have k2 : (Cond.fieldLink RX9 32 "KingRansomModel" "weighings" "[I").before args s = true := hts _ (List.mem_of_getElem? (i := 3) rfl)
  have L20 : ∀ (n20 : Nat) (v3 : Int32) (v4 : Int32) (H : Heap) (locs : List Loc) (ls : Array Slot), va_P D vwCl ([(moo, .inr (9, [.ref mo_toldA, .ref mo_stA, .int mo_isThere, .int mo_seed, .ref mo_textA, .int mo_typed, .int mo_faultAt, .int mo_place, .int mo_wrong, .int mo_value, .ref mo_readA, .ref mo_aheadA, .int mo_undoMany, .ref mo_asideA, .ref mo_weighingsA, .int mo_weighed, .ref mo_bookA, .int mo_entries, .ref mo_isKeptA, .ref mo_keptA, .ref mo_seedsA])), (mo_toldA, .inl (κ 0, 37, .inl mo_told)), (mo_stA, .inl (κ 0, 17, .inl mo_st)), (mo_textA, .inl (κ 0, 240, .inl mo_text)), (mo_readA, .inl (κ 0, 37, .inl mo_read)), (mo_aheadA, .inl (κ 0, 340, .inl mo_ahead)), (mo_asideA, .inl (κ 0, 17, .inl mo_aside)), (mo_weighingsA, .inl (κ 0, 12, .inl mo_weighings)), (mo_bookA, .inl (κ 0, 30, .inl mo_book)), (mo_isKeptA, .inl (κ 1, 2, .inl mo_isKept)), (mo_keptA, .inl (κ 0, 34, .inl mo_kept)), (mo_seedsA, .inl (κ 0, 2, .inl mo_seeds))]) H → va_D A ([(moo, .inr (9, [.ref mo_toldA, .ref mo_stA, .int mo_isThere, .int mo_seed, .ref mo_textA, .int mo_typed, .int mo_faultAt, .int mo_place, .int mo_wrong, .int mo_value, .ref mo_readA, .ref mo_aheadA, .int mo_undoMany, .ref mo_asideA, .ref mo_weighingsA, .int mo_weighed, .ref mo_bookA, .int mo_entries, .ref mo_isKeptA, .ref mo_keptA, .ref mo_seedsA])), (mo_toldA, .inl (κ 0, 37, .inl mo_told)), (mo_stA, .inl (κ 0, 17, .inl mo_st)), (mo_textA, .inl (κ 0, 240, .inl mo_text)), (mo_readA, .inl (κ 0, 37, .inl mo_read)), (mo_aheadA, .inl (κ 0, 340, .inl mo_ahead)), (mo_asideA, .inl (κ 0, 17, .inl mo_aside)), (mo_weighingsA, .inl (κ 0, 12, .inl mo_weighings)), (mo_bookA, .inl (κ 0, 30, .inl mo_book)), (mo_isKeptA, .inl (κ 1, 2, .inl mo_isKept)), (mo_keptA, .inl (κ 0, 34, .inl mo_kept)), (mo_seedsA, .inl (κ 0, 2, .inl mo_seeds))]) → va_S A s.heap H locs → lv_has ls 5 [(0, .ref moo), (1, .int x1), (2, .int x2), (3, .int v3), (4, .int v4)] → pX9_canBe_L20 N x1 x2 mo_told mo_weighings mo_weighed n20 v3 v4 = some (r0) → W p l e { frames := 2, cells := 0, slots := 0, locals := 200 } s m args below meth c H locs 0 0 Q (F0 m 20 ls []) := by
    intro n20
    induction n20 with
    | zero =>
      intro v3 v4 H locs ls hP hD hS hl hres
      exact absurd (show none = some _ from hres) (by simp)
    | succ n20 ih20 =>
      intro v3 v4 H locs ls hP hD hS hl hres
      have L67 : ∀ (v4 : Int32) (s0 : Int32) (H : Heap) (locs : List Loc) (ls : Array Slot), va_P D vwCl ([(moo, .inr (9, [.ref mo_toldA, .ref mo_stA, .int mo_isThere, .int mo_seed, .ref mo_textA, .int mo_typed, .int mo_faultAt, .int mo_place, .int mo_wrong, .int mo_value, .ref mo_readA, .ref mo_aheadA, .int mo_undoMany, .ref mo_asideA, .ref mo_weighingsA, .int mo_weighed, .ref mo_bookA, .int mo_entries, .ref mo_isKeptA, .ref mo_keptA, .ref mo_seedsA])), (mo_toldA, .inl (κ 0, 37, .inl mo_told)), (mo_stA, .inl (κ 0, 17, .inl mo_st)), (mo_textA, .inl (κ 0, 240, .inl mo_text)), (mo_readA, .inl (κ 0, 37, .inl mo_read)), (mo_aheadA, .inl (κ 0, 340, .inl mo_ahead)), (mo_asideA, .inl (κ 0, 17, .inl mo_aside)), (mo_weighingsA, .inl (κ 0, 12, .inl mo_weighings)), (mo_bookA, .inl (κ 0, 30, .inl mo_book)), (mo_isKeptA, .inl (κ 1, 2, .inl mo_isKept)), (mo_keptA, .inl (κ 0, 34, .inl mo_kept)), (mo_seedsA, .inl (κ 0, 2, .inl mo_seeds))]) H → va_D A ([(moo, .inr (9, [.ref mo_toldA, .ref mo_stA, .int mo_isThere, .int mo_seed, .ref mo_textA, .int mo_typed, .int mo_faultAt, .int mo_place, .int mo_wrong, .int mo_value, .ref mo_readA, .ref mo_aheadA, .int mo_undoMany, .ref mo_asideA, .ref mo_weighingsA, .int mo_weighed, .ref mo_bookA, .int mo_entries, .ref mo_isKeptA, .ref mo_keptA, .ref mo_seedsA])), (mo_toldA, .inl (κ 0, 37, .inl mo_told)), (mo_stA, .inl (κ 0, 17, .inl mo_st)), (mo_textA, .inl (κ 0, 240, .inl mo_text)), (mo_readA, .inl (κ 0, 37, .inl mo_read)), (mo_aheadA, .inl (κ 0, 340, .inl mo_ahead)), (mo_asideA, .inl (κ 0, 17, .inl mo_aside)), (mo_weighingsA, .inl (κ 0, 12, .inl mo_weighings)), (mo_bookA, .inl (κ 0, 30, .inl mo_book)), (mo_isKeptA, .inl (κ 1, 2, .inl mo_isKept)), (mo_keptA, .inl (κ 0, 34, .inl mo_kept)), (mo_seedsA, .inl (κ 0, 2, .inl mo_seeds))]) → va_S A s.heap H locs → lv_has ls 5 [(0, .ref moo), (1, .int x1), (2, .int x2), (4, .int v4)] → pX9_canBe_L67 (pX9_canBe_L20 N x1 x2 mo_told mo_weighings mo_weighed n20) v4 s0 = some (r0) → W p l e { frames := 2, cells := 0, slots := 0, locals := 200 } s m args below meth c H locs 0 0 Q (F0 m 67 ls [.int s0]) := by
        intro v4 s0 H locs ls hP hD hS hl hres
        unfold pX9_canBe_L67 at hres
        refine lv_istore_n (lv' := [(3, .int s0), (0, .ref moo), (1, .int x1), (2, .int x2), (4, .int v4)]) hx hb dX9_canBe_67 rfl hl (by decide) rfl (fun ls hl => ?_)
        refine lv_iinc (v := (v4 + 1)) (lv' := [(4, .int (v4 + 1)), (3, .int s0), (0, .ref moo), (1, .int x1), (2, .int x2)]) hx hb dX9_canBe_68 hl (k := 4) rfl rfl (by decide) rfl (fun ls hl => ?_)
        refine lv_goto (tgt := 20) hx hb dX9_canBe_71 (by decide) ?_
        exact ih20 s0 (v4 + 1) _ _ _ hP hD hS (lv_sub hl [2, 3, 4, 1, 0] rfl) hres
      have L66 : ∀ (v4 : Int32) (H : Heap) (locs : List Loc) (ls : Array Slot), va_P D vwCl ([(moo, .inr (9, [.ref mo_toldA, .ref mo_stA, .int mo_isThere, .int mo_seed, .ref mo_textA, .int mo_typed, .int mo_faultAt, .int mo_place, .int mo_wrong, .int mo_value, .ref mo_readA, .ref mo_aheadA, .int mo_undoMany, .ref mo_asideA, .ref mo_weighingsA, .int mo_weighed, .ref mo_bookA, .int mo_entries, .ref mo_isKeptA, .ref mo_keptA, .ref mo_seedsA])), (mo_toldA, .inl (κ 0, 37, .inl mo_told)), (mo_stA, .inl (κ 0, 17, .inl mo_st)), (mo_textA, .inl (κ 0, 240, .inl mo_text)), (mo_readA, .inl (κ 0, 37, .inl mo_read)), (mo_aheadA, .inl (κ 0, 340, .inl mo_ahead)), (mo_asideA, .inl (κ 0, 17, .inl mo_aside)), (mo_weighingsA, .inl (κ 0, 12, .inl mo_weighings)), (mo_bookA, .inl (κ 0, 30, .inl mo_book)), (mo_isKeptA, .inl (κ 1, 2, .inl mo_isKept)), (mo_keptA, .inl (κ 0, 34, .inl mo_kept)), (mo_seedsA, .inl (κ 0, 2, .inl mo_seeds))]) H → va_D A ([(moo, .inr (9, [.ref mo_toldA, .ref mo_stA, .int mo_isThere, .int mo_seed, .ref mo_textA, .int mo_typed, .int mo_faultAt, .int mo_place, .int mo_wrong, .int mo_value, .ref mo_readA, .ref mo_aheadA, .int mo_undoMany, .ref mo_asideA, .ref mo_weighingsA, .int mo_weighed, .ref mo_bookA, .int mo_entries, .ref mo_isKeptA, .ref mo_keptA, .ref mo_seedsA])), (mo_toldA, .inl (κ 0, 37, .inl mo_told)), (mo_stA, .inl (κ 0, 17, .inl mo_st)), (mo_textA, .inl (κ 0, 240, .inl mo_text)), (mo_readA, .inl (κ 0, 37, .inl mo_read)), (mo_aheadA, .inl (κ 0, 340, .inl mo_ahead)), (mo_asideA, .inl (κ 0, 17, .inl mo_aside)), (mo_weighingsA, .inl (κ 0, 12, .inl mo_weighings)), (mo_bookA, .inl (κ 0, 30, .inl mo_book)), (mo_isKeptA, .inl (κ 1, 2, .inl mo_isKept)), (mo_keptA, .inl (κ 0, 34, .inl mo_kept)), (mo_seedsA, .inl (κ 0, 2, .inl mo_seeds))]) → va_S A s.heap H locs → lv_has ls 5 [(0, .ref moo), (1, .int x1), (2, .int x2), (4, .int v4)] → pX9_canBe_L66 (pX9_canBe_L20 N x1 x2 mo_told mo_weighings mo_weighed n20) v4 = some (r0) → W p l e { frames := 2, cells := 0, slots := 0, locals := 200 } s m args below meth c H locs 0 0 Q (F0 m 66 ls []) := by
        intro v4 H locs ls hP hD hS hl hres
        unfold pX9_canBe_L66 at hres
        refine lv_iconst (v := 0) hx hb dX9_canBe_66 (by decide) ?_
        exact L67 v4 0 _ _ _ hP hD hS (lv_sub hl [0, 1, 2, 3] rfl) hres
      rw [pX9_canBe_L20] at hres
      refine lv_iload hx hb dX9_canBe_20 (lv_at hl 4 rfl) ?_
      refine lv_aload_n hx hb dX9_canBe_22 rfl (lv_at hl 0 rfl) ?_
      refine va_get (D := D) (ci := 9) (v := .int mo_weighed) (C := RX9) (T := TX9) (N := 21) hx hb hts iw9 hown hK.1 hP 0 rfl rfl 15 (by decide) k1 (fun _ h9 => h9) rfl dX9_canBe_23 ?_
      refine lv_icmp_ge (tgt := 74) hx hb dX9_canBe_26 (by decide) (fun c2 => ?_) (fun c2 => ?_)
      · replace hres := og_t c2 hres
        refine lv_iload_n hx hb dX9_canBe_74 rfl (lv_at hl 3 rfl) ?_
        obtain ⟨g3, hres⟩ := og_no hres
        have hres := Option.some.inj hres
        have h0 := hres
        subst h0
        exact hret _ _ _ _ (kr_nz g3) hP hD hS dX9_canBe_75
      · replace hres := og_f c2 hres
        refine lv_iload_n hx hb dX9_canBe_29 rfl (lv_at hl 3 rfl) ?_
        refine lv_if_eq (tgt := 66) hx hb dX9_canBe_30 (by decide) (fun c4 => ?_) (fun c4 => ?_)
        · replace hres := og_t c4 hres
          exact L66 v4 _ _ _ hP hD hS (lv_sub hl [0, 1, 2, 4] rfl) hres
        · replace hres := og_f c4 hres
          refine lv_aload_n hx hb dX9_canBe_33 rfl (lv_at hl 0 rfl) ?_
          refine lv_aload_n hx hb dX9_canBe_34 rfl (lv_at hl 0 rfl) ?_
          refine va_get (D := D) (ci := 9) (v := .ref mo_weighingsA) (C := RX9) (T := TX9) (N := 21) hx hb hts iw9 hown hK.1 hP 0 rfl rfl 14 (by decide) k2 (fun _ h9 => h9) rfl dX9_canBe_35 ?_
          refine lv_iconst (v := 2) hx hb dX9_canBe_38 (by decide) ?_
          refine lv_iload hx hb dX9_canBe_39 (lv_at hl 4 rfl) ?_
          refine lv_imul hx hb dX9_canBe_41 ?_
          obtain ⟨g5, hres⟩ := og_no hres
          refine kr_iald (f := mo_weighings) (j := (2 * v4).toNatClampNeg) hx hb hK hP 7 rfl g5 rfl dX9_canBe_42 ?_
          refine lv_iload_n hx hb dX9_canBe_43 rfl (lv_at hl 1 rfl) ?_
          refine lv_iload_n hx hb dX9_canBe_44 rfl (lv_at hl 2 rfl) ?_
          obtain ⟨r6, hc7, hres⟩ := kb1_s hres
          refine krI_V (As := [.int (mo_weighings ((2 * v4).toNatClampNeg)), .int x1, .int x2]) (rest := []) (wr := []) ⟨hx, hb, hml, hown, hts⟩ hK (tX9_weightBy l D κ moo mo_toldA mo_stA mo_textA mo_readA mo_aheadA mo_asideA mo_weighingsA mo_bookA mo_isKeptA mo_keptA mo_seedsA N mo_told mo_st mo_isThere mo_seed mo_text mo_typed mo_faultAt mo_place mo_wrong mo_value mo_read mo_ahead mo_undoMany mo_aside mo_weighings mo_weighed mo_book mo_entries mo_isKept mo_kept mo_seeds (mo_weighings ((2 * v4).toNatClampNeg)) x1 x2 r6 hc7) (cwV 3 hts gX9_canBe_X9_weightBy rfl rfl rfl (by decide +kernel) ⟨(Nat.le_of_ble_eq_true rfl), (Nat.le_of_ble_eq_true rfl)⟩) rfl rfl rfl hP hD hS hA [0, 1, 2, 3, 4, 5, 6, 7, 8, 9, 10, 11] [] rfl rfl rfl rfl (by decide) rfl hl.1 rfl (Nat.le_of_ble_eq_true rfl) dX9_canBe_45 ⟨Nat.zero_le _, Nat.zero_le _⟩ (fun H locs hP hD hS => ?_)
          have hP : va_P D vwCl ([(moo, .inr (9, [.ref mo_toldA, .ref mo_stA, .int mo_isThere, .int mo_seed, .ref mo_textA, .int mo_typed, .int mo_faultAt, .int mo_place, .int mo_wrong, .int mo_value, .ref mo_readA, .ref mo_aheadA, .int mo_undoMany, .ref mo_asideA, .ref mo_weighingsA, .int mo_weighed, .ref mo_bookA, .int mo_entries, .ref mo_isKeptA, .ref mo_keptA, .ref mo_seedsA])), (mo_toldA, .inl (κ 0, 37, .inl mo_told)), (mo_stA, .inl (κ 0, 17, .inl mo_st)), (mo_textA, .inl (κ 0, 240, .inl mo_text)), (mo_readA, .inl (κ 0, 37, .inl mo_read)), (mo_aheadA, .inl (κ 0, 340, .inl mo_ahead)), (mo_asideA, .inl (κ 0, 17, .inl mo_aside)), (mo_weighingsA, .inl (κ 0, 12, .inl mo_weighings)), (mo_bookA, .inl (κ 0, 30, .inl mo_book)), (mo_isKeptA, .inl (κ 1, 2, .inl mo_isKept)), (mo_keptA, .inl (κ 0, 34, .inl mo_kept)), (mo_seedsA, .inl (κ 0, 2, .inl mo_seeds))]) H := hP
          have hD : va_D A ([(moo, .inr (9, [.ref mo_toldA, .ref mo_stA, .int mo_isThere, .int mo_seed, .ref mo_textA, .int mo_typed, .int mo_faultAt, .int mo_place, .int mo_wrong, .int mo_value, .ref mo_readA, .ref mo_aheadA, .int mo_undoMany, .ref mo_asideA, .ref mo_weighingsA, .int mo_weighed, .ref mo_bookA, .int mo_entries, .ref mo_isKeptA, .ref mo_keptA, .ref mo_seedsA])), (mo_toldA, .inl (κ 0, 37, .inl mo_told)), (mo_stA, .inl (κ 0, 17, .inl mo_st)), (mo_textA, .inl (κ 0, 240, .inl mo_text)), (mo_readA, .inl (κ 0, 37, .inl mo_read)), (mo_aheadA, .inl (κ 0, 340, .inl mo_ahead)), (mo_asideA, .inl (κ 0, 17, .inl mo_aside)), (mo_weighingsA, .inl (κ 0, 12, .inl mo_weighings)), (mo_bookA, .inl (κ 0, 30, .inl mo_book)), (mo_isKeptA, .inl (κ 1, 2, .inl mo_isKept)), (mo_keptA, .inl (κ 0, 34, .inl mo_kept)), (mo_seedsA, .inl (κ 0, 2, .inl mo_seeds))]) := hD
          refine lv_aload_n hx hb dX9_canBe_48 rfl (lv_at hl 0 rfl) ?_
          refine va_get (D := D) (ci := 9) (v := .ref mo_weighingsA) (C := RX9) (T := TX9) (N := 21) hx hb hts iw9 hown hK.1 hP 0 rfl rfl 14 (by decide) k2 (fun _ h9 => h9) rfl dX9_canBe_49 ?_
          refine lv_iconst (v := 2) hx hb dX9_canBe_52 (by decide) ?_
          refine lv_iload hx hb dX9_canBe_53 (lv_at hl 4 rfl) ?_
          refine lv_imul hx hb dX9_canBe_55 ?_
          refine lv_iconst (v := 1) hx hb dX9_canBe_56 (by decide) ?_
          refine lv_iadd hx hb dX9_canBe_57 ?_
          obtain ⟨g8, hres⟩ := og_no hres
          refine kr_iald (f := mo_weighings) (j := ((2 * v4) + 1).toNatClampNeg) hx hb hK hP 7 rfl g8 rfl dX9_canBe_58 ?_
          refine lv_icmp_ne (tgt := 66) hx hb dX9_canBe_59 (by decide) (fun c9 => ?_) (fun c9 => ?_)
          · replace hres := og_f c9 hres
            exact L66 v4 _ _ _ hP hD hS (lv_sub hl [0, 1, 2, 4] rfl) hres
          · replace hres := og_t c9 hres
            refine lv_iconst (v := 1) hx hb dX9_canBe_62 (by decide) ?_
            refine lv_goto (tgt := 67) hx hb dX9_canBe_63 (by decide) ?_
            exact L67 v4 1 _ _ _ hP hD hS (lv_sub hl [0, 1, 2, 4] rfl) hres
  have L16 : ∀ (s0 : Int32) (H : Heap) (locs : List Loc) (ls : Array Slot), va_P D vwCl ([(moo, .inr (9, [.ref mo_toldA, .ref mo_stA, .int mo_isThere, .int mo_seed, .ref mo_textA, .int mo_typed, .int mo_faultAt, .int mo_place, .int mo_wrong, .int mo_value, .ref mo_readA, .ref mo_aheadA, .int mo_undoMany, .ref mo_asideA, .ref mo_weighingsA, .int mo_weighed, .ref mo_bookA, .int mo_entries, .ref mo_isKeptA, .ref mo_keptA, .ref mo_seedsA])), (mo_toldA, .inl (κ 0, 37, .inl mo_told)), (mo_stA, .inl (κ 0, 17, .inl mo_st)), (mo_textA, .inl (κ 0, 240, .inl mo_text)), (mo_readA, .inl (κ 0, 37, .inl mo_read)), (mo_aheadA, .inl (κ 0, 340, .inl mo_ahead)), (mo_asideA, .inl (κ 0, 17, .inl mo_aside)), (mo_weighingsA, .inl (κ 0, 12, .inl mo_weighings)), (mo_bookA, .inl (κ 0, 30, .inl mo_book)), (mo_isKeptA, .inl (κ 1, 2, .inl mo_isKept)), (mo_keptA, .inl (κ 0, 34, .inl mo_kept)), (mo_seedsA, .inl (κ 0, 2, .inl mo_seeds))]) H → va_D A ([(moo, .inr (9, [.ref mo_toldA, .ref mo_stA, .int mo_isThere, .int mo_seed, .ref mo_textA, .int mo_typed, .int mo_faultAt, .int mo_place, .int mo_wrong, .int mo_value, .ref mo_readA, .ref mo_aheadA, .int mo_undoMany, .ref mo_asideA, .ref mo_weighingsA, .int mo_weighed, .ref mo_bookA, .int mo_entries, .ref mo_isKeptA, .ref mo_keptA, .ref mo_seedsA])), (mo_toldA, .inl (κ 0, 37, .inl mo_told)), (mo_stA, .inl (κ 0, 17, .inl mo_st)), (mo_textA, .inl (κ 0, 240, .inl mo_text)), (mo_readA, .inl (κ 0, 37, .inl mo_read)), (mo_aheadA, .inl (κ 0, 340, .inl mo_ahead)), (mo_asideA, .inl (κ 0, 17, .inl mo_aside)), (mo_weighingsA, .inl (κ 0, 12, .inl mo_weighings)), (mo_bookA, .inl (κ 0, 30, .inl mo_book)), (mo_isKeptA, .inl (κ 1, 2, .inl mo_isKept)), (mo_keptA, .inl (κ 0, 34, .inl mo_kept)), (mo_seedsA, .inl (κ 0, 2, .inl mo_seeds))]) → va_S A s.heap H locs → lv_has ls 5 [(0, .ref moo), (1, .int x1), (2, .int x2)] → pX9_canBe_L16 N x1 x2 mo_told mo_weighings mo_weighed s0 = some (r0) → W p l e { frames := 2, cells := 0, slots := 0, locals := 200 } s m args below meth c H locs 0 0 Q (F0 m 16 ls [.int s0]) := by
    intro s0 H locs ls hP hD hS hl hres
    unfold pX9_canBe_L16 at hres
    refine lv_istore_n (lv' := [(3, .int s0), (0, .ref moo), (1, .int x1), (2, .int x2)]) hx hb dX9_canBe_16 rfl hl (by decide) rfl (fun ls hl => ?_)
    refine lv_iconst (v := 0) hx hb dX9_canBe_17 (by decide) ?_
    refine lv_istore (lv' := [(4, .int 0), (3, .int s0), (0, .ref moo), (1, .int x1), (2, .int x2)]) hx hb dX9_canBe_18 hl (by decide) rfl (fun ls hl => ?_)
    exact L20 N s0 0 _ _ _ hP hD hS (lv_sub hl [2, 3, 4, 1, 0] rfl) hres
  unfold pX9_canBe at hres
  refine lv_iload_n hx hb dX9_canBe_0 rfl (lv_at hl 2 rfl) ?_
  refine lv_aload_n hx hb dX9_canBe_1 rfl (lv_at hl 0 rfl) ?_
  refine va_get (D := D) (ci := 9) (v := .ref mo_toldA) (C := RX9) (T := TX9) (N := 21) hx hb hts iw9 hown hK.1 hP 0 rfl rfl 0 (by decide) k0 (fun _ h9 => h9) rfl dX9_canBe_2 ?_
  refine lv_bipush (v := 6) hx hb dX9_canBe_5 (by decide) ?_
  refine kr_iald (f := mo_told) (j := 6) hx hb hK hP 1 rfl (by decide) (by decide) dX9_canBe_7 ?_
  refine lv_icmp_gt (tgt := 15) hx hb dX9_canBe_8 (by decide) (fun c1 => ?_) (fun c1 => ?_)
  · replace hres := og_t c1 hres
    refine lv_iconst (v := 0) hx hb dX9_canBe_15 (by decide) ?_
    exact L16 0 _ _ _ hP hD hS (lv_sub hl [0, 1, 2] rfl) hres
  · replace hres := og_f c1 hres
    refine lv_iconst (v := 1) hx hb dX9_canBe_11 (by decide) ?_
    refine lv_goto (tgt := 16) hx hb dX9_canBe_12 (by decide) ?_
    exact L16 1 _ _ _ hP hD hS (lv_sub hl [0, 1, 2] rfl) hres

def pX9_greatestPart_L105 (k4 : Int32 → Int32 → Option (Int32)) (v3 : Int32) (s0 : Int32) : Option (Int32) :=
    k4 s0 (v3 + 1)
def pX9_greatestPart_L78 (k30 : Int32 → Int32 → Int32 → Int32 → Int32 → Option (Int32)) (k16 : Int32 → Int32 → Int32 → Int32 → Option (Int32)) (k4 : Int32 → Int32 → Option (Int32)) (v2 : Int32) (v3 : Int32) (v5 : Int32) (v6 : Int32) (s0 : Int32) (s1 : Int32) : Option (Int32) :=
    k30 v2 v3 (s1 + s0) v5 (v6 + 1)
def pX9_greatestPart_L77 (k30 : Int32 → Int32 → Int32 → Int32 → Int32 → Option (Int32)) (k16 : Int32 → Int32 → Int32 → Int32 → Option (Int32)) (k4 : Int32 → Int32 → Option (Int32)) (v2 : Int32) (v3 : Int32) (v5 : Int32) (v6 : Int32) (s0 : Int32) : Option (Int32) :=
    pX9_greatestPart_L78 k30 k16 k4 v2 v3 v5 v6 0 s0
def pX9_greatestPart_L52 (k30 : Int32 → Int32 → Int32 → Int32 → Int32 → Option (Int32)) (k16 : Int32 → Int32 → Int32 → Int32 → Option (Int32)) (k4 : Int32 → Int32 → Option (Int32)) (N : Nat) (mo_told : Nat → Int32) (mo_weighings : Nat → Int32) (mo_weighed : Int32) (v2 : Int32) (v3 : Int32) (v4 : Int32) (v5 : Int32) (v6 : Int32) (s0 : Int32) : Option (Int32) :=
    (if s0 = v3 then
    kb1 (pX9_canBe N v5 v6 mo_told mo_weighings mo_weighed) fun r9 =>
    (if r9 = 0 then
    pX9_greatestPart_L77 k30 k16 k4 v2 v3 v5 v6 v4
    else
    pX9_greatestPart_L78 k30 k16 k4 v2 v3 v5 v6 1 v4)
    else
    pX9_greatestPart_L77 k30 k16 k4 v2 v3 v5 v6 v4)
def pX9_greatestPart_L30 (k16 : Int32 → Int32 → Int32 → Int32 → Option (Int32)) (k4 : Int32 → Int32 → Option (Int32)) (N : Nat) (x1 : Int32) (mo_told : Nat → Int32) (mo_weighings : Nat → Int32) (mo_weighed : Int32) : Nat → Int32 → Int32 → Int32 → Int32 → Int32 → Option (Int32)
  | 0, _, _, _, _, _ => none
  | n30 + 1, v2, v3, v4, v5, v6 =>
    (if 9 < v6 then
    k16 v2 v3 v4 (v5 + 1)
    else
    kb1 (pX9_has x1 v5) fun r5 =>
    (if r5 = 0 then
    pX9_greatestPart_L52 (pX9_greatestPart_L30 k16 k4 N x1 mo_told mo_weighings mo_weighed n30) k16 k4 N mo_told mo_weighings mo_weighed v2 v3 v4 v5 v6 0
    else
    pX9_greatestPart_L52 (pX9_greatestPart_L30 k16 k4 N x1 mo_told mo_weighings mo_weighed n30) k16 k4 N mo_told mo_weighings mo_weighed v2 v3 v4 v5 v6 v6))
def pX9_greatestPart_L16 (k4 : Int32 → Int32 → Option (Int32)) (N : Nat) (x1 : Int32) (mo_told : Nat → Int32) (mo_weighings : Nat → Int32) (mo_weighed : Int32) : Nat → Int32 → Int32 → Int32 → Int32 → Option (Int32)
  | 0, _, _, _, _ => none
  | n16 + 1, v2, v3, v4, v5 =>
    (if (mo_told 5) ≤ v5 then
    (if v4 ≤ v2 then
    pX9_greatestPart_L105 k4 v3 v2
    else
    pX9_greatestPart_L105 k4 v3 v4)
    else
    pX9_greatestPart_L30 (pX9_greatestPart_L16 k4 N x1 mo_told mo_weighings mo_weighed n16) k4 N x1 mo_told mo_weighings mo_weighed N v2 v3 v4 v5 1)
def pX9_greatestPart_L4 (N : Nat) (x1 : Int32) (mo_told : Nat → Int32) (mo_weighings : Nat → Int32) (mo_weighed : Int32) : Nat → Int32 → Int32 → Option (Int32)
  | 0, _, _ => none
  | n4 + 1, v2, v3 =>
    (if 9 < v3 then
    some (v2)
    else
    pX9_greatestPart_L16 (pX9_greatestPart_L4 N x1 mo_told mo_weighings mo_weighed n4) N x1 mo_told mo_weighings mo_weighed N v2 v3 0 0)
def pX9_greatestPart (N : Nat) (x1 : Int32) (mo_told : Nat → Int32) (mo_weighings : Nat → Int32) (mo_weighed : Int32) : Option (Int32) :=
    pX9_greatestPart_L4 N x1 mo_told mo_weighings mo_weighed N 0 0
set_option maxHeartbeats 8000000 in
set_option maxRecDepth 100000 in
theorem tX9_greatestPart (l : Launch) (D : va_G) (κ : Nat → ClassId) (moo : Nat) (mo_toldA : Nat) (mo_stA : Nat) (mo_textA : Nat) (mo_readA : Nat) (mo_aheadA : Nat) (mo_asideA : Nat) (mo_weighingsA : Nat) (mo_bookA : Nat) (mo_isKeptA : Nat) (mo_keptA : Nat) (mo_seedsA : Nat) (N : Nat) (mo_told : Nat → Int32) (mo_st : Nat → Int32) (mo_isThere : Int32) (mo_seed : Int32) (mo_text : Nat → Int32) (mo_typed : Int32) (mo_faultAt : Int32) (mo_place : Int32) (mo_wrong : Int32) (mo_value : Int32) (mo_read : Nat → Int32) (mo_ahead : Nat → Int32) (mo_undoMany : Int32) (mo_aside : Nat → Int32) (mo_weighings : Nat → Int32) (mo_weighed : Int32) (mo_book : Nat → Int32) (mo_entries : Int32) (mo_isKept : Nat → Int32) (mo_kept : Nat → Int32) (mo_seeds : Nat → Int32) (x1 : Int32) (r0 : Int32) (hres : pX9_greatestPart N x1 mo_told mo_weighings mo_weighed = some (r0)) : krI l yX9_greatestPart wsX9_greatestPart { frames := 3, cells := 0, slots := 0, locals := 300 } D κ [.ref moo, .int x1] ([(moo, .inr (9, [.ref mo_toldA, .ref mo_stA, .int mo_isThere, .int mo_seed, .ref mo_textA, .int mo_typed, .int mo_faultAt, .int mo_place, .int mo_wrong, .int mo_value, .ref mo_readA, .ref mo_aheadA, .int mo_undoMany, .ref mo_asideA, .ref mo_weighingsA, .int mo_weighed, .ref mo_bookA, .int mo_entries, .ref mo_isKeptA, .ref mo_keptA, .ref mo_seedsA])), (mo_toldA, .inl (κ 0, 37, .inl mo_told)), (mo_stA, .inl (κ 0, 17, .inl mo_st)), (mo_textA, .inl (κ 0, 240, .inl mo_text)), (mo_readA, .inl (κ 0, 37, .inl mo_read)), (mo_aheadA, .inl (κ 0, 340, .inl mo_ahead)), (mo_asideA, .inl (κ 0, 17, .inl mo_aside)), (mo_weighingsA, .inl (κ 0, 12, .inl mo_weighings)), (mo_bookA, .inl (κ 0, 30, .inl mo_book)), (mo_isKeptA, .inl (κ 1, 2, .inl mo_isKept)), (mo_keptA, .inl (κ 0, 34, .inl mo_kept)), (mo_seedsA, .inl (κ 0, 2, .inl mo_seeds))]) ([(moo, .inr (9, [.ref mo_toldA, .ref mo_stA, .int mo_isThere, .int mo_seed, .ref mo_textA, .int mo_typed, .int mo_faultAt, .int mo_place, .int mo_wrong, .int mo_value, .ref mo_readA, .ref mo_aheadA, .int mo_undoMany, .ref mo_asideA, .ref mo_weighingsA, .int mo_weighed, .ref mo_bookA, .int mo_entries, .ref mo_isKeptA, .ref mo_keptA, .ref mo_seedsA])), (mo_toldA, .inl (κ 0, 37, .inl mo_told)), (mo_stA, .inl (κ 0, 17, .inl mo_st)), (mo_textA, .inl (κ 0, 240, .inl mo_text)), (mo_readA, .inl (κ 0, 37, .inl mo_read)), (mo_aheadA, .inl (κ 0, 340, .inl mo_ahead)), (mo_asideA, .inl (κ 0, 17, .inl mo_aside)), (mo_weighingsA, .inl (κ 0, 12, .inl mo_weighings)), (mo_bookA, .inl (κ 0, 30, .inl mo_book)), (mo_isKeptA, .inl (κ 1, 2, .inl mo_isKept)), (mo_keptA, .inl (κ 0, 34, .inl mo_kept)), (mo_seedsA, .inl (κ 0, 2, .inl mo_seeds))]) r0 := by
  refine krI_of (cc := cX9_greatestPart) (maxL := 8) (rt := .int) (by decide) rfl (Nat.le_of_ble_eq_true rfl) ?_
  intro p e s m args below meth c A Q ls hx hb hml hown hts hK hA hret hP hD hS hl
  have hown : s.vm.findClass RX9 = some m.cls := hown
  have hl : lv_has ls 8 [(0, .ref moo), (1, .int x1)] := hl
  have iw9 : ∀ w ∈ u_ws RX9 TX9 21, w ∈ wsX9_greatestPart := (fun _ h => List.mem_cons_of_mem _ (List.mem_append_right _ h))
  have k0 : (Cond.fieldLink RX9 7 "KingRansomModel" "told" "[I").before args s = true := hts _ (List.mem_of_getElem? (i := 1) rfl)
  have L4 : ∀ (n4 : Nat) (v2 : Int32) (v3 : Int32) (H : Heap) (locs : List Loc) (ls : Array Slot), va_P D vwCl ([(moo, .inr (9, [.ref mo_toldA, .ref mo_stA, .int mo_isThere, .int mo_seed, .ref mo_textA, .int mo_typed, .int mo_faultAt, .int mo_place, .int mo_wrong, .int mo_value, .ref mo_readA, .ref mo_aheadA, .int mo_undoMany, .ref mo_asideA, .ref mo_weighingsA, .int mo_weighed, .ref mo_bookA, .int mo_entries, .ref mo_isKeptA, .ref mo_keptA, .ref mo_seedsA])), (mo_toldA, .inl (κ 0, 37, .inl mo_told)), (mo_stA, .inl (κ 0, 17, .inl mo_st)), (mo_textA, .inl (κ 0, 240, .inl mo_text)), (mo_readA, .inl (κ 0, 37, .inl mo_read)), (mo_aheadA, .inl (κ 0, 340, .inl mo_ahead)), (mo_asideA, .inl (κ 0, 17, .inl mo_aside)), (mo_weighingsA, .inl (κ 0, 12, .inl mo_weighings)), (mo_bookA, .inl (κ 0, 30, .inl mo_book)), (mo_isKeptA, .inl (κ 1, 2, .inl mo_isKept)), (mo_keptA, .inl (κ 0, 34, .inl mo_kept)), (mo_seedsA, .inl (κ 0, 2, .inl mo_seeds))]) H → va_D A ([(moo, .inr (9, [.ref mo_toldA, .ref mo_stA, .int mo_isThere, .int mo_seed, .ref mo_textA, .int mo_typed, .int mo_faultAt, .int mo_place, .int mo_wrong, .int mo_value, .ref mo_readA, .ref mo_aheadA, .int mo_undoMany, .ref mo_asideA, .ref mo_weighingsA, .int mo_weighed, .ref mo_bookA, .int mo_entries, .ref mo_isKeptA, .ref mo_keptA, .ref mo_seedsA])), (mo_toldA, .inl (κ 0, 37, .inl mo_told)), (mo_stA, .inl (κ 0, 17, .inl mo_st)), (mo_textA, .inl (κ 0, 240, .inl mo_text)), (mo_readA, .inl (κ 0, 37, .inl mo_read)), (mo_aheadA, .inl (κ 0, 340, .inl mo_ahead)), (mo_asideA, .inl (κ 0, 17, .inl mo_aside)), (mo_weighingsA, .inl (κ 0, 12, .inl mo_weighings)), (mo_bookA, .inl (κ 0, 30, .inl mo_book)), (mo_isKeptA, .inl (κ 1, 2, .inl mo_isKept)), (mo_keptA, .inl (κ 0, 34, .inl mo_kept)), (mo_seedsA, .inl (κ 0, 2, .inl mo_seeds))]) → va_S A s.heap H locs → lv_has ls 8 [(0, .ref moo), (1, .int x1), (2, .int v2), (3, .int v3)] → pX9_greatestPart_L4 N x1 mo_told mo_weighings mo_weighed n4 v2 v3 = some (r0) → W p l e { frames := 3, cells := 0, slots := 0, locals := 300 } s m args below meth c H locs 0 0 Q (F0 m 4 ls []) := by
    intro n4
    induction n4 with
    | zero =>
      intro v2 v3 H locs ls hP hD hS hl hres
      exact absurd (show none = some _ from hres) (by simp)
    | succ n4 ih4 =>
      intro v2 v3 H locs ls hP hD hS hl hres
      have L105 : ∀ (v3 : Int32) (s0 : Int32) (H : Heap) (locs : List Loc) (ls : Array Slot), va_P D vwCl ([(moo, .inr (9, [.ref mo_toldA, .ref mo_stA, .int mo_isThere, .int mo_seed, .ref mo_textA, .int mo_typed, .int mo_faultAt, .int mo_place, .int mo_wrong, .int mo_value, .ref mo_readA, .ref mo_aheadA, .int mo_undoMany, .ref mo_asideA, .ref mo_weighingsA, .int mo_weighed, .ref mo_bookA, .int mo_entries, .ref mo_isKeptA, .ref mo_keptA, .ref mo_seedsA])), (mo_toldA, .inl (κ 0, 37, .inl mo_told)), (mo_stA, .inl (κ 0, 17, .inl mo_st)), (mo_textA, .inl (κ 0, 240, .inl mo_text)), (mo_readA, .inl (κ 0, 37, .inl mo_read)), (mo_aheadA, .inl (κ 0, 340, .inl mo_ahead)), (mo_asideA, .inl (κ 0, 17, .inl mo_aside)), (mo_weighingsA, .inl (κ 0, 12, .inl mo_weighings)), (mo_bookA, .inl (κ 0, 30, .inl mo_book)), (mo_isKeptA, .inl (κ 1, 2, .inl mo_isKept)), (mo_keptA, .inl (κ 0, 34, .inl mo_kept)), (mo_seedsA, .inl (κ 0, 2, .inl mo_seeds))]) H → va_D A ([(moo, .inr (9, [.ref mo_toldA, .ref mo_stA, .int mo_isThere, .int mo_seed, .ref mo_textA, .int mo_typed, .int mo_faultAt, .int mo_place, .int mo_wrong, .int mo_value, .ref mo_readA, .ref mo_aheadA, .int mo_undoMany, .ref mo_asideA, .ref mo_weighingsA, .int mo_weighed, .ref mo_bookA, .int mo_entries, .ref mo_isKeptA, .ref mo_keptA, .ref mo_seedsA])), (mo_toldA, .inl (κ 0, 37, .inl mo_told)), (mo_stA, .inl (κ 0, 17, .inl mo_st)), (mo_textA, .inl (κ 0, 240, .inl mo_text)), (mo_readA, .inl (κ 0, 37, .inl mo_read)), (mo_aheadA, .inl (κ 0, 340, .inl mo_ahead)), (mo_asideA, .inl (κ 0, 17, .inl mo_aside)), (mo_weighingsA, .inl (κ 0, 12, .inl mo_weighings)), (mo_bookA, .inl (κ 0, 30, .inl mo_book)), (mo_isKeptA, .inl (κ 1, 2, .inl mo_isKept)), (mo_keptA, .inl (κ 0, 34, .inl mo_kept)), (mo_seedsA, .inl (κ 0, 2, .inl mo_seeds))]) → va_S A s.heap H locs → lv_has ls 8 [(0, .ref moo), (1, .int x1), (3, .int v3)] → pX9_greatestPart_L105 (pX9_greatestPart_L4 N x1 mo_told mo_weighings mo_weighed n4) v3 s0 = some (r0) → W p l e { frames := 3, cells := 0, slots := 0, locals := 300 } s m args below meth c H locs 0 0 Q (F0 m 105 ls [.int s0]) := by
        intro v3 s0 H locs ls hP hD hS hl hres
        unfold pX9_greatestPart_L105 at hres
        refine lv_istore_n (lv' := [(2, .int s0), (0, .ref moo), (1, .int x1), (3, .int v3)]) hx hb dX9_greatestPart_105 rfl hl (by decide) rfl (fun ls hl => ?_)
        refine lv_iinc (v := (v3 + 1)) (lv' := [(3, .int (v3 + 1)), (2, .int s0), (0, .ref moo), (1, .int x1)]) hx hb dX9_greatestPart_106 hl (k := 3) rfl rfl (by decide) rfl (fun ls hl => ?_)
        refine lv_goto (tgt := 4) hx hb dX9_greatestPart_109 (by decide) ?_
        exact ih4 s0 (v3 + 1) _ _ _ hP hD hS (lv_sub hl [2, 3, 1, 0] rfl) hres
      have L16 : ∀ (n16 : Nat) (v2 : Int32) (v3 : Int32) (v4 : Int32) (v5 : Int32) (H : Heap) (locs : List Loc) (ls : Array Slot), va_P D vwCl ([(moo, .inr (9, [.ref mo_toldA, .ref mo_stA, .int mo_isThere, .int mo_seed, .ref mo_textA, .int mo_typed, .int mo_faultAt, .int mo_place, .int mo_wrong, .int mo_value, .ref mo_readA, .ref mo_aheadA, .int mo_undoMany, .ref mo_asideA, .ref mo_weighingsA, .int mo_weighed, .ref mo_bookA, .int mo_entries, .ref mo_isKeptA, .ref mo_keptA, .ref mo_seedsA])), (mo_toldA, .inl (κ 0, 37, .inl mo_told)), (mo_stA, .inl (κ 0, 17, .inl mo_st)), (mo_textA, .inl (κ 0, 240, .inl mo_text)), (mo_readA, .inl (κ 0, 37, .inl mo_read)), (mo_aheadA, .inl (κ 0, 340, .inl mo_ahead)), (mo_asideA, .inl (κ 0, 17, .inl mo_aside)), (mo_weighingsA, .inl (κ 0, 12, .inl mo_weighings)), (mo_bookA, .inl (κ 0, 30, .inl mo_book)), (mo_isKeptA, .inl (κ 1, 2, .inl mo_isKept)), (mo_keptA, .inl (κ 0, 34, .inl mo_kept)), (mo_seedsA, .inl (κ 0, 2, .inl mo_seeds))]) H → va_D A ([(moo, .inr (9, [.ref mo_toldA, .ref mo_stA, .int mo_isThere, .int mo_seed, .ref mo_textA, .int mo_typed, .int mo_faultAt, .int mo_place, .int mo_wrong, .int mo_value, .ref mo_readA, .ref mo_aheadA, .int mo_undoMany, .ref mo_asideA, .ref mo_weighingsA, .int mo_weighed, .ref mo_bookA, .int mo_entries, .ref mo_isKeptA, .ref mo_keptA, .ref mo_seedsA])), (mo_toldA, .inl (κ 0, 37, .inl mo_told)), (mo_stA, .inl (κ 0, 17, .inl mo_st)), (mo_textA, .inl (κ 0, 240, .inl mo_text)), (mo_readA, .inl (κ 0, 37, .inl mo_read)), (mo_aheadA, .inl (κ 0, 340, .inl mo_ahead)), (mo_asideA, .inl (κ 0, 17, .inl mo_aside)), (mo_weighingsA, .inl (κ 0, 12, .inl mo_weighings)), (mo_bookA, .inl (κ 0, 30, .inl mo_book)), (mo_isKeptA, .inl (κ 1, 2, .inl mo_isKept)), (mo_keptA, .inl (κ 0, 34, .inl mo_kept)), (mo_seedsA, .inl (κ 0, 2, .inl mo_seeds))]) → va_S A s.heap H locs → lv_has ls 8 [(0, .ref moo), (1, .int x1), (2, .int v2), (3, .int v3), (4, .int v4), (5, .int v5)] → pX9_greatestPart_L16 (pX9_greatestPart_L4 N x1 mo_told mo_weighings mo_weighed n4) N x1 mo_told mo_weighings mo_weighed n16 v2 v3 v4 v5 = some (r0) → W p l e { frames := 3, cells := 0, slots := 0, locals := 300 } s m args below meth c H locs 0 0 Q (F0 m 16 ls []) := by
        intro n16
        induction n16 with
        | zero =>
          intro v2 v3 v4 v5 H locs ls hP hD hS hl hres
          exact absurd (show none = some _ from hres) (by simp)
        | succ n16 ih16 =>
          intro v2 v3 v4 v5 H locs ls hP hD hS hl hres
          have L30 : ∀ (n30 : Nat) (v2 : Int32) (v3 : Int32) (v4 : Int32) (v5 : Int32) (v6 : Int32) (H : Heap) (locs : List Loc) (ls : Array Slot), va_P D vwCl ([(moo, .inr (9, [.ref mo_toldA, .ref mo_stA, .int mo_isThere, .int mo_seed, .ref mo_textA, .int mo_typed, .int mo_faultAt, .int mo_place, .int mo_wrong, .int mo_value, .ref mo_readA, .ref mo_aheadA, .int mo_undoMany, .ref mo_asideA, .ref mo_weighingsA, .int mo_weighed, .ref mo_bookA, .int mo_entries, .ref mo_isKeptA, .ref mo_keptA, .ref mo_seedsA])), (mo_toldA, .inl (κ 0, 37, .inl mo_told)), (mo_stA, .inl (κ 0, 17, .inl mo_st)), (mo_textA, .inl (κ 0, 240, .inl mo_text)), (mo_readA, .inl (κ 0, 37, .inl mo_read)), (mo_aheadA, .inl (κ 0, 340, .inl mo_ahead)), (mo_asideA, .inl (κ 0, 17, .inl mo_aside)), (mo_weighingsA, .inl (κ 0, 12, .inl mo_weighings)), (mo_bookA, .inl (κ 0, 30, .inl mo_book)), (mo_isKeptA, .inl (κ 1, 2, .inl mo_isKept)), (mo_keptA, .inl (κ 0, 34, .inl mo_kept)), (mo_seedsA, .inl (κ 0, 2, .inl mo_seeds))]) H → va_D A ([(moo, .inr (9, [.ref mo_toldA, .ref mo_stA, .int mo_isThere, .int mo_seed, .ref mo_textA, .int mo_typed, .int mo_faultAt, .int mo_place, .int mo_wrong, .int mo_value, .ref mo_readA, .ref mo_aheadA, .int mo_undoMany, .ref mo_asideA, .ref mo_weighingsA, .int mo_weighed, .ref mo_bookA, .int mo_entries, .ref mo_isKeptA, .ref mo_keptA, .ref mo_seedsA])), (mo_toldA, .inl (κ 0, 37, .inl mo_told)), (mo_stA, .inl (κ 0, 17, .inl mo_st)), (mo_textA, .inl (κ 0, 240, .inl mo_text)), (mo_readA, .inl (κ 0, 37, .inl mo_read)), (mo_aheadA, .inl (κ 0, 340, .inl mo_ahead)), (mo_asideA, .inl (κ 0, 17, .inl mo_aside)), (mo_weighingsA, .inl (κ 0, 12, .inl mo_weighings)), (mo_bookA, .inl (κ 0, 30, .inl mo_book)), (mo_isKeptA, .inl (κ 1, 2, .inl mo_isKept)), (mo_keptA, .inl (κ 0, 34, .inl mo_kept)), (mo_seedsA, .inl (κ 0, 2, .inl mo_seeds))]) → va_S A s.heap H locs → lv_has ls 8 [(0, .ref moo), (1, .int x1), (2, .int v2), (3, .int v3), (4, .int v4), (5, .int v5), (6, .int v6)] → pX9_greatestPart_L30 (pX9_greatestPart_L16 (pX9_greatestPart_L4 N x1 mo_told mo_weighings mo_weighed n4) N x1 mo_told mo_weighings mo_weighed n16) (pX9_greatestPart_L4 N x1 mo_told mo_weighings mo_weighed n4) N x1 mo_told mo_weighings mo_weighed n30 v2 v3 v4 v5 v6 = some (r0) → W p l e { frames := 3, cells := 0, slots := 0, locals := 300 } s m args below meth c H locs 0 0 Q (F0 m 30 ls []) := by
            intro n30
            induction n30 with
            | zero =>
              intro v2 v3 v4 v5 v6 H locs ls hP hD hS hl hres
              exact absurd (show none = some _ from hres) (by simp)
            | succ n30 ih30 =>
              intro v2 v3 v4 v5 v6 H locs ls hP hD hS hl hres
              have L78 : ∀ (v2 : Int32) (v3 : Int32) (v5 : Int32) (v6 : Int32) (s0 : Int32) (s1 : Int32) (H : Heap) (locs : List Loc) (ls : Array Slot), va_P D vwCl ([(moo, .inr (9, [.ref mo_toldA, .ref mo_stA, .int mo_isThere, .int mo_seed, .ref mo_textA, .int mo_typed, .int mo_faultAt, .int mo_place, .int mo_wrong, .int mo_value, .ref mo_readA, .ref mo_aheadA, .int mo_undoMany, .ref mo_asideA, .ref mo_weighingsA, .int mo_weighed, .ref mo_bookA, .int mo_entries, .ref mo_isKeptA, .ref mo_keptA, .ref mo_seedsA])), (mo_toldA, .inl (κ 0, 37, .inl mo_told)), (mo_stA, .inl (κ 0, 17, .inl mo_st)), (mo_textA, .inl (κ 0, 240, .inl mo_text)), (mo_readA, .inl (κ 0, 37, .inl mo_read)), (mo_aheadA, .inl (κ 0, 340, .inl mo_ahead)), (mo_asideA, .inl (κ 0, 17, .inl mo_aside)), (mo_weighingsA, .inl (κ 0, 12, .inl mo_weighings)), (mo_bookA, .inl (κ 0, 30, .inl mo_book)), (mo_isKeptA, .inl (κ 1, 2, .inl mo_isKept)), (mo_keptA, .inl (κ 0, 34, .inl mo_kept)), (mo_seedsA, .inl (κ 0, 2, .inl mo_seeds))]) H → va_D A ([(moo, .inr (9, [.ref mo_toldA, .ref mo_stA, .int mo_isThere, .int mo_seed, .ref mo_textA, .int mo_typed, .int mo_faultAt, .int mo_place, .int mo_wrong, .int mo_value, .ref mo_readA, .ref mo_aheadA, .int mo_undoMany, .ref mo_asideA, .ref mo_weighingsA, .int mo_weighed, .ref mo_bookA, .int mo_entries, .ref mo_isKeptA, .ref mo_keptA, .ref mo_seedsA])), (mo_toldA, .inl (κ 0, 37, .inl mo_told)), (mo_stA, .inl (κ 0, 17, .inl mo_st)), (mo_textA, .inl (κ 0, 240, .inl mo_text)), (mo_readA, .inl (κ 0, 37, .inl mo_read)), (mo_aheadA, .inl (κ 0, 340, .inl mo_ahead)), (mo_asideA, .inl (κ 0, 17, .inl mo_aside)), (mo_weighingsA, .inl (κ 0, 12, .inl mo_weighings)), (mo_bookA, .inl (κ 0, 30, .inl mo_book)), (mo_isKeptA, .inl (κ 1, 2, .inl mo_isKept)), (mo_keptA, .inl (κ 0, 34, .inl mo_kept)), (mo_seedsA, .inl (κ 0, 2, .inl mo_seeds))]) → va_S A s.heap H locs → lv_has ls 8 [(0, .ref moo), (1, .int x1), (2, .int v2), (3, .int v3), (5, .int v5), (6, .int v6)] → pX9_greatestPart_L78 (pX9_greatestPart_L30 (pX9_greatestPart_L16 (pX9_greatestPart_L4 N x1 mo_told mo_weighings mo_weighed n4) N x1 mo_told mo_weighings mo_weighed n16) (pX9_greatestPart_L4 N x1 mo_told mo_weighings mo_weighed n4) N x1 mo_told mo_weighings mo_weighed n30) (pX9_greatestPart_L16 (pX9_greatestPart_L4 N x1 mo_told mo_weighings mo_weighed n4) N x1 mo_told mo_weighings mo_weighed n16) (pX9_greatestPart_L4 N x1 mo_told mo_weighings mo_weighed n4) v2 v3 v5 v6 s0 s1 = some (r0) → W p l e { frames := 3, cells := 0, slots := 0, locals := 300 } s m args below meth c H locs 0 0 Q (F0 m 78 ls [.int s0, .int s1]) := by
                intro v2 v3 v5 v6 s0 s1 H locs ls hP hD hS hl hres
                unfold pX9_greatestPart_L78 at hres
                refine lv_iadd hx hb dX9_greatestPart_78 ?_
                refine lv_istore (lv' := [(4, .int (s1 + s0)), (0, .ref moo), (1, .int x1), (2, .int v2), (3, .int v3), (5, .int v5), (6, .int v6)]) hx hb dX9_greatestPart_79 hl (by decide) rfl (fun ls hl => ?_)
                refine lv_iinc (v := (v6 + 1)) (lv' := [(6, .int (v6 + 1)), (4, .int (s1 + s0)), (0, .ref moo), (1, .int x1), (2, .int v2), (3, .int v3), (5, .int v5)]) hx hb dX9_greatestPart_81 hl (k := 6) rfl rfl (by decide) rfl (fun ls hl => ?_)
                refine lv_goto (tgt := 30) hx hb dX9_greatestPart_84 (by decide) ?_
                exact ih30 v2 v3 (s1 + s0) v5 (v6 + 1) _ _ _ hP hD hS (lv_sub hl [2, 3, 4, 5, 1, 6, 0] rfl) hres
              have L77 : ∀ (v2 : Int32) (v3 : Int32) (v5 : Int32) (v6 : Int32) (s0 : Int32) (H : Heap) (locs : List Loc) (ls : Array Slot), va_P D vwCl ([(moo, .inr (9, [.ref mo_toldA, .ref mo_stA, .int mo_isThere, .int mo_seed, .ref mo_textA, .int mo_typed, .int mo_faultAt, .int mo_place, .int mo_wrong, .int mo_value, .ref mo_readA, .ref mo_aheadA, .int mo_undoMany, .ref mo_asideA, .ref mo_weighingsA, .int mo_weighed, .ref mo_bookA, .int mo_entries, .ref mo_isKeptA, .ref mo_keptA, .ref mo_seedsA])), (mo_toldA, .inl (κ 0, 37, .inl mo_told)), (mo_stA, .inl (κ 0, 17, .inl mo_st)), (mo_textA, .inl (κ 0, 240, .inl mo_text)), (mo_readA, .inl (κ 0, 37, .inl mo_read)), (mo_aheadA, .inl (κ 0, 340, .inl mo_ahead)), (mo_asideA, .inl (κ 0, 17, .inl mo_aside)), (mo_weighingsA, .inl (κ 0, 12, .inl mo_weighings)), (mo_bookA, .inl (κ 0, 30, .inl mo_book)), (mo_isKeptA, .inl (κ 1, 2, .inl mo_isKept)), (mo_keptA, .inl (κ 0, 34, .inl mo_kept)), (mo_seedsA, .inl (κ 0, 2, .inl mo_seeds))]) H → va_D A ([(moo, .inr (9, [.ref mo_toldA, .ref mo_stA, .int mo_isThere, .int mo_seed, .ref mo_textA, .int mo_typed, .int mo_faultAt, .int mo_place, .int mo_wrong, .int mo_value, .ref mo_readA, .ref mo_aheadA, .int mo_undoMany, .ref mo_asideA, .ref mo_weighingsA, .int mo_weighed, .ref mo_bookA, .int mo_entries, .ref mo_isKeptA, .ref mo_keptA, .ref mo_seedsA])), (mo_toldA, .inl (κ 0, 37, .inl mo_told)), (mo_stA, .inl (κ 0, 17, .inl mo_st)), (mo_textA, .inl (κ 0, 240, .inl mo_text)), (mo_readA, .inl (κ 0, 37, .inl mo_read)), (mo_aheadA, .inl (κ 0, 340, .inl mo_ahead)), (mo_asideA, .inl (κ 0, 17, .inl mo_aside)), (mo_weighingsA, .inl (κ 0, 12, .inl mo_weighings)), (mo_bookA, .inl (κ 0, 30, .inl mo_book)), (mo_isKeptA, .inl (κ 1, 2, .inl mo_isKept)), (mo_keptA, .inl (κ 0, 34, .inl mo_kept)), (mo_seedsA, .inl (κ 0, 2, .inl mo_seeds))]) → va_S A s.heap H locs → lv_has ls 8 [(0, .ref moo), (1, .int x1), (2, .int v2), (3, .int v3), (5, .int v5), (6, .int v6)] → pX9_greatestPart_L77 (pX9_greatestPart_L30 (pX9_greatestPart_L16 (pX9_greatestPart_L4 N x1 mo_told mo_weighings mo_weighed n4) N x1 mo_told mo_weighings mo_weighed n16) (pX9_greatestPart_L4 N x1 mo_told mo_weighings mo_weighed n4) N x1 mo_told mo_weighings mo_weighed n30) (pX9_greatestPart_L16 (pX9_greatestPart_L4 N x1 mo_told mo_weighings mo_weighed n4) N x1 mo_told mo_weighings mo_weighed n16) (pX9_greatestPart_L4 N x1 mo_told mo_weighings mo_weighed n4) v2 v3 v5 v6 s0 = some (r0) → W p l e { frames := 3, cells := 0, slots := 0, locals := 300 } s m args below meth c H locs 0 0 Q (F0 m 77 ls [.int s0]) := by
                intro v2 v3 v5 v6 s0 H locs ls hP hD hS hl hres
                unfold pX9_greatestPart_L77 at hres
                refine lv_iconst (v := 0) hx hb dX9_greatestPart_77 (by decide) ?_
                exact L78 v2 v3 v5 v6 0 s0 _ _ _ hP hD hS (lv_sub hl [0, 1, 2, 3, 4, 5] rfl) hres
              have L52 : ∀ (v2 : Int32) (v3 : Int32) (v4 : Int32) (v5 : Int32) (v6 : Int32) (s0 : Int32) (H : Heap) (locs : List Loc) (ls : Array Slot), va_P D vwCl ([(moo, .inr (9, [.ref mo_toldA, .ref mo_stA, .int mo_isThere, .int mo_seed, .ref mo_textA, .int mo_typed, .int mo_faultAt, .int mo_place, .int mo_wrong, .int mo_value, .ref mo_readA, .ref mo_aheadA, .int mo_undoMany, .ref mo_asideA, .ref mo_weighingsA, .int mo_weighed, .ref mo_bookA, .int mo_entries, .ref mo_isKeptA, .ref mo_keptA, .ref mo_seedsA])), (mo_toldA, .inl (κ 0, 37, .inl mo_told)), (mo_stA, .inl (κ 0, 17, .inl mo_st)), (mo_textA, .inl (κ 0, 240, .inl mo_text)), (mo_readA, .inl (κ 0, 37, .inl mo_read)), (mo_aheadA, .inl (κ 0, 340, .inl mo_ahead)), (mo_asideA, .inl (κ 0, 17, .inl mo_aside)), (mo_weighingsA, .inl (κ 0, 12, .inl mo_weighings)), (mo_bookA, .inl (κ 0, 30, .inl mo_book)), (mo_isKeptA, .inl (κ 1, 2, .inl mo_isKept)), (mo_keptA, .inl (κ 0, 34, .inl mo_kept)), (mo_seedsA, .inl (κ 0, 2, .inl mo_seeds))]) H → va_D A ([(moo, .inr (9, [.ref mo_toldA, .ref mo_stA, .int mo_isThere, .int mo_seed, .ref mo_textA, .int mo_typed, .int mo_faultAt, .int mo_place, .int mo_wrong, .int mo_value, .ref mo_readA, .ref mo_aheadA, .int mo_undoMany, .ref mo_asideA, .ref mo_weighingsA, .int mo_weighed, .ref mo_bookA, .int mo_entries, .ref mo_isKeptA, .ref mo_keptA, .ref mo_seedsA])), (mo_toldA, .inl (κ 0, 37, .inl mo_told)), (mo_stA, .inl (κ 0, 17, .inl mo_st)), (mo_textA, .inl (κ 0, 240, .inl mo_text)), (mo_readA, .inl (κ 0, 37, .inl mo_read)), (mo_aheadA, .inl (κ 0, 340, .inl mo_ahead)), (mo_asideA, .inl (κ 0, 17, .inl mo_aside)), (mo_weighingsA, .inl (κ 0, 12, .inl mo_weighings)), (mo_bookA, .inl (κ 0, 30, .inl mo_book)), (mo_isKeptA, .inl (κ 1, 2, .inl mo_isKept)), (mo_keptA, .inl (κ 0, 34, .inl mo_kept)), (mo_seedsA, .inl (κ 0, 2, .inl mo_seeds))]) → va_S A s.heap H locs → lv_has ls 8 [(0, .ref moo), (1, .int x1), (2, .int v2), (3, .int v3), (4, .int v4), (5, .int v5), (6, .int v6)] → pX9_greatestPart_L52 (pX9_greatestPart_L30 (pX9_greatestPart_L16 (pX9_greatestPart_L4 N x1 mo_told mo_weighings mo_weighed n4) N x1 mo_told mo_weighings mo_weighed n16) (pX9_greatestPart_L4 N x1 mo_told mo_weighings mo_weighed n4) N x1 mo_told mo_weighings mo_weighed n30) (pX9_greatestPart_L16 (pX9_greatestPart_L4 N x1 mo_told mo_weighings mo_weighed n4) N x1 mo_told mo_weighings mo_weighed n16) (pX9_greatestPart_L4 N x1 mo_told mo_weighings mo_weighed n4) N mo_told mo_weighings mo_weighed v2 v3 v4 v5 v6 s0 = some (r0) → W p l e { frames := 3, cells := 0, slots := 0, locals := 300 } s m args below meth c H locs 0 0 Q (F0 m 52 ls [.int s0]) := by
                intro v2 v3 v4 v5 v6 s0 H locs ls hP hD hS hl hres
                unfold pX9_greatestPart_L52 at hres
                refine lv_istore (lv' := [(7, .int s0), (0, .ref moo), (1, .int x1), (2, .int v2), (3, .int v3), (4, .int v4), (5, .int v5), (6, .int v6)]) hx hb dX9_greatestPart_52 hl (by decide) rfl (fun ls hl => ?_)
                refine lv_iload hx hb dX9_greatestPart_54 (lv_at hl 5 rfl) ?_
                refine lv_iload hx hb dX9_greatestPart_56 (lv_at hl 0 rfl) ?_
                refine lv_iload_n hx hb dX9_greatestPart_58 rfl (lv_at hl 4 rfl) ?_
                refine lv_icmp_ne (tgt := 77) hx hb dX9_greatestPart_59 (by decide) (fun c8 => ?_) (fun c8 => ?_)
                · replace hres := og_f c8 hres
                  exact L77 v2 v3 v5 v6 v4 _ _ _ hP hD hS (lv_sub hl [1, 2, 3, 4, 6, 7] rfl) hres
                · replace hres := og_t c8 hres
                  refine lv_aload_n hx hb dX9_greatestPart_62 rfl (lv_at hl 1 rfl) ?_
                  refine lv_iload hx hb dX9_greatestPart_63 (lv_at hl 6 rfl) ?_
                  refine lv_iload hx hb dX9_greatestPart_65 (lv_at hl 7 rfl) ?_
                  obtain ⟨r9, hc10, hres⟩ := kb1_s hres
                  refine krI_V (As := [.int v5, .int v6]) (rest := [.int v4]) (wr := []) ⟨hx, hb, hml, hown, hts⟩ hK (tX9_canBe l D κ moo mo_toldA mo_stA mo_textA mo_readA mo_aheadA mo_asideA mo_weighingsA mo_bookA mo_isKeptA mo_keptA mo_seedsA N mo_told mo_st mo_isThere mo_seed mo_text mo_typed mo_faultAt mo_place mo_wrong mo_value mo_read mo_ahead mo_undoMany mo_aside mo_weighings mo_weighed mo_book mo_entries mo_isKept mo_kept mo_seeds v5 v6 r9 hc10) (cwV 2 hts gX9_greatestPart_X9_canBe rfl rfl rfl (by decide +kernel) ⟨(Nat.le_of_ble_eq_true rfl), (Nat.le_of_ble_eq_true rfl)⟩) rfl rfl rfl hP hD hS hA [0, 1, 2, 3, 4, 5, 6, 7, 8, 9, 10, 11] [] rfl rfl rfl rfl (by decide) rfl hl.1 rfl (Nat.le_of_ble_eq_true rfl) dX9_greatestPart_67 ⟨Nat.zero_le _, Nat.zero_le _⟩ (fun H locs hP hD hS => ?_)
                  have hP : va_P D vwCl ([(moo, .inr (9, [.ref mo_toldA, .ref mo_stA, .int mo_isThere, .int mo_seed, .ref mo_textA, .int mo_typed, .int mo_faultAt, .int mo_place, .int mo_wrong, .int mo_value, .ref mo_readA, .ref mo_aheadA, .int mo_undoMany, .ref mo_asideA, .ref mo_weighingsA, .int mo_weighed, .ref mo_bookA, .int mo_entries, .ref mo_isKeptA, .ref mo_keptA, .ref mo_seedsA])), (mo_toldA, .inl (κ 0, 37, .inl mo_told)), (mo_stA, .inl (κ 0, 17, .inl mo_st)), (mo_textA, .inl (κ 0, 240, .inl mo_text)), (mo_readA, .inl (κ 0, 37, .inl mo_read)), (mo_aheadA, .inl (κ 0, 340, .inl mo_ahead)), (mo_asideA, .inl (κ 0, 17, .inl mo_aside)), (mo_weighingsA, .inl (κ 0, 12, .inl mo_weighings)), (mo_bookA, .inl (κ 0, 30, .inl mo_book)), (mo_isKeptA, .inl (κ 1, 2, .inl mo_isKept)), (mo_keptA, .inl (κ 0, 34, .inl mo_kept)), (mo_seedsA, .inl (κ 0, 2, .inl mo_seeds))]) H := hP
                  have hD : va_D A ([(moo, .inr (9, [.ref mo_toldA, .ref mo_stA, .int mo_isThere, .int mo_seed, .ref mo_textA, .int mo_typed, .int mo_faultAt, .int mo_place, .int mo_wrong, .int mo_value, .ref mo_readA, .ref mo_aheadA, .int mo_undoMany, .ref mo_asideA, .ref mo_weighingsA, .int mo_weighed, .ref mo_bookA, .int mo_entries, .ref mo_isKeptA, .ref mo_keptA, .ref mo_seedsA])), (mo_toldA, .inl (κ 0, 37, .inl mo_told)), (mo_stA, .inl (κ 0, 17, .inl mo_st)), (mo_textA, .inl (κ 0, 240, .inl mo_text)), (mo_readA, .inl (κ 0, 37, .inl mo_read)), (mo_aheadA, .inl (κ 0, 340, .inl mo_ahead)), (mo_asideA, .inl (κ 0, 17, .inl mo_aside)), (mo_weighingsA, .inl (κ 0, 12, .inl mo_weighings)), (mo_bookA, .inl (κ 0, 30, .inl mo_book)), (mo_isKeptA, .inl (κ 1, 2, .inl mo_isKept)), (mo_keptA, .inl (κ 0, 34, .inl mo_kept)), (mo_seedsA, .inl (κ 0, 2, .inl mo_seeds))]) := hD
                  refine lv_if_eq (tgt := 77) hx hb dX9_greatestPart_70 (by decide) (fun c11 => ?_) (fun c11 => ?_)
                  · replace hres := og_t c11 hres
                    exact L77 v2 v3 v5 v6 v4 _ _ _ hP hD hS (lv_sub hl [1, 2, 3, 4, 6, 7] rfl) hres
                  · replace hres := og_f c11 hres
                    refine lv_iconst (v := 1) hx hb dX9_greatestPart_73 (by decide) ?_
                    refine lv_goto (tgt := 78) hx hb dX9_greatestPart_74 (by decide) ?_
                    exact L78 v2 v3 v5 v6 1 v4 _ _ _ hP hD hS (lv_sub hl [1, 2, 3, 4, 6, 7] rfl) hres
              rw [pX9_greatestPart_L30] at hres
              refine lv_iload hx hb dX9_greatestPart_30 (lv_at hl 6 rfl) ?_
              refine lv_bipush (v := 9) hx hb dX9_greatestPart_32 (by decide) ?_
              refine lv_icmp_gt (tgt := 87) hx hb dX9_greatestPart_34 (by decide) (fun c4 => ?_) (fun c4 => ?_)
              · replace hres := og_t c4 hres
                refine lv_iinc (v := (v5 + 1)) (lv' := [(5, .int (v5 + 1)), (0, .ref moo), (1, .int x1), (2, .int v2), (3, .int v3), (4, .int v4), (6, .int v6)]) hx hb dX9_greatestPart_87 hl (k := 5) rfl rfl (by decide) rfl (fun ls hl => ?_)
                refine lv_goto (tgt := 16) hx hb dX9_greatestPart_90 (by decide) ?_
                exact ih16 v2 v3 v4 (v5 + 1) _ _ _ hP hD hS (lv_sub hl [1, 2, 3, 4, 5, 0] rfl) hres
              · replace hres := og_f c4 hres
                refine lv_iload_n hx hb dX9_greatestPart_37 rfl (lv_at hl 1 rfl) ?_
                refine lv_iload hx hb dX9_greatestPart_38 (lv_at hl 5 rfl) ?_
                obtain ⟨r5, hc6, hres⟩ := kb1_s hres
                refine krI_S0 (As := [.int x1, .int v5]) (rest := []) ⟨hx, hb, hml, hown, hts⟩ hK (tX9_has l D κ x1 v5 r5 hc6) (va_cwS 2 hts gX9_greatestPart_X9_has rfl rfl rfl (by decide +kernel) ⟨(Nat.le_of_ble_eq_true rfl), (Nat.le_of_ble_eq_true rfl)⟩) hP hD hS hA rfl hl.1 rfl (Nat.le_of_ble_eq_true rfl) dX9_greatestPart_40 ⟨Nat.zero_le _, Nat.zero_le _⟩ (fun H locs hP hD hS => ?_)
                refine lv_if_eq (tgt := 51) hx hb dX9_greatestPart_43 (by decide) (fun c7 => ?_) (fun c7 => ?_)
                · replace hres := og_t c7 hres
                  refine lv_iconst (v := 0) hx hb dX9_greatestPart_51 (by decide) ?_
                  exact L52 v2 v3 v4 v5 v6 0 _ _ _ hP hD hS (lv_sub hl [0, 1, 2, 3, 4, 5, 6] rfl) hres
                · replace hres := og_f c7 hres
                  refine lv_iload hx hb dX9_greatestPart_46 (lv_at hl 6 rfl) ?_
                  refine lv_goto (tgt := 52) hx hb dX9_greatestPart_48 (by decide) ?_
                  exact L52 v2 v3 v4 v5 v6 v6 _ _ _ hP hD hS (lv_sub hl [0, 1, 2, 3, 4, 5, 6] rfl) hres
          rw [pX9_greatestPart_L16] at hres
          refine lv_iload hx hb dX9_greatestPart_16 (lv_at hl 5 rfl) ?_
          refine lv_aload_n hx hb dX9_greatestPart_18 rfl (lv_at hl 0 rfl) ?_
          refine va_get (D := D) (ci := 9) (v := .ref mo_toldA) (C := RX9) (T := TX9) (N := 21) hx hb hts iw9 hown hK.1 hP 0 rfl rfl 0 (by decide) k0 (fun _ h9 => h9) rfl dX9_greatestPart_19 ?_
          refine lv_iconst (v := 5) hx hb dX9_greatestPart_22 (by decide) ?_
          refine kr_iald (f := mo_told) (j := 5) hx hb hK hP 1 rfl (by decide) (by decide) dX9_greatestPart_23 ?_
          refine lv_icmp_ge (tgt := 93) hx hb dX9_greatestPart_24 (by decide) (fun c2 => ?_) (fun c2 => ?_)
          · replace hres := og_t c2 hres
            refine lv_iload hx hb dX9_greatestPart_93 (lv_at hl 4 rfl) ?_
            refine lv_iload_n hx hb dX9_greatestPart_95 rfl (lv_at hl 2 rfl) ?_
            refine lv_icmp_le (tgt := 104) hx hb dX9_greatestPart_96 (by decide) (fun c3 => ?_) (fun c3 => ?_)
            · replace hres := og_t c3 hres
              refine lv_iload_n hx hb dX9_greatestPart_104 rfl (lv_at hl 2 rfl) ?_
              exact L105 v3 v2 _ _ _ hP hD hS (lv_sub hl [0, 1, 3] rfl) hres
            · replace hres := og_f c3 hres
              refine lv_iload hx hb dX9_greatestPart_99 (lv_at hl 4 rfl) ?_
              refine lv_goto (tgt := 105) hx hb dX9_greatestPart_101 (by decide) ?_
              exact L105 v3 v4 _ _ _ hP hD hS (lv_sub hl [0, 1, 3] rfl) hres
          · replace hres := og_f c2 hres
            refine lv_iconst (v := 1) hx hb dX9_greatestPart_27 (by decide) ?_
            refine lv_istore (lv' := [(6, .int 1), (0, .ref moo), (1, .int x1), (2, .int v2), (3, .int v3), (4, .int v4), (5, .int v5)]) hx hb dX9_greatestPart_28 hl (by decide) rfl (fun ls hl => ?_)
            exact L30 N v2 v3 v4 v5 1 _ _ _ hP hD hS (lv_sub hl [1, 2, 3, 4, 5, 6, 0] rfl) hres
      rw [pX9_greatestPart_L4] at hres
      refine lv_iload_n hx hb dX9_greatestPart_4 rfl (lv_at hl 3 rfl) ?_
      refine lv_bipush (v := 9) hx hb dX9_greatestPart_5 (by decide) ?_
      refine lv_icmp_gt (tgt := 112) hx hb dX9_greatestPart_7 (by decide) (fun c1 => ?_) (fun c1 => ?_)
      · replace hres := og_t c1 hres
        refine lv_iload_n hx hb dX9_greatestPart_112 rfl (lv_at hl 2 rfl) ?_
        have hres := Option.some.inj hres
        have h0 := hres
        subst h0
        exact hret _ _ _ _ (vp_nar_int _) hP hD hS dX9_greatestPart_113
      · replace hres := og_f c1 hres
        refine lv_iconst (v := 0) hx hb dX9_greatestPart_10 (by decide) ?_
        refine lv_istore (lv' := [(4, .int 0), (0, .ref moo), (1, .int x1), (2, .int v2), (3, .int v3)]) hx hb dX9_greatestPart_11 hl (by decide) rfl (fun ls hl => ?_)
        refine lv_iconst (v := 0) hx hb dX9_greatestPart_13 (by decide) ?_
        refine lv_istore (lv' := [(5, .int 0), (4, .int 0), (0, .ref moo), (1, .int x1), (2, .int v2), (3, .int v3)]) hx hb dX9_greatestPart_14 hl (by decide) rfl (fun ls hl => ?_)
        exact L16 N v2 v3 0 0 _ _ _ hP hD hS (lv_sub hl [2, 3, 4, 5, 1, 0] rfl) hres
  unfold pX9_greatestPart at hres
  refine lv_iconst (v := 0) hx hb dX9_greatestPart_0 (by decide) ?_
  refine lv_istore_n (lv' := [(2, .int 0), (0, .ref moo), (1, .int x1)]) hx hb dX9_greatestPart_1 rfl hl (by decide) rfl (fun ls hl => ?_)
  refine lv_iconst (v := 0) hx hb dX9_greatestPart_2 (by decide) ?_
  refine lv_istore_n (lv' := [(3, .int 0), (2, .int 0), (0, .ref moo), (1, .int x1)]) hx hb dX9_greatestPart_3 rfl hl (by decide) rfl (fun ls hl => ?_)
  exact L4 N 0 0 _ _ _ hP hD hS (lv_sub hl [2, 3, 1, 0] rfl) hres

def pX9_weighNext_L53 (k10 : Int32 → Int32 → Int32 → Option (Int32)) (v1 : Int32) (v3 : Int32) (s0 : Int32) : Option (Int32) :=
    k10 v1 s0 (v3 + 1)
def pX9_weighNext_L40 (k10 : Int32 → Int32 → Int32 → Option (Int32)) (v2 : Int32) (v3 : Int32) (v4 : Int32) (s0 : Int32) : Option (Int32) :=
    (if v2 ≤ v4 then
    pX9_weighNext_L53 k10 s0 v3 v2
    else
    pX9_weighNext_L53 k10 s0 v3 v4)
def pX9_weighNext_L10 (N : Nat) (mo_told : Nat → Int32) (mo_weighings : Nat → Int32) (mo_weighed : Int32) : Nat → Int32 → Int32 → Int32 → Option (Int32)
  | 0, _, _, _ => none
  | n10 + 1, v1, v2, v3 =>
    (if ((1 : Int32) <<< ((mo_told 5) &&& 31)) ≤ v3 then
    some (v1)
    else
    kb1 (pX9_greatestPart N v3 mo_told mo_weighings mo_weighed) fun r4 =>
    (if v2 ≤ r4 then
    pX9_weighNext_L40 (pX9_weighNext_L10 N mo_told mo_weighings mo_weighed n10) v2 v3 r4 v1
    else
    pX9_weighNext_L40 (pX9_weighNext_L10 N mo_told mo_weighings mo_weighed n10) v2 v3 r4 v3))
def pX9_weighNext (N : Nat) (mo_told : Nat → Int32) (mo_weighings : Nat → Int32) (mo_weighed : Int32) : Option (Int32) :=
    kb1 (pX9_greatestPart N 0 mo_told mo_weighings mo_weighed) fun r1 =>
    pX9_weighNext_L10 N mo_told mo_weighings mo_weighed N (-1) r1 1
set_option maxHeartbeats 8000000 in
set_option maxRecDepth 100000 in
theorem tX9_weighNext (l : Launch) (D : va_G) (κ : Nat → ClassId) (moo : Nat) (mo_toldA : Nat) (mo_stA : Nat) (mo_textA : Nat) (mo_readA : Nat) (mo_aheadA : Nat) (mo_asideA : Nat) (mo_weighingsA : Nat) (mo_bookA : Nat) (mo_isKeptA : Nat) (mo_keptA : Nat) (mo_seedsA : Nat) (N : Nat) (mo_told : Nat → Int32) (mo_st : Nat → Int32) (mo_isThere : Int32) (mo_seed : Int32) (mo_text : Nat → Int32) (mo_typed : Int32) (mo_faultAt : Int32) (mo_place : Int32) (mo_wrong : Int32) (mo_value : Int32) (mo_read : Nat → Int32) (mo_ahead : Nat → Int32) (mo_undoMany : Int32) (mo_aside : Nat → Int32) (mo_weighings : Nat → Int32) (mo_weighed : Int32) (mo_book : Nat → Int32) (mo_entries : Int32) (mo_isKept : Nat → Int32) (mo_kept : Nat → Int32) (mo_seeds : Nat → Int32) (r0 : Int32) (hres : pX9_weighNext N mo_told mo_weighings mo_weighed = some (r0)) : krI l yX9_weighNext wsX9_weighNext { frames := 4, cells := 0, slots := 0, locals := 400 } D κ [.ref moo] ([(moo, .inr (9, [.ref mo_toldA, .ref mo_stA, .int mo_isThere, .int mo_seed, .ref mo_textA, .int mo_typed, .int mo_faultAt, .int mo_place, .int mo_wrong, .int mo_value, .ref mo_readA, .ref mo_aheadA, .int mo_undoMany, .ref mo_asideA, .ref mo_weighingsA, .int mo_weighed, .ref mo_bookA, .int mo_entries, .ref mo_isKeptA, .ref mo_keptA, .ref mo_seedsA])), (mo_toldA, .inl (κ 0, 37, .inl mo_told)), (mo_stA, .inl (κ 0, 17, .inl mo_st)), (mo_textA, .inl (κ 0, 240, .inl mo_text)), (mo_readA, .inl (κ 0, 37, .inl mo_read)), (mo_aheadA, .inl (κ 0, 340, .inl mo_ahead)), (mo_asideA, .inl (κ 0, 17, .inl mo_aside)), (mo_weighingsA, .inl (κ 0, 12, .inl mo_weighings)), (mo_bookA, .inl (κ 0, 30, .inl mo_book)), (mo_isKeptA, .inl (κ 1, 2, .inl mo_isKept)), (mo_keptA, .inl (κ 0, 34, .inl mo_kept)), (mo_seedsA, .inl (κ 0, 2, .inl mo_seeds))]) ([(moo, .inr (9, [.ref mo_toldA, .ref mo_stA, .int mo_isThere, .int mo_seed, .ref mo_textA, .int mo_typed, .int mo_faultAt, .int mo_place, .int mo_wrong, .int mo_value, .ref mo_readA, .ref mo_aheadA, .int mo_undoMany, .ref mo_asideA, .ref mo_weighingsA, .int mo_weighed, .ref mo_bookA, .int mo_entries, .ref mo_isKeptA, .ref mo_keptA, .ref mo_seedsA])), (mo_toldA, .inl (κ 0, 37, .inl mo_told)), (mo_stA, .inl (κ 0, 17, .inl mo_st)), (mo_textA, .inl (κ 0, 240, .inl mo_text)), (mo_readA, .inl (κ 0, 37, .inl mo_read)), (mo_aheadA, .inl (κ 0, 340, .inl mo_ahead)), (mo_asideA, .inl (κ 0, 17, .inl mo_aside)), (mo_weighingsA, .inl (κ 0, 12, .inl mo_weighings)), (mo_bookA, .inl (κ 0, 30, .inl mo_book)), (mo_isKeptA, .inl (κ 1, 2, .inl mo_isKept)), (mo_keptA, .inl (κ 0, 34, .inl mo_kept)), (mo_seedsA, .inl (κ 0, 2, .inl mo_seeds))]) r0 := by
  refine krI_of (cc := cX9_weighNext) (maxL := 5) (rt := .int) (by decide) rfl (Nat.le_of_ble_eq_true rfl) ?_
  intro p e s m args below meth c A Q ls hx hb hml hown hts hK hA hret hP hD hS hl
  have hown : s.vm.findClass RX9 = some m.cls := hown
  have hl : lv_has ls 5 [(0, .ref moo)] := hl
  have iw9 : ∀ w ∈ u_ws RX9 TX9 21, w ∈ wsX9_weighNext := (fun _ h => List.mem_cons_of_mem _ (List.mem_append_right _ h))
  have k0 : (Cond.fieldLink RX9 7 "KingRansomModel" "told" "[I").before args s = true := hts _ (List.mem_of_getElem? (i := 1) rfl)
  have L10 : ∀ (n10 : Nat) (v1 : Int32) (v2 : Int32) (v3 : Int32) (H : Heap) (locs : List Loc) (ls : Array Slot), va_P D vwCl ([(moo, .inr (9, [.ref mo_toldA, .ref mo_stA, .int mo_isThere, .int mo_seed, .ref mo_textA, .int mo_typed, .int mo_faultAt, .int mo_place, .int mo_wrong, .int mo_value, .ref mo_readA, .ref mo_aheadA, .int mo_undoMany, .ref mo_asideA, .ref mo_weighingsA, .int mo_weighed, .ref mo_bookA, .int mo_entries, .ref mo_isKeptA, .ref mo_keptA, .ref mo_seedsA])), (mo_toldA, .inl (κ 0, 37, .inl mo_told)), (mo_stA, .inl (κ 0, 17, .inl mo_st)), (mo_textA, .inl (κ 0, 240, .inl mo_text)), (mo_readA, .inl (κ 0, 37, .inl mo_read)), (mo_aheadA, .inl (κ 0, 340, .inl mo_ahead)), (mo_asideA, .inl (κ 0, 17, .inl mo_aside)), (mo_weighingsA, .inl (κ 0, 12, .inl mo_weighings)), (mo_bookA, .inl (κ 0, 30, .inl mo_book)), (mo_isKeptA, .inl (κ 1, 2, .inl mo_isKept)), (mo_keptA, .inl (κ 0, 34, .inl mo_kept)), (mo_seedsA, .inl (κ 0, 2, .inl mo_seeds))]) H → va_D A ([(moo, .inr (9, [.ref mo_toldA, .ref mo_stA, .int mo_isThere, .int mo_seed, .ref mo_textA, .int mo_typed, .int mo_faultAt, .int mo_place, .int mo_wrong, .int mo_value, .ref mo_readA, .ref mo_aheadA, .int mo_undoMany, .ref mo_asideA, .ref mo_weighingsA, .int mo_weighed, .ref mo_bookA, .int mo_entries, .ref mo_isKeptA, .ref mo_keptA, .ref mo_seedsA])), (mo_toldA, .inl (κ 0, 37, .inl mo_told)), (mo_stA, .inl (κ 0, 17, .inl mo_st)), (mo_textA, .inl (κ 0, 240, .inl mo_text)), (mo_readA, .inl (κ 0, 37, .inl mo_read)), (mo_aheadA, .inl (κ 0, 340, .inl mo_ahead)), (mo_asideA, .inl (κ 0, 17, .inl mo_aside)), (mo_weighingsA, .inl (κ 0, 12, .inl mo_weighings)), (mo_bookA, .inl (κ 0, 30, .inl mo_book)), (mo_isKeptA, .inl (κ 1, 2, .inl mo_isKept)), (mo_keptA, .inl (κ 0, 34, .inl mo_kept)), (mo_seedsA, .inl (κ 0, 2, .inl mo_seeds))]) → va_S A s.heap H locs → lv_has ls 5 [(0, .ref moo), (1, .int v1), (2, .int v2), (3, .int v3)] → pX9_weighNext_L10 N mo_told mo_weighings mo_weighed n10 v1 v2 v3 = some (r0) → W p l e { frames := 4, cells := 0, slots := 0, locals := 400 } s m args below meth c H locs 0 0 Q (F0 m 10 ls []) := by
    intro n10
    induction n10 with
    | zero =>
      intro v1 v2 v3 H locs ls hP hD hS hl hres
      exact absurd (show none = some _ from hres) (by simp)
    | succ n10 ih10 =>
      intro v1 v2 v3 H locs ls hP hD hS hl hres
      have L53 : ∀ (v1 : Int32) (v3 : Int32) (s0 : Int32) (H : Heap) (locs : List Loc) (ls : Array Slot), va_P D vwCl ([(moo, .inr (9, [.ref mo_toldA, .ref mo_stA, .int mo_isThere, .int mo_seed, .ref mo_textA, .int mo_typed, .int mo_faultAt, .int mo_place, .int mo_wrong, .int mo_value, .ref mo_readA, .ref mo_aheadA, .int mo_undoMany, .ref mo_asideA, .ref mo_weighingsA, .int mo_weighed, .ref mo_bookA, .int mo_entries, .ref mo_isKeptA, .ref mo_keptA, .ref mo_seedsA])), (mo_toldA, .inl (κ 0, 37, .inl mo_told)), (mo_stA, .inl (κ 0, 17, .inl mo_st)), (mo_textA, .inl (κ 0, 240, .inl mo_text)), (mo_readA, .inl (κ 0, 37, .inl mo_read)), (mo_aheadA, .inl (κ 0, 340, .inl mo_ahead)), (mo_asideA, .inl (κ 0, 17, .inl mo_aside)), (mo_weighingsA, .inl (κ 0, 12, .inl mo_weighings)), (mo_bookA, .inl (κ 0, 30, .inl mo_book)), (mo_isKeptA, .inl (κ 1, 2, .inl mo_isKept)), (mo_keptA, .inl (κ 0, 34, .inl mo_kept)), (mo_seedsA, .inl (κ 0, 2, .inl mo_seeds))]) H → va_D A ([(moo, .inr (9, [.ref mo_toldA, .ref mo_stA, .int mo_isThere, .int mo_seed, .ref mo_textA, .int mo_typed, .int mo_faultAt, .int mo_place, .int mo_wrong, .int mo_value, .ref mo_readA, .ref mo_aheadA, .int mo_undoMany, .ref mo_asideA, .ref mo_weighingsA, .int mo_weighed, .ref mo_bookA, .int mo_entries, .ref mo_isKeptA, .ref mo_keptA, .ref mo_seedsA])), (mo_toldA, .inl (κ 0, 37, .inl mo_told)), (mo_stA, .inl (κ 0, 17, .inl mo_st)), (mo_textA, .inl (κ 0, 240, .inl mo_text)), (mo_readA, .inl (κ 0, 37, .inl mo_read)), (mo_aheadA, .inl (κ 0, 340, .inl mo_ahead)), (mo_asideA, .inl (κ 0, 17, .inl mo_aside)), (mo_weighingsA, .inl (κ 0, 12, .inl mo_weighings)), (mo_bookA, .inl (κ 0, 30, .inl mo_book)), (mo_isKeptA, .inl (κ 1, 2, .inl mo_isKept)), (mo_keptA, .inl (κ 0, 34, .inl mo_kept)), (mo_seedsA, .inl (κ 0, 2, .inl mo_seeds))]) → va_S A s.heap H locs → lv_has ls 5 [(0, .ref moo), (1, .int v1), (3, .int v3)] → pX9_weighNext_L53 (pX9_weighNext_L10 N mo_told mo_weighings mo_weighed n10) v1 v3 s0 = some (r0) → W p l e { frames := 4, cells := 0, slots := 0, locals := 400 } s m args below meth c H locs 0 0 Q (F0 m 53 ls [.int s0]) := by
        intro v1 v3 s0 H locs ls hP hD hS hl hres
        unfold pX9_weighNext_L53 at hres
        refine lv_istore_n (lv' := [(2, .int s0), (0, .ref moo), (1, .int v1), (3, .int v3)]) hx hb dX9_weighNext_53 rfl hl (by decide) rfl (fun ls hl => ?_)
        refine lv_iinc (v := (v3 + 1)) (lv' := [(3, .int (v3 + 1)), (2, .int s0), (0, .ref moo), (1, .int v1)]) hx hb dX9_weighNext_54 hl (k := 3) rfl rfl (by decide) rfl (fun ls hl => ?_)
        refine lv_goto (tgt := 10) hx hb dX9_weighNext_57 (by decide) ?_
        exact ih10 v1 s0 (v3 + 1) _ _ _ hP hD hS (lv_sub hl [2, 3, 1, 0] rfl) hres
      have L40 : ∀ (v2 : Int32) (v3 : Int32) (v4 : Int32) (s0 : Int32) (H : Heap) (locs : List Loc) (ls : Array Slot), va_P D vwCl ([(moo, .inr (9, [.ref mo_toldA, .ref mo_stA, .int mo_isThere, .int mo_seed, .ref mo_textA, .int mo_typed, .int mo_faultAt, .int mo_place, .int mo_wrong, .int mo_value, .ref mo_readA, .ref mo_aheadA, .int mo_undoMany, .ref mo_asideA, .ref mo_weighingsA, .int mo_weighed, .ref mo_bookA, .int mo_entries, .ref mo_isKeptA, .ref mo_keptA, .ref mo_seedsA])), (mo_toldA, .inl (κ 0, 37, .inl mo_told)), (mo_stA, .inl (κ 0, 17, .inl mo_st)), (mo_textA, .inl (κ 0, 240, .inl mo_text)), (mo_readA, .inl (κ 0, 37, .inl mo_read)), (mo_aheadA, .inl (κ 0, 340, .inl mo_ahead)), (mo_asideA, .inl (κ 0, 17, .inl mo_aside)), (mo_weighingsA, .inl (κ 0, 12, .inl mo_weighings)), (mo_bookA, .inl (κ 0, 30, .inl mo_book)), (mo_isKeptA, .inl (κ 1, 2, .inl mo_isKept)), (mo_keptA, .inl (κ 0, 34, .inl mo_kept)), (mo_seedsA, .inl (κ 0, 2, .inl mo_seeds))]) H → va_D A ([(moo, .inr (9, [.ref mo_toldA, .ref mo_stA, .int mo_isThere, .int mo_seed, .ref mo_textA, .int mo_typed, .int mo_faultAt, .int mo_place, .int mo_wrong, .int mo_value, .ref mo_readA, .ref mo_aheadA, .int mo_undoMany, .ref mo_asideA, .ref mo_weighingsA, .int mo_weighed, .ref mo_bookA, .int mo_entries, .ref mo_isKeptA, .ref mo_keptA, .ref mo_seedsA])), (mo_toldA, .inl (κ 0, 37, .inl mo_told)), (mo_stA, .inl (κ 0, 17, .inl mo_st)), (mo_textA, .inl (κ 0, 240, .inl mo_text)), (mo_readA, .inl (κ 0, 37, .inl mo_read)), (mo_aheadA, .inl (κ 0, 340, .inl mo_ahead)), (mo_asideA, .inl (κ 0, 17, .inl mo_aside)), (mo_weighingsA, .inl (κ 0, 12, .inl mo_weighings)), (mo_bookA, .inl (κ 0, 30, .inl mo_book)), (mo_isKeptA, .inl (κ 1, 2, .inl mo_isKept)), (mo_keptA, .inl (κ 0, 34, .inl mo_kept)), (mo_seedsA, .inl (κ 0, 2, .inl mo_seeds))]) → va_S A s.heap H locs → lv_has ls 5 [(0, .ref moo), (2, .int v2), (3, .int v3), (4, .int v4)] → pX9_weighNext_L40 (pX9_weighNext_L10 N mo_told mo_weighings mo_weighed n10) v2 v3 v4 s0 = some (r0) → W p l e { frames := 4, cells := 0, slots := 0, locals := 400 } s m args below meth c H locs 0 0 Q (F0 m 40 ls [.int s0]) := by
        intro v2 v3 v4 s0 H locs ls hP hD hS hl hres
        unfold pX9_weighNext_L40 at hres
        refine lv_istore_n (lv' := [(1, .int s0), (0, .ref moo), (2, .int v2), (3, .int v3), (4, .int v4)]) hx hb dX9_weighNext_40 rfl hl (by decide) rfl (fun ls hl => ?_)
        refine lv_iload hx hb dX9_weighNext_41 (lv_at hl 4 rfl) ?_
        refine lv_iload_n hx hb dX9_weighNext_43 rfl (lv_at hl 2 rfl) ?_
        refine lv_icmp_ge (tgt := 52) hx hb dX9_weighNext_44 (by decide) (fun c7 => ?_) (fun c7 => ?_)
        · replace hres := og_t c7 hres
          refine lv_iload_n hx hb dX9_weighNext_52 rfl (lv_at hl 2 rfl) ?_
          exact L53 s0 v3 v2 _ _ _ hP hD hS (lv_sub hl [1, 0, 3] rfl) hres
        · replace hres := og_f c7 hres
          refine lv_iload hx hb dX9_weighNext_47 (lv_at hl 4 rfl) ?_
          refine lv_goto (tgt := 53) hx hb dX9_weighNext_49 (by decide) ?_
          exact L53 s0 v3 v4 _ _ _ hP hD hS (lv_sub hl [1, 0, 3] rfl) hres
      rw [pX9_weighNext_L10] at hres
      refine lv_iload_n hx hb dX9_weighNext_10 rfl (lv_at hl 3 rfl) ?_
      refine lv_iconst (v := 1) hx hb dX9_weighNext_11 (by decide) ?_
      refine lv_aload_n hx hb dX9_weighNext_12 rfl (lv_at hl 0 rfl) ?_
      refine va_get (D := D) (ci := 9) (v := .ref mo_toldA) (C := RX9) (T := TX9) (N := 21) hx hb hts iw9 hown hK.1 hP 0 rfl rfl 0 (by decide) k0 (fun _ h9 => h9) rfl dX9_weighNext_13 ?_
      refine lv_iconst (v := 5) hx hb dX9_weighNext_16 (by decide) ?_
      refine kr_iald (f := mo_told) (j := 5) hx hb hK hP 1 rfl (by decide) (by decide) dX9_weighNext_17 ?_
      refine lv_ishl hx hb dX9_weighNext_18 ?_
      refine lv_icmp_ge (tgt := 60) hx hb dX9_weighNext_19 (by decide) (fun c3 => ?_) (fun c3 => ?_)
      · replace hres := og_t c3 hres
        refine lv_iload_n hx hb dX9_weighNext_60 rfl (lv_at hl 1 rfl) ?_
        have hres := Option.some.inj hres
        have h0 := hres
        subst h0
        exact hret _ _ _ _ (vp_nar_int _) hP hD hS dX9_weighNext_61
      · replace hres := og_f c3 hres
        refine lv_aload_n hx hb dX9_weighNext_22 rfl (lv_at hl 0 rfl) ?_
        refine lv_iload_n hx hb dX9_weighNext_23 rfl (lv_at hl 3 rfl) ?_
        obtain ⟨r4, hc5, hres⟩ := kb1_s hres
        refine krI_V (As := [.int v3]) (rest := []) (wr := []) ⟨hx, hb, hml, hown, hts⟩ hK (tX9_greatestPart l D κ moo mo_toldA mo_stA mo_textA mo_readA mo_aheadA mo_asideA mo_weighingsA mo_bookA mo_isKeptA mo_keptA mo_seedsA N mo_told mo_st mo_isThere mo_seed mo_text mo_typed mo_faultAt mo_place mo_wrong mo_value mo_read mo_ahead mo_undoMany mo_aside mo_weighings mo_weighed mo_book mo_entries mo_isKept mo_kept mo_seeds v3 r4 hc5) (cwV 1 hts gX9_weighNext_X9_greatestPart rfl rfl rfl (by decide +kernel) ⟨(Nat.le_of_ble_eq_true rfl), (Nat.le_of_ble_eq_true rfl)⟩) rfl rfl rfl hP hD hS hA [0, 1, 2, 3, 4, 5, 6, 7, 8, 9, 10, 11] [] rfl rfl rfl rfl (by decide) rfl hl.1 rfl (Nat.le_of_ble_eq_true rfl) dX9_weighNext_24 ⟨Nat.zero_le _, Nat.zero_le _⟩ (fun H locs hP hD hS => ?_)
        have hP : va_P D vwCl ([(moo, .inr (9, [.ref mo_toldA, .ref mo_stA, .int mo_isThere, .int mo_seed, .ref mo_textA, .int mo_typed, .int mo_faultAt, .int mo_place, .int mo_wrong, .int mo_value, .ref mo_readA, .ref mo_aheadA, .int mo_undoMany, .ref mo_asideA, .ref mo_weighingsA, .int mo_weighed, .ref mo_bookA, .int mo_entries, .ref mo_isKeptA, .ref mo_keptA, .ref mo_seedsA])), (mo_toldA, .inl (κ 0, 37, .inl mo_told)), (mo_stA, .inl (κ 0, 17, .inl mo_st)), (mo_textA, .inl (κ 0, 240, .inl mo_text)), (mo_readA, .inl (κ 0, 37, .inl mo_read)), (mo_aheadA, .inl (κ 0, 340, .inl mo_ahead)), (mo_asideA, .inl (κ 0, 17, .inl mo_aside)), (mo_weighingsA, .inl (κ 0, 12, .inl mo_weighings)), (mo_bookA, .inl (κ 0, 30, .inl mo_book)), (mo_isKeptA, .inl (κ 1, 2, .inl mo_isKept)), (mo_keptA, .inl (κ 0, 34, .inl mo_kept)), (mo_seedsA, .inl (κ 0, 2, .inl mo_seeds))]) H := hP
        have hD : va_D A ([(moo, .inr (9, [.ref mo_toldA, .ref mo_stA, .int mo_isThere, .int mo_seed, .ref mo_textA, .int mo_typed, .int mo_faultAt, .int mo_place, .int mo_wrong, .int mo_value, .ref mo_readA, .ref mo_aheadA, .int mo_undoMany, .ref mo_asideA, .ref mo_weighingsA, .int mo_weighed, .ref mo_bookA, .int mo_entries, .ref mo_isKeptA, .ref mo_keptA, .ref mo_seedsA])), (mo_toldA, .inl (κ 0, 37, .inl mo_told)), (mo_stA, .inl (κ 0, 17, .inl mo_st)), (mo_textA, .inl (κ 0, 240, .inl mo_text)), (mo_readA, .inl (κ 0, 37, .inl mo_read)), (mo_aheadA, .inl (κ 0, 340, .inl mo_ahead)), (mo_asideA, .inl (κ 0, 17, .inl mo_aside)), (mo_weighingsA, .inl (κ 0, 12, .inl mo_weighings)), (mo_bookA, .inl (κ 0, 30, .inl mo_book)), (mo_isKeptA, .inl (κ 1, 2, .inl mo_isKept)), (mo_keptA, .inl (κ 0, 34, .inl mo_kept)), (mo_seedsA, .inl (κ 0, 2, .inl mo_seeds))]) := hD
        refine lv_istore (lv' := [(4, .int r4), (0, .ref moo), (1, .int v1), (2, .int v2), (3, .int v3)]) hx hb dX9_weighNext_27 hl (by decide) rfl (fun ls hl => ?_)
        refine lv_iload hx hb dX9_weighNext_29 (lv_at hl 0 rfl) ?_
        refine lv_iload_n hx hb dX9_weighNext_31 rfl (lv_at hl 3 rfl) ?_
        refine lv_icmp_ge (tgt := 39) hx hb dX9_weighNext_32 (by decide) (fun c6 => ?_) (fun c6 => ?_)
        · replace hres := og_t c6 hres
          refine lv_iload_n hx hb dX9_weighNext_39 rfl (lv_at hl 2 rfl) ?_
          exact L40 v2 v3 r4 v1 _ _ _ hP hD hS (lv_sub hl [1, 3, 4, 0] rfl) hres
        · replace hres := og_f c6 hres
          refine lv_iload_n hx hb dX9_weighNext_35 rfl (lv_at hl 4 rfl) ?_
          refine lv_goto (tgt := 40) hx hb dX9_weighNext_36 (by decide) ?_
          exact L40 v2 v3 r4 v3 _ _ _ hP hD hS (lv_sub hl [1, 3, 4, 0] rfl) hres
  unfold pX9_weighNext at hres
  refine lv_iconst (v := (-1)) hx hb dX9_weighNext_0 (by decide) ?_
  refine lv_istore_n (lv' := [(1, .int (-1)), (0, .ref moo)]) hx hb dX9_weighNext_1 rfl hl (by decide) rfl (fun ls hl => ?_)
  refine lv_aload_n hx hb dX9_weighNext_2 rfl (lv_at hl 1 rfl) ?_
  refine lv_iconst (v := 0) hx hb dX9_weighNext_3 (by decide) ?_
  obtain ⟨r1, hc2, hres⟩ := kb1_s hres
  refine krI_V (As := [.int 0]) (rest := []) (wr := []) ⟨hx, hb, hml, hown, hts⟩ hK (tX9_greatestPart l D κ moo mo_toldA mo_stA mo_textA mo_readA mo_aheadA mo_asideA mo_weighingsA mo_bookA mo_isKeptA mo_keptA mo_seedsA N mo_told mo_st mo_isThere mo_seed mo_text mo_typed mo_faultAt mo_place mo_wrong mo_value mo_read mo_ahead mo_undoMany mo_aside mo_weighings mo_weighed mo_book mo_entries mo_isKept mo_kept mo_seeds 0 r1 hc2) (cwV 1 hts gX9_weighNext_X9_greatestPart rfl rfl rfl (by decide +kernel) ⟨(Nat.le_of_ble_eq_true rfl), (Nat.le_of_ble_eq_true rfl)⟩) rfl rfl rfl hP hD hS hA [0, 1, 2, 3, 4, 5, 6, 7, 8, 9, 10, 11] [] rfl rfl rfl rfl (by decide) rfl hl.1 rfl (Nat.le_of_ble_eq_true rfl) dX9_weighNext_4 ⟨Nat.zero_le _, Nat.zero_le _⟩ (fun H locs hP hD hS => ?_)
  have hP : va_P D vwCl ([(moo, .inr (9, [.ref mo_toldA, .ref mo_stA, .int mo_isThere, .int mo_seed, .ref mo_textA, .int mo_typed, .int mo_faultAt, .int mo_place, .int mo_wrong, .int mo_value, .ref mo_readA, .ref mo_aheadA, .int mo_undoMany, .ref mo_asideA, .ref mo_weighingsA, .int mo_weighed, .ref mo_bookA, .int mo_entries, .ref mo_isKeptA, .ref mo_keptA, .ref mo_seedsA])), (mo_toldA, .inl (κ 0, 37, .inl mo_told)), (mo_stA, .inl (κ 0, 17, .inl mo_st)), (mo_textA, .inl (κ 0, 240, .inl mo_text)), (mo_readA, .inl (κ 0, 37, .inl mo_read)), (mo_aheadA, .inl (κ 0, 340, .inl mo_ahead)), (mo_asideA, .inl (κ 0, 17, .inl mo_aside)), (mo_weighingsA, .inl (κ 0, 12, .inl mo_weighings)), (mo_bookA, .inl (κ 0, 30, .inl mo_book)), (mo_isKeptA, .inl (κ 1, 2, .inl mo_isKept)), (mo_keptA, .inl (κ 0, 34, .inl mo_kept)), (mo_seedsA, .inl (κ 0, 2, .inl mo_seeds))]) H := hP
  have hD : va_D A ([(moo, .inr (9, [.ref mo_toldA, .ref mo_stA, .int mo_isThere, .int mo_seed, .ref mo_textA, .int mo_typed, .int mo_faultAt, .int mo_place, .int mo_wrong, .int mo_value, .ref mo_readA, .ref mo_aheadA, .int mo_undoMany, .ref mo_asideA, .ref mo_weighingsA, .int mo_weighed, .ref mo_bookA, .int mo_entries, .ref mo_isKeptA, .ref mo_keptA, .ref mo_seedsA])), (mo_toldA, .inl (κ 0, 37, .inl mo_told)), (mo_stA, .inl (κ 0, 17, .inl mo_st)), (mo_textA, .inl (κ 0, 240, .inl mo_text)), (mo_readA, .inl (κ 0, 37, .inl mo_read)), (mo_aheadA, .inl (κ 0, 340, .inl mo_ahead)), (mo_asideA, .inl (κ 0, 17, .inl mo_aside)), (mo_weighingsA, .inl (κ 0, 12, .inl mo_weighings)), (mo_bookA, .inl (κ 0, 30, .inl mo_book)), (mo_isKeptA, .inl (κ 1, 2, .inl mo_isKept)), (mo_keptA, .inl (κ 0, 34, .inl mo_kept)), (mo_seedsA, .inl (κ 0, 2, .inl mo_seeds))]) := hD
  refine lv_istore_n (lv' := [(2, .int r1), (1, .int (-1)), (0, .ref moo)]) hx hb dX9_weighNext_7 rfl hl (by decide) rfl (fun ls hl => ?_)
  refine lv_iconst (v := 1) hx hb dX9_weighNext_8 (by decide) ?_
  refine lv_istore_n (lv' := [(3, .int 1), (2, .int r1), (1, .int (-1)), (0, .ref moo)]) hx hb dX9_weighNext_9 rfl hl (by decide) rfl (fun ls hl => ?_)
  exact L10 N (-1) r1 1 _ _ _ hP hD hS (lv_sub hl [3, 2, 1, 0] rfl) hres

def pX9_isShort_L71 (k32 : Int32 → Int32 → Int32 → Int32 → Option (Int32)) (k18 : Int32 → Int32 → Int32 → Option (Int32)) (v2 : Int32) (v3 : Int32) (v4 : Int32) (v5 : Int32) : Option (Int32) :=
    k32 v2 v3 v4 (v5 + 1)
def pX9_isShort_L67 (k32 : Int32 → Int32 → Int32 → Int32 → Option (Int32)) (k18 : Int32 → Int32 → Int32 → Option (Int32)) (v2 : Int32) (v4 : Int32) (v5 : Int32) (s0 : Int32) : Option (Int32) :=
    pX9_isShort_L71 k32 k18 (v2 + 1) s0 v4 v5
def pX9_isShort_L32 (k18 : Int32 → Int32 → Int32 → Option (Int32)) (N : Nat) (x1 : Int32) (mo_told : Nat → Int32) (mo_weighings : Nat → Int32) (mo_weighed : Int32) : Nat → Int32 → Int32 → Int32 → Int32 → Option (Int32)
  | 0, _, _, _, _ => none
  | n32 + 1, v2, v3, v4, v5 =>
    (if 9 < v5 then
    k18 v2 v3 (v4 + 1)
    else
    kb1 (pX9_canBe N v4 v5 mo_told mo_weighings mo_weighed) fun r7 =>
    (if r7 = 0 then
    pX9_isShort_L71 (pX9_isShort_L32 k18 N x1 mo_told mo_weighings mo_weighed n32) k18 v2 v3 v4 v5
    else
    (if v2 = x1 then
    pX9_isShort_L67 (pX9_isShort_L32 k18 N x1 mo_told mo_weighings mo_weighed n32) k18 v2 v4 v5 ((10 * v4) + v5)
    else
    pX9_isShort_L67 (pX9_isShort_L32 k18 N x1 mo_told mo_weighings mo_weighed n32) k18 v2 v4 v5 v3)))
def pX9_isShort_L18 (N : Nat) (x1 : Int32) (mo_told : Nat → Int32) (mo_weighings : Nat → Int32) (mo_weighed : Int32) : Nat → Int32 → Int32 → Int32 → Option (Int32)
  | 0, _, _, _ => none
  | n18 + 1, v2, v3, v4 =>
    (if (mo_told 5) ≤ v4 then
    (if x1 = (-1) then
    some (v2)
    else
    some (v3))
    else
    pX9_isShort_L32 (pX9_isShort_L18 N x1 mo_told mo_weighings mo_weighed n18) N x1 mo_told mo_weighings mo_weighed N v2 v3 v4 1)
def pX9_isShort (N : Nat) (x1 : Int32) (mo_told : Nat → Int32) (mo_weighings : Nat → Int32) (mo_weighed : Int32) : Option (Int32) :=
    (if x1 = (-2) then
    kb1 (pX9_weighNext N mo_told mo_weighings mo_weighed) fun r2 =>
    some (r2)
    else
    pX9_isShort_L18 N x1 mo_told mo_weighings mo_weighed N 0 (-1) 0)
set_option maxHeartbeats 8000000 in
set_option maxRecDepth 100000 in
theorem tX9_isShort (l : Launch) (D : va_G) (κ : Nat → ClassId) (moo : Nat) (mo_toldA : Nat) (mo_stA : Nat) (mo_textA : Nat) (mo_readA : Nat) (mo_aheadA : Nat) (mo_asideA : Nat) (mo_weighingsA : Nat) (mo_bookA : Nat) (mo_isKeptA : Nat) (mo_keptA : Nat) (mo_seedsA : Nat) (N : Nat) (mo_told : Nat → Int32) (mo_st : Nat → Int32) (mo_isThere : Int32) (mo_seed : Int32) (mo_text : Nat → Int32) (mo_typed : Int32) (mo_faultAt : Int32) (mo_place : Int32) (mo_wrong : Int32) (mo_value : Int32) (mo_read : Nat → Int32) (mo_ahead : Nat → Int32) (mo_undoMany : Int32) (mo_aside : Nat → Int32) (mo_weighings : Nat → Int32) (mo_weighed : Int32) (mo_book : Nat → Int32) (mo_entries : Int32) (mo_isKept : Nat → Int32) (mo_kept : Nat → Int32) (mo_seeds : Nat → Int32) (x1 : Int32) (r0 : Int32) (hres : pX9_isShort N x1 mo_told mo_weighings mo_weighed = some (r0)) : krI l yX9_isShort wsX9_isShort { frames := 5, cells := 0, slots := 0, locals := 500 } D κ [.ref moo, .int x1] ([(moo, .inr (9, [.ref mo_toldA, .ref mo_stA, .int mo_isThere, .int mo_seed, .ref mo_textA, .int mo_typed, .int mo_faultAt, .int mo_place, .int mo_wrong, .int mo_value, .ref mo_readA, .ref mo_aheadA, .int mo_undoMany, .ref mo_asideA, .ref mo_weighingsA, .int mo_weighed, .ref mo_bookA, .int mo_entries, .ref mo_isKeptA, .ref mo_keptA, .ref mo_seedsA])), (mo_toldA, .inl (κ 0, 37, .inl mo_told)), (mo_stA, .inl (κ 0, 17, .inl mo_st)), (mo_textA, .inl (κ 0, 240, .inl mo_text)), (mo_readA, .inl (κ 0, 37, .inl mo_read)), (mo_aheadA, .inl (κ 0, 340, .inl mo_ahead)), (mo_asideA, .inl (κ 0, 17, .inl mo_aside)), (mo_weighingsA, .inl (κ 0, 12, .inl mo_weighings)), (mo_bookA, .inl (κ 0, 30, .inl mo_book)), (mo_isKeptA, .inl (κ 1, 2, .inl mo_isKept)), (mo_keptA, .inl (κ 0, 34, .inl mo_kept)), (mo_seedsA, .inl (κ 0, 2, .inl mo_seeds))]) ([(moo, .inr (9, [.ref mo_toldA, .ref mo_stA, .int mo_isThere, .int mo_seed, .ref mo_textA, .int mo_typed, .int mo_faultAt, .int mo_place, .int mo_wrong, .int mo_value, .ref mo_readA, .ref mo_aheadA, .int mo_undoMany, .ref mo_asideA, .ref mo_weighingsA, .int mo_weighed, .ref mo_bookA, .int mo_entries, .ref mo_isKeptA, .ref mo_keptA, .ref mo_seedsA])), (mo_toldA, .inl (κ 0, 37, .inl mo_told)), (mo_stA, .inl (κ 0, 17, .inl mo_st)), (mo_textA, .inl (κ 0, 240, .inl mo_text)), (mo_readA, .inl (κ 0, 37, .inl mo_read)), (mo_aheadA, .inl (κ 0, 340, .inl mo_ahead)), (mo_asideA, .inl (κ 0, 17, .inl mo_aside)), (mo_weighingsA, .inl (κ 0, 12, .inl mo_weighings)), (mo_bookA, .inl (κ 0, 30, .inl mo_book)), (mo_isKeptA, .inl (κ 1, 2, .inl mo_isKept)), (mo_keptA, .inl (κ 0, 34, .inl mo_kept)), (mo_seedsA, .inl (κ 0, 2, .inl mo_seeds))]) r0 := by
  refine krI_of (cc := cX9_isShort) (maxL := 6) (rt := .int) (by decide) rfl (Nat.le_of_ble_eq_true rfl) ?_
  intro p e s m args below meth c A Q ls hx hb hml hown hts hK hA hret hP hD hS hl
  have hown : s.vm.findClass RX9 = some m.cls := hown
  have hl : lv_has ls 6 [(0, .ref moo), (1, .int x1)] := hl
  have iw9 : ∀ w ∈ u_ws RX9 TX9 21, w ∈ wsX9_isShort := (fun _ h => List.mem_cons_of_mem _ (List.mem_append_right _ h))
  have k0 : (Cond.fieldLink RX9 7 "KingRansomModel" "told" "[I").before args s = true := hts _ (List.mem_of_getElem? (i := 1) rfl)
  have L18 : ∀ (n18 : Nat) (v2 : Int32) (v3 : Int32) (v4 : Int32) (H : Heap) (locs : List Loc) (ls : Array Slot), va_P D vwCl ([(moo, .inr (9, [.ref mo_toldA, .ref mo_stA, .int mo_isThere, .int mo_seed, .ref mo_textA, .int mo_typed, .int mo_faultAt, .int mo_place, .int mo_wrong, .int mo_value, .ref mo_readA, .ref mo_aheadA, .int mo_undoMany, .ref mo_asideA, .ref mo_weighingsA, .int mo_weighed, .ref mo_bookA, .int mo_entries, .ref mo_isKeptA, .ref mo_keptA, .ref mo_seedsA])), (mo_toldA, .inl (κ 0, 37, .inl mo_told)), (mo_stA, .inl (κ 0, 17, .inl mo_st)), (mo_textA, .inl (κ 0, 240, .inl mo_text)), (mo_readA, .inl (κ 0, 37, .inl mo_read)), (mo_aheadA, .inl (κ 0, 340, .inl mo_ahead)), (mo_asideA, .inl (κ 0, 17, .inl mo_aside)), (mo_weighingsA, .inl (κ 0, 12, .inl mo_weighings)), (mo_bookA, .inl (κ 0, 30, .inl mo_book)), (mo_isKeptA, .inl (κ 1, 2, .inl mo_isKept)), (mo_keptA, .inl (κ 0, 34, .inl mo_kept)), (mo_seedsA, .inl (κ 0, 2, .inl mo_seeds))]) H → va_D A ([(moo, .inr (9, [.ref mo_toldA, .ref mo_stA, .int mo_isThere, .int mo_seed, .ref mo_textA, .int mo_typed, .int mo_faultAt, .int mo_place, .int mo_wrong, .int mo_value, .ref mo_readA, .ref mo_aheadA, .int mo_undoMany, .ref mo_asideA, .ref mo_weighingsA, .int mo_weighed, .ref mo_bookA, .int mo_entries, .ref mo_isKeptA, .ref mo_keptA, .ref mo_seedsA])), (mo_toldA, .inl (κ 0, 37, .inl mo_told)), (mo_stA, .inl (κ 0, 17, .inl mo_st)), (mo_textA, .inl (κ 0, 240, .inl mo_text)), (mo_readA, .inl (κ 0, 37, .inl mo_read)), (mo_aheadA, .inl (κ 0, 340, .inl mo_ahead)), (mo_asideA, .inl (κ 0, 17, .inl mo_aside)), (mo_weighingsA, .inl (κ 0, 12, .inl mo_weighings)), (mo_bookA, .inl (κ 0, 30, .inl mo_book)), (mo_isKeptA, .inl (κ 1, 2, .inl mo_isKept)), (mo_keptA, .inl (κ 0, 34, .inl mo_kept)), (mo_seedsA, .inl (κ 0, 2, .inl mo_seeds))]) → va_S A s.heap H locs → lv_has ls 6 [(0, .ref moo), (1, .int x1), (2, .int v2), (3, .int v3), (4, .int v4)] → pX9_isShort_L18 N x1 mo_told mo_weighings mo_weighed n18 v2 v3 v4 = some (r0) → W p l e { frames := 5, cells := 0, slots := 0, locals := 500 } s m args below meth c H locs 0 0 Q (F0 m 18 ls []) := by
    intro n18
    induction n18 with
    | zero =>
      intro v2 v3 v4 H locs ls hP hD hS hl hres
      exact absurd (show none = some _ from hres) (by simp)
    | succ n18 ih18 =>
      intro v2 v3 v4 H locs ls hP hD hS hl hres
      have L32 : ∀ (n32 : Nat) (v2 : Int32) (v3 : Int32) (v4 : Int32) (v5 : Int32) (H : Heap) (locs : List Loc) (ls : Array Slot), va_P D vwCl ([(moo, .inr (9, [.ref mo_toldA, .ref mo_stA, .int mo_isThere, .int mo_seed, .ref mo_textA, .int mo_typed, .int mo_faultAt, .int mo_place, .int mo_wrong, .int mo_value, .ref mo_readA, .ref mo_aheadA, .int mo_undoMany, .ref mo_asideA, .ref mo_weighingsA, .int mo_weighed, .ref mo_bookA, .int mo_entries, .ref mo_isKeptA, .ref mo_keptA, .ref mo_seedsA])), (mo_toldA, .inl (κ 0, 37, .inl mo_told)), (mo_stA, .inl (κ 0, 17, .inl mo_st)), (mo_textA, .inl (κ 0, 240, .inl mo_text)), (mo_readA, .inl (κ 0, 37, .inl mo_read)), (mo_aheadA, .inl (κ 0, 340, .inl mo_ahead)), (mo_asideA, .inl (κ 0, 17, .inl mo_aside)), (mo_weighingsA, .inl (κ 0, 12, .inl mo_weighings)), (mo_bookA, .inl (κ 0, 30, .inl mo_book)), (mo_isKeptA, .inl (κ 1, 2, .inl mo_isKept)), (mo_keptA, .inl (κ 0, 34, .inl mo_kept)), (mo_seedsA, .inl (κ 0, 2, .inl mo_seeds))]) H → va_D A ([(moo, .inr (9, [.ref mo_toldA, .ref mo_stA, .int mo_isThere, .int mo_seed, .ref mo_textA, .int mo_typed, .int mo_faultAt, .int mo_place, .int mo_wrong, .int mo_value, .ref mo_readA, .ref mo_aheadA, .int mo_undoMany, .ref mo_asideA, .ref mo_weighingsA, .int mo_weighed, .ref mo_bookA, .int mo_entries, .ref mo_isKeptA, .ref mo_keptA, .ref mo_seedsA])), (mo_toldA, .inl (κ 0, 37, .inl mo_told)), (mo_stA, .inl (κ 0, 17, .inl mo_st)), (mo_textA, .inl (κ 0, 240, .inl mo_text)), (mo_readA, .inl (κ 0, 37, .inl mo_read)), (mo_aheadA, .inl (κ 0, 340, .inl mo_ahead)), (mo_asideA, .inl (κ 0, 17, .inl mo_aside)), (mo_weighingsA, .inl (κ 0, 12, .inl mo_weighings)), (mo_bookA, .inl (κ 0, 30, .inl mo_book)), (mo_isKeptA, .inl (κ 1, 2, .inl mo_isKept)), (mo_keptA, .inl (κ 0, 34, .inl mo_kept)), (mo_seedsA, .inl (κ 0, 2, .inl mo_seeds))]) → va_S A s.heap H locs → lv_has ls 6 [(0, .ref moo), (1, .int x1), (2, .int v2), (3, .int v3), (4, .int v4), (5, .int v5)] → pX9_isShort_L32 (pX9_isShort_L18 N x1 mo_told mo_weighings mo_weighed n18) N x1 mo_told mo_weighings mo_weighed n32 v2 v3 v4 v5 = some (r0) → W p l e { frames := 5, cells := 0, slots := 0, locals := 500 } s m args below meth c H locs 0 0 Q (F0 m 32 ls []) := by
        intro n32
        induction n32 with
        | zero =>
          intro v2 v3 v4 v5 H locs ls hP hD hS hl hres
          exact absurd (show none = some _ from hres) (by simp)
        | succ n32 ih32 =>
          intro v2 v3 v4 v5 H locs ls hP hD hS hl hres
          have L71 : ∀ (v2 : Int32) (v3 : Int32) (v4 : Int32) (v5 : Int32) (H : Heap) (locs : List Loc) (ls : Array Slot), va_P D vwCl ([(moo, .inr (9, [.ref mo_toldA, .ref mo_stA, .int mo_isThere, .int mo_seed, .ref mo_textA, .int mo_typed, .int mo_faultAt, .int mo_place, .int mo_wrong, .int mo_value, .ref mo_readA, .ref mo_aheadA, .int mo_undoMany, .ref mo_asideA, .ref mo_weighingsA, .int mo_weighed, .ref mo_bookA, .int mo_entries, .ref mo_isKeptA, .ref mo_keptA, .ref mo_seedsA])), (mo_toldA, .inl (κ 0, 37, .inl mo_told)), (mo_stA, .inl (κ 0, 17, .inl mo_st)), (mo_textA, .inl (κ 0, 240, .inl mo_text)), (mo_readA, .inl (κ 0, 37, .inl mo_read)), (mo_aheadA, .inl (κ 0, 340, .inl mo_ahead)), (mo_asideA, .inl (κ 0, 17, .inl mo_aside)), (mo_weighingsA, .inl (κ 0, 12, .inl mo_weighings)), (mo_bookA, .inl (κ 0, 30, .inl mo_book)), (mo_isKeptA, .inl (κ 1, 2, .inl mo_isKept)), (mo_keptA, .inl (κ 0, 34, .inl mo_kept)), (mo_seedsA, .inl (κ 0, 2, .inl mo_seeds))]) H → va_D A ([(moo, .inr (9, [.ref mo_toldA, .ref mo_stA, .int mo_isThere, .int mo_seed, .ref mo_textA, .int mo_typed, .int mo_faultAt, .int mo_place, .int mo_wrong, .int mo_value, .ref mo_readA, .ref mo_aheadA, .int mo_undoMany, .ref mo_asideA, .ref mo_weighingsA, .int mo_weighed, .ref mo_bookA, .int mo_entries, .ref mo_isKeptA, .ref mo_keptA, .ref mo_seedsA])), (mo_toldA, .inl (κ 0, 37, .inl mo_told)), (mo_stA, .inl (κ 0, 17, .inl mo_st)), (mo_textA, .inl (κ 0, 240, .inl mo_text)), (mo_readA, .inl (κ 0, 37, .inl mo_read)), (mo_aheadA, .inl (κ 0, 340, .inl mo_ahead)), (mo_asideA, .inl (κ 0, 17, .inl mo_aside)), (mo_weighingsA, .inl (κ 0, 12, .inl mo_weighings)), (mo_bookA, .inl (κ 0, 30, .inl mo_book)), (mo_isKeptA, .inl (κ 1, 2, .inl mo_isKept)), (mo_keptA, .inl (κ 0, 34, .inl mo_kept)), (mo_seedsA, .inl (κ 0, 2, .inl mo_seeds))]) → va_S A s.heap H locs → lv_has ls 6 [(0, .ref moo), (1, .int x1), (2, .int v2), (3, .int v3), (4, .int v4), (5, .int v5)] → pX9_isShort_L71 (pX9_isShort_L32 (pX9_isShort_L18 N x1 mo_told mo_weighings mo_weighed n18) N x1 mo_told mo_weighings mo_weighed n32) (pX9_isShort_L18 N x1 mo_told mo_weighings mo_weighed n18) v2 v3 v4 v5 = some (r0) → W p l e { frames := 5, cells := 0, slots := 0, locals := 500 } s m args below meth c H locs 0 0 Q (F0 m 71 ls []) := by
            intro v2 v3 v4 v5 H locs ls hP hD hS hl hres
            unfold pX9_isShort_L71 at hres
            refine lv_iinc (v := (v5 + 1)) (lv' := [(5, .int (v5 + 1)), (0, .ref moo), (1, .int x1), (2, .int v2), (3, .int v3), (4, .int v4)]) hx hb dX9_isShort_71 hl (k := 5) rfl rfl (by decide) rfl (fun ls hl => ?_)
            refine lv_goto (tgt := 32) hx hb dX9_isShort_74 (by decide) ?_
            exact ih32 v2 v3 v4 (v5 + 1) _ _ _ hP hD hS (lv_sub hl [1, 2, 3, 4, 5, 0] rfl) hres
          have L67 : ∀ (v2 : Int32) (v4 : Int32) (v5 : Int32) (s0 : Int32) (H : Heap) (locs : List Loc) (ls : Array Slot), va_P D vwCl ([(moo, .inr (9, [.ref mo_toldA, .ref mo_stA, .int mo_isThere, .int mo_seed, .ref mo_textA, .int mo_typed, .int mo_faultAt, .int mo_place, .int mo_wrong, .int mo_value, .ref mo_readA, .ref mo_aheadA, .int mo_undoMany, .ref mo_asideA, .ref mo_weighingsA, .int mo_weighed, .ref mo_bookA, .int mo_entries, .ref mo_isKeptA, .ref mo_keptA, .ref mo_seedsA])), (mo_toldA, .inl (κ 0, 37, .inl mo_told)), (mo_stA, .inl (κ 0, 17, .inl mo_st)), (mo_textA, .inl (κ 0, 240, .inl mo_text)), (mo_readA, .inl (κ 0, 37, .inl mo_read)), (mo_aheadA, .inl (κ 0, 340, .inl mo_ahead)), (mo_asideA, .inl (κ 0, 17, .inl mo_aside)), (mo_weighingsA, .inl (κ 0, 12, .inl mo_weighings)), (mo_bookA, .inl (κ 0, 30, .inl mo_book)), (mo_isKeptA, .inl (κ 1, 2, .inl mo_isKept)), (mo_keptA, .inl (κ 0, 34, .inl mo_kept)), (mo_seedsA, .inl (κ 0, 2, .inl mo_seeds))]) H → va_D A ([(moo, .inr (9, [.ref mo_toldA, .ref mo_stA, .int mo_isThere, .int mo_seed, .ref mo_textA, .int mo_typed, .int mo_faultAt, .int mo_place, .int mo_wrong, .int mo_value, .ref mo_readA, .ref mo_aheadA, .int mo_undoMany, .ref mo_asideA, .ref mo_weighingsA, .int mo_weighed, .ref mo_bookA, .int mo_entries, .ref mo_isKeptA, .ref mo_keptA, .ref mo_seedsA])), (mo_toldA, .inl (κ 0, 37, .inl mo_told)), (mo_stA, .inl (κ 0, 17, .inl mo_st)), (mo_textA, .inl (κ 0, 240, .inl mo_text)), (mo_readA, .inl (κ 0, 37, .inl mo_read)), (mo_aheadA, .inl (κ 0, 340, .inl mo_ahead)), (mo_asideA, .inl (κ 0, 17, .inl mo_aside)), (mo_weighingsA, .inl (κ 0, 12, .inl mo_weighings)), (mo_bookA, .inl (κ 0, 30, .inl mo_book)), (mo_isKeptA, .inl (κ 1, 2, .inl mo_isKept)), (mo_keptA, .inl (κ 0, 34, .inl mo_kept)), (mo_seedsA, .inl (κ 0, 2, .inl mo_seeds))]) → va_S A s.heap H locs → lv_has ls 6 [(0, .ref moo), (1, .int x1), (2, .int v2), (4, .int v4), (5, .int v5)] → pX9_isShort_L67 (pX9_isShort_L32 (pX9_isShort_L18 N x1 mo_told mo_weighings mo_weighed n18) N x1 mo_told mo_weighings mo_weighed n32) (pX9_isShort_L18 N x1 mo_told mo_weighings mo_weighed n18) v2 v4 v5 s0 = some (r0) → W p l e { frames := 5, cells := 0, slots := 0, locals := 500 } s m args below meth c H locs 0 0 Q (F0 m 67 ls [.int s0]) := by
            intro v2 v4 v5 s0 H locs ls hP hD hS hl hres
            unfold pX9_isShort_L67 at hres
            refine lv_istore_n (lv' := [(3, .int s0), (0, .ref moo), (1, .int x1), (2, .int v2), (4, .int v4), (5, .int v5)]) hx hb dX9_isShort_67 rfl hl (by decide) rfl (fun ls hl => ?_)
            refine lv_iinc (v := (v2 + 1)) (lv' := [(2, .int (v2 + 1)), (3, .int s0), (0, .ref moo), (1, .int x1), (4, .int v4), (5, .int v5)]) hx hb dX9_isShort_68 hl (k := 3) rfl rfl (by decide) rfl (fun ls hl => ?_)
            exact L71 (v2 + 1) s0 v4 v5 _ _ _ hP hD hS (lv_sub hl [2, 3, 0, 1, 4, 5] rfl) hres
          rw [pX9_isShort_L32] at hres
          refine lv_iload hx hb dX9_isShort_32 (lv_at hl 5 rfl) ?_
          refine lv_bipush (v := 9) hx hb dX9_isShort_34 (by decide) ?_
          refine lv_icmp_gt (tgt := 77) hx hb dX9_isShort_36 (by decide) (fun c6 => ?_) (fun c6 => ?_)
          · replace hres := og_t c6 hres
            refine lv_iinc (v := (v4 + 1)) (lv' := [(4, .int (v4 + 1)), (0, .ref moo), (1, .int x1), (2, .int v2), (3, .int v3), (5, .int v5)]) hx hb dX9_isShort_77 hl (k := 4) rfl rfl (by decide) rfl (fun ls hl => ?_)
            refine lv_goto (tgt := 18) hx hb dX9_isShort_80 (by decide) ?_
            exact ih18 v2 v3 (v4 + 1) _ _ _ hP hD hS (lv_sub hl [1, 2, 3, 4, 0] rfl) hres
          · replace hres := og_f c6 hres
            refine lv_aload_n hx hb dX9_isShort_39 rfl (lv_at hl 0 rfl) ?_
            refine lv_iload hx hb dX9_isShort_40 (lv_at hl 4 rfl) ?_
            refine lv_iload hx hb dX9_isShort_42 (lv_at hl 5 rfl) ?_
            obtain ⟨r7, hc8, hres⟩ := kb1_s hres
            refine krI_V (As := [.int v4, .int v5]) (rest := []) (wr := []) ⟨hx, hb, hml, hown, hts⟩ hK (tX9_canBe l D κ moo mo_toldA mo_stA mo_textA mo_readA mo_aheadA mo_asideA mo_weighingsA mo_bookA mo_isKeptA mo_keptA mo_seedsA N mo_told mo_st mo_isThere mo_seed mo_text mo_typed mo_faultAt mo_place mo_wrong mo_value mo_read mo_ahead mo_undoMany mo_aside mo_weighings mo_weighed mo_book mo_entries mo_isKept mo_kept mo_seeds v4 v5 r7 hc8) (cwV 2 hts gX9_isShort_X9_canBe rfl rfl rfl (by decide +kernel) ⟨(Nat.le_of_ble_eq_true rfl), (Nat.le_of_ble_eq_true rfl)⟩) rfl rfl rfl hP hD hS hA [0, 1, 2, 3, 4, 5, 6, 7, 8, 9, 10, 11] [] rfl rfl rfl rfl (by decide) rfl hl.1 rfl (Nat.le_of_ble_eq_true rfl) dX9_isShort_44 ⟨Nat.zero_le _, Nat.zero_le _⟩ (fun H locs hP hD hS => ?_)
            have hP : va_P D vwCl ([(moo, .inr (9, [.ref mo_toldA, .ref mo_stA, .int mo_isThere, .int mo_seed, .ref mo_textA, .int mo_typed, .int mo_faultAt, .int mo_place, .int mo_wrong, .int mo_value, .ref mo_readA, .ref mo_aheadA, .int mo_undoMany, .ref mo_asideA, .ref mo_weighingsA, .int mo_weighed, .ref mo_bookA, .int mo_entries, .ref mo_isKeptA, .ref mo_keptA, .ref mo_seedsA])), (mo_toldA, .inl (κ 0, 37, .inl mo_told)), (mo_stA, .inl (κ 0, 17, .inl mo_st)), (mo_textA, .inl (κ 0, 240, .inl mo_text)), (mo_readA, .inl (κ 0, 37, .inl mo_read)), (mo_aheadA, .inl (κ 0, 340, .inl mo_ahead)), (mo_asideA, .inl (κ 0, 17, .inl mo_aside)), (mo_weighingsA, .inl (κ 0, 12, .inl mo_weighings)), (mo_bookA, .inl (κ 0, 30, .inl mo_book)), (mo_isKeptA, .inl (κ 1, 2, .inl mo_isKept)), (mo_keptA, .inl (κ 0, 34, .inl mo_kept)), (mo_seedsA, .inl (κ 0, 2, .inl mo_seeds))]) H := hP
            have hD : va_D A ([(moo, .inr (9, [.ref mo_toldA, .ref mo_stA, .int mo_isThere, .int mo_seed, .ref mo_textA, .int mo_typed, .int mo_faultAt, .int mo_place, .int mo_wrong, .int mo_value, .ref mo_readA, .ref mo_aheadA, .int mo_undoMany, .ref mo_asideA, .ref mo_weighingsA, .int mo_weighed, .ref mo_bookA, .int mo_entries, .ref mo_isKeptA, .ref mo_keptA, .ref mo_seedsA])), (mo_toldA, .inl (κ 0, 37, .inl mo_told)), (mo_stA, .inl (κ 0, 17, .inl mo_st)), (mo_textA, .inl (κ 0, 240, .inl mo_text)), (mo_readA, .inl (κ 0, 37, .inl mo_read)), (mo_aheadA, .inl (κ 0, 340, .inl mo_ahead)), (mo_asideA, .inl (κ 0, 17, .inl mo_aside)), (mo_weighingsA, .inl (κ 0, 12, .inl mo_weighings)), (mo_bookA, .inl (κ 0, 30, .inl mo_book)), (mo_isKeptA, .inl (κ 1, 2, .inl mo_isKept)), (mo_keptA, .inl (κ 0, 34, .inl mo_kept)), (mo_seedsA, .inl (κ 0, 2, .inl mo_seeds))]) := hD
            refine lv_if_eq (tgt := 71) hx hb dX9_isShort_47 (by decide) (fun c9 => ?_) (fun c9 => ?_)
            · replace hres := og_t c9 hres
              exact L71 v2 v3 v4 v5 _ _ _ hP hD hS (lv_sub hl [0, 1, 2, 3, 4, 5] rfl) hres
            · replace hres := og_f c9 hres
              refine lv_iload_n hx hb dX9_isShort_50 rfl (lv_at hl 2 rfl) ?_
              refine lv_iload_n hx hb dX9_isShort_51 rfl (lv_at hl 1 rfl) ?_
              refine lv_icmp_ne (tgt := 66) hx hb dX9_isShort_52 (by decide) (fun c10 => ?_) (fun c10 => ?_)
              · replace hres := og_f c10 hres
                refine lv_iload_n hx hb dX9_isShort_66 rfl (lv_at hl 3 rfl) ?_
                exact L67 v2 v4 v5 v3 _ _ _ hP hD hS (lv_sub hl [0, 1, 2, 4, 5] rfl) hres
              · replace hres := og_t c10 hres
                refine lv_bipush (v := 10) hx hb dX9_isShort_55 (by decide) ?_
                refine lv_iload hx hb dX9_isShort_57 (lv_at hl 4 rfl) ?_
                refine lv_imul hx hb dX9_isShort_59 ?_
                refine lv_iload hx hb dX9_isShort_60 (lv_at hl 5 rfl) ?_
                refine lv_iadd hx hb dX9_isShort_62 ?_
                refine lv_goto (tgt := 67) hx hb dX9_isShort_63 (by decide) ?_
                exact L67 v2 v4 v5 ((10 * v4) + v5) _ _ _ hP hD hS (lv_sub hl [0, 1, 2, 4, 5] rfl) hres
      rw [pX9_isShort_L18] at hres
      refine lv_iload hx hb dX9_isShort_18 (lv_at hl 4 rfl) ?_
      refine lv_aload_n hx hb dX9_isShort_20 rfl (lv_at hl 0 rfl) ?_
      refine va_get (D := D) (ci := 9) (v := .ref mo_toldA) (C := RX9) (T := TX9) (N := 21) hx hb hts iw9 hown hK.1 hP 0 rfl rfl 0 (by decide) k0 (fun _ h9 => h9) rfl dX9_isShort_21 ?_
      refine lv_iconst (v := 5) hx hb dX9_isShort_24 (by decide) ?_
      refine kr_iald (f := mo_told) (j := 5) hx hb hK hP 1 rfl (by decide) (by decide) dX9_isShort_25 ?_
      refine lv_icmp_ge (tgt := 83) hx hb dX9_isShort_26 (by decide) (fun c4 => ?_) (fun c4 => ?_)
      · replace hres := og_t c4 hres
        refine lv_iload_n hx hb dX9_isShort_83 rfl (lv_at hl 1 rfl) ?_
        refine lv_iconst (v := (-1)) hx hb dX9_isShort_84 (by decide) ?_
        refine lv_icmp_ne (tgt := 92) hx hb dX9_isShort_85 (by decide) (fun c5 => ?_) (fun c5 => ?_)
        · replace hres := og_f c5 hres
          refine lv_iload_n hx hb dX9_isShort_92 rfl (lv_at hl 3 rfl) ?_
          have hres := Option.some.inj hres
          have h0 := hres
          subst h0
          exact hret _ _ _ _ (vp_nar_int _) hP hD hS dX9_isShort_93
        · replace hres := og_t c5 hres
          refine lv_iload_n hx hb dX9_isShort_88 rfl (lv_at hl 2 rfl) ?_
          refine lv_goto (tgt := 93) hx hb dX9_isShort_89 (by decide) ?_
          have hres := Option.some.inj hres
          have h0 := hres
          subst h0
          exact hret _ _ _ _ (vp_nar_int _) hP hD hS dX9_isShort_93
      · replace hres := og_f c4 hres
        refine lv_iconst (v := 1) hx hb dX9_isShort_29 (by decide) ?_
        refine lv_istore (lv' := [(5, .int 1), (0, .ref moo), (1, .int x1), (2, .int v2), (3, .int v3), (4, .int v4)]) hx hb dX9_isShort_30 hl (by decide) rfl (fun ls hl => ?_)
        exact L32 N v2 v3 v4 1 _ _ _ hP hD hS (lv_sub hl [1, 2, 3, 4, 5, 0] rfl) hres
  unfold pX9_isShort at hres
  refine lv_iload_n hx hb dX9_isShort_0 rfl (lv_at hl 1 rfl) ?_
  refine lv_bipush (v := (-2)) hx hb dX9_isShort_1 (by decide) ?_
  refine lv_icmp_ne (tgt := 11) hx hb dX9_isShort_3 (by decide) (fun c1 => ?_) (fun c1 => ?_)
  · replace hres := og_f c1 hres
    refine lv_iconst (v := 0) hx hb dX9_isShort_11 (by decide) ?_
    refine lv_istore_n (lv' := [(2, .int 0), (0, .ref moo), (1, .int x1)]) hx hb dX9_isShort_12 rfl hl (by decide) rfl (fun ls hl => ?_)
    refine lv_iconst (v := (-1)) hx hb dX9_isShort_13 (by decide) ?_
    refine lv_istore_n (lv' := [(3, .int (-1)), (2, .int 0), (0, .ref moo), (1, .int x1)]) hx hb dX9_isShort_14 rfl hl (by decide) rfl (fun ls hl => ?_)
    refine lv_iconst (v := 0) hx hb dX9_isShort_15 (by decide) ?_
    refine lv_istore (lv' := [(4, .int 0), (3, .int (-1)), (2, .int 0), (0, .ref moo), (1, .int x1)]) hx hb dX9_isShort_16 hl (by decide) rfl (fun ls hl => ?_)
    exact L18 N 0 (-1) 0 _ _ _ hP hD hS (lv_sub hl [3, 4, 2, 1, 0] rfl) hres
  · replace hres := og_t c1 hres
    refine lv_aload_n hx hb dX9_isShort_6 rfl (lv_at hl 0 rfl) ?_
    obtain ⟨r2, hc3, hres⟩ := kb1_s hres
    refine krI_V (As := []) (rest := []) (wr := []) ⟨hx, hb, hml, hown, hts⟩ hK (tX9_weighNext l D κ moo mo_toldA mo_stA mo_textA mo_readA mo_aheadA mo_asideA mo_weighingsA mo_bookA mo_isKeptA mo_keptA mo_seedsA N mo_told mo_st mo_isThere mo_seed mo_text mo_typed mo_faultAt mo_place mo_wrong mo_value mo_read mo_ahead mo_undoMany mo_aside mo_weighings mo_weighed mo_book mo_entries mo_isKept mo_kept mo_seeds r2 hc3) (cwV 0 hts gX9_isShort_X9_weighNext rfl rfl rfl (by decide +kernel) ⟨(Nat.le_of_ble_eq_true rfl), (Nat.le_of_ble_eq_true rfl)⟩) rfl rfl rfl hP hD hS hA [0, 1, 2, 3, 4, 5, 6, 7, 8, 9, 10, 11] [] rfl rfl rfl rfl (by decide) rfl hl.1 rfl (Nat.le_of_ble_eq_true rfl) dX9_isShort_7 ⟨Nat.zero_le _, Nat.zero_le _⟩ (fun H locs hP hD hS => ?_)
    have hP : va_P D vwCl ([(moo, .inr (9, [.ref mo_toldA, .ref mo_stA, .int mo_isThere, .int mo_seed, .ref mo_textA, .int mo_typed, .int mo_faultAt, .int mo_place, .int mo_wrong, .int mo_value, .ref mo_readA, .ref mo_aheadA, .int mo_undoMany, .ref mo_asideA, .ref mo_weighingsA, .int mo_weighed, .ref mo_bookA, .int mo_entries, .ref mo_isKeptA, .ref mo_keptA, .ref mo_seedsA])), (mo_toldA, .inl (κ 0, 37, .inl mo_told)), (mo_stA, .inl (κ 0, 17, .inl mo_st)), (mo_textA, .inl (κ 0, 240, .inl mo_text)), (mo_readA, .inl (κ 0, 37, .inl mo_read)), (mo_aheadA, .inl (κ 0, 340, .inl mo_ahead)), (mo_asideA, .inl (κ 0, 17, .inl mo_aside)), (mo_weighingsA, .inl (κ 0, 12, .inl mo_weighings)), (mo_bookA, .inl (κ 0, 30, .inl mo_book)), (mo_isKeptA, .inl (κ 1, 2, .inl mo_isKept)), (mo_keptA, .inl (κ 0, 34, .inl mo_kept)), (mo_seedsA, .inl (κ 0, 2, .inl mo_seeds))]) H := hP
    have hD : va_D A ([(moo, .inr (9, [.ref mo_toldA, .ref mo_stA, .int mo_isThere, .int mo_seed, .ref mo_textA, .int mo_typed, .int mo_faultAt, .int mo_place, .int mo_wrong, .int mo_value, .ref mo_readA, .ref mo_aheadA, .int mo_undoMany, .ref mo_asideA, .ref mo_weighingsA, .int mo_weighed, .ref mo_bookA, .int mo_entries, .ref mo_isKeptA, .ref mo_keptA, .ref mo_seedsA])), (mo_toldA, .inl (κ 0, 37, .inl mo_told)), (mo_stA, .inl (κ 0, 17, .inl mo_st)), (mo_textA, .inl (κ 0, 240, .inl mo_text)), (mo_readA, .inl (κ 0, 37, .inl mo_read)), (mo_aheadA, .inl (κ 0, 340, .inl mo_ahead)), (mo_asideA, .inl (κ 0, 17, .inl mo_aside)), (mo_weighingsA, .inl (κ 0, 12, .inl mo_weighings)), (mo_bookA, .inl (κ 0, 30, .inl mo_book)), (mo_isKeptA, .inl (κ 1, 2, .inl mo_isKept)), (mo_keptA, .inl (κ 0, 34, .inl mo_kept)), (mo_seedsA, .inl (κ 0, 2, .inl mo_seeds))]) := hD
    have hres := Option.some.inj hres
    have h0 := hres
    subst h0
    exact hret _ _ _ _ (vp_nar_int _) hP hD hS dX9_isShort_10

def pX9_write (x1 : Int32) (x2 : Int32) (mo_told : Nat → Int32) (mo_book : Nat → Int32) (mo_entries : Int32) : Option (Int32 × (Nat → Int32) × Int32) :=
    kb1 (pX9_isPayer x1 mo_told) fun r1 =>
    (if r1 = 0 then
    some ((-1000000001), mo_book, mo_entries)
    else
    kb1 (pX9_in (x2.toInt64) 0 999) fun r4 =>
    (if r4 = 0 then
    some ((-1000000002), mo_book, mo_entries)
    else
    (if mo_entries = 15 then
    some ((-1000000004), mo_book, mo_entries)
    else
    if (2 * mo_entries) < 0 ∨ 30 ≤ (2 * mo_entries).toNatClampNeg then none else
    if ((2 * mo_entries) + 1) < 0 ∨ 30 ≤ ((2 * mo_entries) + 1).toNatClampNeg then none else
    some ((mo_entries + 1), (upd (upd mo_book ((2 * mo_entries).toNatClampNeg) x1) (((2 * mo_entries) + 1).toNatClampNeg) x2), (mo_entries + 1)))))
set_option maxHeartbeats 8000000 in
set_option maxRecDepth 100000 in
theorem tX9_write (l : Launch) (D : va_G) (κ : Nat → ClassId) (moo : Nat) (mo_toldA : Nat) (mo_stA : Nat) (mo_textA : Nat) (mo_readA : Nat) (mo_aheadA : Nat) (mo_asideA : Nat) (mo_weighingsA : Nat) (mo_bookA : Nat) (mo_isKeptA : Nat) (mo_keptA : Nat) (mo_seedsA : Nat) (mo_told : Nat → Int32) (mo_st : Nat → Int32) (mo_isThere : Int32) (mo_seed : Int32) (mo_text : Nat → Int32) (mo_typed : Int32) (mo_faultAt : Int32) (mo_place : Int32) (mo_wrong : Int32) (mo_value : Int32) (mo_read : Nat → Int32) (mo_ahead : Nat → Int32) (mo_undoMany : Int32) (mo_aside : Nat → Int32) (mo_weighings : Nat → Int32) (mo_weighed : Int32) (mo_book : Nat → Int32) (mo_entries : Int32) (mo_isKept : Nat → Int32) (mo_kept : Nat → Int32) (mo_seeds : Nat → Int32) (x1 : Int32) (x2 : Int32) (r0 : Int32) (z_mo_book : Nat → Int32) (z_mo_entries : Int32) (hres : pX9_write x1 x2 mo_told mo_book mo_entries = some (r0, z_mo_book, z_mo_entries)) : krI l yX9_write wsX9_write { frames := 2, cells := 0, slots := 0, locals := 200 } D κ [.ref moo, .int x1, .int x2] ([(moo, .inr (9, [.ref mo_toldA, .ref mo_stA, .int mo_isThere, .int mo_seed, .ref mo_textA, .int mo_typed, .int mo_faultAt, .int mo_place, .int mo_wrong, .int mo_value, .ref mo_readA, .ref mo_aheadA, .int mo_undoMany, .ref mo_asideA, .ref mo_weighingsA, .int mo_weighed, .ref mo_bookA, .int mo_entries, .ref mo_isKeptA, .ref mo_keptA, .ref mo_seedsA])), (mo_toldA, .inl (κ 0, 37, .inl mo_told)), (mo_stA, .inl (κ 0, 17, .inl mo_st)), (mo_textA, .inl (κ 0, 240, .inl mo_text)), (mo_readA, .inl (κ 0, 37, .inl mo_read)), (mo_aheadA, .inl (κ 0, 340, .inl mo_ahead)), (mo_asideA, .inl (κ 0, 17, .inl mo_aside)), (mo_weighingsA, .inl (κ 0, 12, .inl mo_weighings)), (mo_bookA, .inl (κ 0, 30, .inl mo_book)), (mo_isKeptA, .inl (κ 1, 2, .inl mo_isKept)), (mo_keptA, .inl (κ 0, 34, .inl mo_kept)), (mo_seedsA, .inl (κ 0, 2, .inl mo_seeds))]) ([(moo, .inr (9, [.ref mo_toldA, .ref mo_stA, .int mo_isThere, .int mo_seed, .ref mo_textA, .int mo_typed, .int mo_faultAt, .int mo_place, .int mo_wrong, .int mo_value, .ref mo_readA, .ref mo_aheadA, .int mo_undoMany, .ref mo_asideA, .ref mo_weighingsA, .int mo_weighed, .ref mo_bookA, .int z_mo_entries, .ref mo_isKeptA, .ref mo_keptA, .ref mo_seedsA])), (mo_toldA, .inl (κ 0, 37, .inl mo_told)), (mo_stA, .inl (κ 0, 17, .inl mo_st)), (mo_textA, .inl (κ 0, 240, .inl mo_text)), (mo_readA, .inl (κ 0, 37, .inl mo_read)), (mo_aheadA, .inl (κ 0, 340, .inl mo_ahead)), (mo_asideA, .inl (κ 0, 17, .inl mo_aside)), (mo_weighingsA, .inl (κ 0, 12, .inl mo_weighings)), (mo_bookA, .inl (κ 0, 30, .inl z_mo_book)), (mo_isKeptA, .inl (κ 1, 2, .inl mo_isKept)), (mo_keptA, .inl (κ 0, 34, .inl mo_kept)), (mo_seedsA, .inl (κ 0, 2, .inl mo_seeds))]) r0 := by
  refine krI_of (cc := cX9_write) (maxL := 3) (rt := .int) (by decide) rfl (Nat.le_of_ble_eq_true rfl) ?_
  intro p e s m args below meth c A Q ls hx hb hml hown hts hK hA hret hP hD hS hl
  have hown : s.vm.findClass RX9 = some m.cls := hown
  have hl : lv_has ls 3 [(0, .ref moo), (1, .int x1), (2, .int x2)] := hl
  have iw9 : ∀ w ∈ u_ws RX9 TX9 21, w ∈ wsX9_write := (fun _ h => List.mem_cons_of_mem _ (List.mem_append_right _ h))
  have k0 : (Cond.constantLong RX9 154 (999)).before args s = true := hts _ (List.mem_of_getElem? (i := 2) rfl)
  have k1 : (Cond.fieldLink RX9 116 "KingRansomModel" "entries" "I").before args s = true := hts _ (List.mem_of_getElem? (i := 4) rfl)
  have k2 : (Cond.fieldLink RX9 35 "KingRansomModel" "book" "[I").before args s = true := hts _ (List.mem_of_getElem? (i := 6) rfl)
  have k3 : (Cond.constant RX9 58 (-1000000004)).before args s = true := hts _ (List.mem_of_getElem? (i := 5) rfl)
  have k4 : (Cond.constant RX9 54 (-1000000002)).before args s = true := hts _ (List.mem_of_getElem? (i := 3) rfl)
  have k5 : (Cond.constant RX9 126 (-1000000001)).before args s = true := hts _ (List.mem_of_getElem? (i := 1) rfl)
  unfold pX9_write at hres
  refine lv_aload_n hx hb dX9_write_0 rfl (lv_at hl 0 rfl) ?_
  refine lv_iload_n hx hb dX9_write_1 rfl (lv_at hl 1 rfl) ?_
  obtain ⟨r1, hc2, hres⟩ := kb1_s hres
  refine krI_V (As := [.int x1]) (rest := []) (wr := []) ⟨hx, hb, hml, hown, hts⟩ hK (tX9_isPayer l D κ moo mo_toldA mo_stA mo_textA mo_readA mo_aheadA mo_asideA mo_weighingsA mo_bookA mo_isKeptA mo_keptA mo_seedsA mo_told mo_st mo_isThere mo_seed mo_text mo_typed mo_faultAt mo_place mo_wrong mo_value mo_read mo_ahead mo_undoMany mo_aside mo_weighings mo_weighed mo_book mo_entries mo_isKept mo_kept mo_seeds x1 r1 hc2) (cwV 1 hts gX9_write_X9_isPayer rfl rfl rfl (by decide +kernel) ⟨(Nat.le_of_ble_eq_true rfl), (Nat.le_of_ble_eq_true rfl)⟩) rfl rfl rfl hP hD hS hA [0, 1, 2, 3, 4, 5, 6, 7, 8, 9, 10, 11] [] rfl rfl rfl rfl (by decide) rfl hl.1 rfl (Nat.le_of_ble_eq_true rfl) dX9_write_2 ⟨Nat.zero_le _, Nat.zero_le _⟩ (fun H locs hP hD hS => ?_)
  have hP : va_P D vwCl ([(moo, .inr (9, [.ref mo_toldA, .ref mo_stA, .int mo_isThere, .int mo_seed, .ref mo_textA, .int mo_typed, .int mo_faultAt, .int mo_place, .int mo_wrong, .int mo_value, .ref mo_readA, .ref mo_aheadA, .int mo_undoMany, .ref mo_asideA, .ref mo_weighingsA, .int mo_weighed, .ref mo_bookA, .int mo_entries, .ref mo_isKeptA, .ref mo_keptA, .ref mo_seedsA])), (mo_toldA, .inl (κ 0, 37, .inl mo_told)), (mo_stA, .inl (κ 0, 17, .inl mo_st)), (mo_textA, .inl (κ 0, 240, .inl mo_text)), (mo_readA, .inl (κ 0, 37, .inl mo_read)), (mo_aheadA, .inl (κ 0, 340, .inl mo_ahead)), (mo_asideA, .inl (κ 0, 17, .inl mo_aside)), (mo_weighingsA, .inl (κ 0, 12, .inl mo_weighings)), (mo_bookA, .inl (κ 0, 30, .inl mo_book)), (mo_isKeptA, .inl (κ 1, 2, .inl mo_isKept)), (mo_keptA, .inl (κ 0, 34, .inl mo_kept)), (mo_seedsA, .inl (κ 0, 2, .inl mo_seeds))]) H := hP
  have hD : va_D A ([(moo, .inr (9, [.ref mo_toldA, .ref mo_stA, .int mo_isThere, .int mo_seed, .ref mo_textA, .int mo_typed, .int mo_faultAt, .int mo_place, .int mo_wrong, .int mo_value, .ref mo_readA, .ref mo_aheadA, .int mo_undoMany, .ref mo_asideA, .ref mo_weighingsA, .int mo_weighed, .ref mo_bookA, .int mo_entries, .ref mo_isKeptA, .ref mo_keptA, .ref mo_seedsA])), (mo_toldA, .inl (κ 0, 37, .inl mo_told)), (mo_stA, .inl (κ 0, 17, .inl mo_st)), (mo_textA, .inl (κ 0, 240, .inl mo_text)), (mo_readA, .inl (κ 0, 37, .inl mo_read)), (mo_aheadA, .inl (κ 0, 340, .inl mo_ahead)), (mo_asideA, .inl (κ 0, 17, .inl mo_aside)), (mo_weighingsA, .inl (κ 0, 12, .inl mo_weighings)), (mo_bookA, .inl (κ 0, 30, .inl mo_book)), (mo_isKeptA, .inl (κ 1, 2, .inl mo_isKept)), (mo_keptA, .inl (κ 0, 34, .inl mo_kept)), (mo_seedsA, .inl (κ 0, 2, .inl mo_seeds))]) := hD
  refine lv_if_ne (tgt := 11) hx hb dX9_write_5 (by decide) (fun c3 => ?_) (fun c3 => ?_)
  · replace hres := og_f c3 hres
    refine lv_iload_n hx hb dX9_write_11 rfl (lv_at hl 2 rfl) ?_
    refine lv_i2l (v := x2.toInt64) hx hb dX9_write_12 rfl ?_
    refine lv_lconst (v := 0) hx hb dX9_write_13 (by decide) ?_
    refine lv_ldc2 (v := 999) hx hb hown k0 dX9_write_14 ?_
    obtain ⟨r4, hc5, hres⟩ := kb1_s hres
    refine krI_S0 (As := [.long (x2.toInt64), .long 0, .long 999]) (rest := []) ⟨hx, hb, hml, hown, hts⟩ hK (tX9_in l D κ (x2.toInt64) 0 999 r4 hc5) (va_cwS 3 hts gX9_write_X9_in rfl rfl rfl (by decide +kernel) ⟨(Nat.le_of_ble_eq_true rfl), (Nat.le_of_ble_eq_true rfl)⟩) hP hD hS hA rfl hl.1 rfl (Nat.le_of_ble_eq_true rfl) dX9_write_17 ⟨Nat.zero_le _, Nat.zero_le _⟩ (fun H locs hP hD hS => ?_)
    refine lv_if_ne (tgt := 26) hx hb dX9_write_20 (by decide) (fun c6 => ?_) (fun c6 => ?_)
    · replace hres := og_f c6 hres
      refine lv_aload_n hx hb dX9_write_26 rfl (lv_at hl 0 rfl) ?_
      refine va_get (D := D) (ci := 9) (v := .int mo_entries) (C := RX9) (T := TX9) (N := 21) hx hb hts iw9 hown hK.1 hP 0 rfl rfl 17 (by decide) k1 (fun _ h9 => h9) rfl dX9_write_27 ?_
      refine lv_bipush (v := 15) hx hb dX9_write_30 (by decide) ?_
      refine lv_icmp_ne (tgt := 38) hx hb dX9_write_32 (by decide) (fun c7 => ?_) (fun c7 => ?_)
      · replace hres := og_f c7 hres
        refine lv_aload_n hx hb dX9_write_38 rfl (lv_at hl 0 rfl) ?_
        refine va_get (D := D) (ci := 9) (v := .ref mo_bookA) (C := RX9) (T := TX9) (N := 21) hx hb hts iw9 hown hK.1 hP 0 rfl rfl 16 (by decide) k2 (fun _ h9 => h9) rfl dX9_write_39 ?_
        refine lv_iconst (v := 2) hx hb dX9_write_42 (by decide) ?_
        refine lv_aload_n hx hb dX9_write_43 rfl (lv_at hl 0 rfl) ?_
        refine va_get (D := D) (ci := 9) (v := .int mo_entries) (C := RX9) (T := TX9) (N := 21) hx hb hts iw9 hown hK.1 hP 0 rfl rfl 17 (by decide) k1 (fun _ h9 => h9) rfl dX9_write_44 ?_
        refine lv_imul hx hb dX9_write_47 ?_
        refine lv_iload_n hx hb dX9_write_48 rfl (lv_at hl 1 rfl) ?_
        obtain ⟨g8, hres⟩ := og_no hres
        refine kr_iast (f := mo_book) (j := (2 * mo_entries).toNatClampNeg) (x := x1) hx hb hK hP hD hS 8 rfl g8 rfl dX9_write_49 (fun H locs hP hD hS => ?_)
        have hP : va_P D vwCl ([(moo, .inr (9, [.ref mo_toldA, .ref mo_stA, .int mo_isThere, .int mo_seed, .ref mo_textA, .int mo_typed, .int mo_faultAt, .int mo_place, .int mo_wrong, .int mo_value, .ref mo_readA, .ref mo_aheadA, .int mo_undoMany, .ref mo_asideA, .ref mo_weighingsA, .int mo_weighed, .ref mo_bookA, .int mo_entries, .ref mo_isKeptA, .ref mo_keptA, .ref mo_seedsA])), (mo_toldA, .inl (κ 0, 37, .inl mo_told)), (mo_stA, .inl (κ 0, 17, .inl mo_st)), (mo_textA, .inl (κ 0, 240, .inl mo_text)), (mo_readA, .inl (κ 0, 37, .inl mo_read)), (mo_aheadA, .inl (κ 0, 340, .inl mo_ahead)), (mo_asideA, .inl (κ 0, 17, .inl mo_aside)), (mo_weighingsA, .inl (κ 0, 12, .inl mo_weighings)), (mo_bookA, .inl (κ 0, 30, .inl (upd mo_book ((2 * mo_entries).toNatClampNeg) x1))), (mo_isKeptA, .inl (κ 1, 2, .inl mo_isKept)), (mo_keptA, .inl (κ 0, 34, .inl mo_kept)), (mo_seedsA, .inl (κ 0, 2, .inl mo_seeds))]) H := hP
        have hD : va_D A ([(moo, .inr (9, [.ref mo_toldA, .ref mo_stA, .int mo_isThere, .int mo_seed, .ref mo_textA, .int mo_typed, .int mo_faultAt, .int mo_place, .int mo_wrong, .int mo_value, .ref mo_readA, .ref mo_aheadA, .int mo_undoMany, .ref mo_asideA, .ref mo_weighingsA, .int mo_weighed, .ref mo_bookA, .int mo_entries, .ref mo_isKeptA, .ref mo_keptA, .ref mo_seedsA])), (mo_toldA, .inl (κ 0, 37, .inl mo_told)), (mo_stA, .inl (κ 0, 17, .inl mo_st)), (mo_textA, .inl (κ 0, 240, .inl mo_text)), (mo_readA, .inl (κ 0, 37, .inl mo_read)), (mo_aheadA, .inl (κ 0, 340, .inl mo_ahead)), (mo_asideA, .inl (κ 0, 17, .inl mo_aside)), (mo_weighingsA, .inl (κ 0, 12, .inl mo_weighings)), (mo_bookA, .inl (κ 0, 30, .inl (upd mo_book ((2 * mo_entries).toNatClampNeg) x1))), (mo_isKeptA, .inl (κ 1, 2, .inl mo_isKept)), (mo_keptA, .inl (κ 0, 34, .inl mo_kept)), (mo_seedsA, .inl (κ 0, 2, .inl mo_seeds))]) := hD
        refine lv_aload_n hx hb dX9_write_50 rfl (lv_at hl 0 rfl) ?_
        refine va_get (D := D) (ci := 9) (v := .ref mo_bookA) (C := RX9) (T := TX9) (N := 21) hx hb hts iw9 hown hK.1 hP 0 rfl rfl 16 (by decide) k2 (fun _ h9 => h9) rfl dX9_write_51 ?_
        refine lv_iconst (v := 2) hx hb dX9_write_54 (by decide) ?_
        refine lv_aload_n hx hb dX9_write_55 rfl (lv_at hl 0 rfl) ?_
        refine va_get (D := D) (ci := 9) (v := .int mo_entries) (C := RX9) (T := TX9) (N := 21) hx hb hts iw9 hown hK.1 hP 0 rfl rfl 17 (by decide) k1 (fun _ h9 => h9) rfl dX9_write_56 ?_
        refine lv_imul hx hb dX9_write_59 ?_
        refine lv_iconst (v := 1) hx hb dX9_write_60 (by decide) ?_
        refine lv_iadd hx hb dX9_write_61 ?_
        refine lv_iload_n hx hb dX9_write_62 rfl (lv_at hl 2 rfl) ?_
        obtain ⟨g9, hres⟩ := og_no hres
        refine kr_iast (f := (upd mo_book ((2 * mo_entries).toNatClampNeg) x1)) (j := ((2 * mo_entries) + 1).toNatClampNeg) (x := x2) hx hb hK hP hD hS 8 rfl g9 rfl dX9_write_63 (fun H locs hP hD hS => ?_)
        have hP : va_P D vwCl ([(moo, .inr (9, [.ref mo_toldA, .ref mo_stA, .int mo_isThere, .int mo_seed, .ref mo_textA, .int mo_typed, .int mo_faultAt, .int mo_place, .int mo_wrong, .int mo_value, .ref mo_readA, .ref mo_aheadA, .int mo_undoMany, .ref mo_asideA, .ref mo_weighingsA, .int mo_weighed, .ref mo_bookA, .int mo_entries, .ref mo_isKeptA, .ref mo_keptA, .ref mo_seedsA])), (mo_toldA, .inl (κ 0, 37, .inl mo_told)), (mo_stA, .inl (κ 0, 17, .inl mo_st)), (mo_textA, .inl (κ 0, 240, .inl mo_text)), (mo_readA, .inl (κ 0, 37, .inl mo_read)), (mo_aheadA, .inl (κ 0, 340, .inl mo_ahead)), (mo_asideA, .inl (κ 0, 17, .inl mo_aside)), (mo_weighingsA, .inl (κ 0, 12, .inl mo_weighings)), (mo_bookA, .inl (κ 0, 30, .inl (upd (upd mo_book ((2 * mo_entries).toNatClampNeg) x1) (((2 * mo_entries) + 1).toNatClampNeg) x2))), (mo_isKeptA, .inl (κ 1, 2, .inl mo_isKept)), (mo_keptA, .inl (κ 0, 34, .inl mo_kept)), (mo_seedsA, .inl (κ 0, 2, .inl mo_seeds))]) H := hP
        have hD : va_D A ([(moo, .inr (9, [.ref mo_toldA, .ref mo_stA, .int mo_isThere, .int mo_seed, .ref mo_textA, .int mo_typed, .int mo_faultAt, .int mo_place, .int mo_wrong, .int mo_value, .ref mo_readA, .ref mo_aheadA, .int mo_undoMany, .ref mo_asideA, .ref mo_weighingsA, .int mo_weighed, .ref mo_bookA, .int mo_entries, .ref mo_isKeptA, .ref mo_keptA, .ref mo_seedsA])), (mo_toldA, .inl (κ 0, 37, .inl mo_told)), (mo_stA, .inl (κ 0, 17, .inl mo_st)), (mo_textA, .inl (κ 0, 240, .inl mo_text)), (mo_readA, .inl (κ 0, 37, .inl mo_read)), (mo_aheadA, .inl (κ 0, 340, .inl mo_ahead)), (mo_asideA, .inl (κ 0, 17, .inl mo_aside)), (mo_weighingsA, .inl (κ 0, 12, .inl mo_weighings)), (mo_bookA, .inl (κ 0, 30, .inl (upd (upd mo_book ((2 * mo_entries).toNatClampNeg) x1) (((2 * mo_entries) + 1).toNatClampNeg) x2))), (mo_isKeptA, .inl (κ 1, 2, .inl mo_isKept)), (mo_keptA, .inl (κ 0, 34, .inl mo_kept)), (mo_seedsA, .inl (κ 0, 2, .inl mo_seeds))]) := hD
        refine lv_aload_n hx hb dX9_write_64 rfl (lv_at hl 0 rfl) ?_
        refine lv_dup hx hb dX9_write_65 rfl ?_
        refine va_get (D := D) (ci := 9) (v := .int mo_entries) (C := RX9) (T := TX9) (N := 21) hx hb hts iw9 hown hK.1 hP 0 rfl rfl 17 (by decide) k1 (fun _ h9 => h9) rfl dX9_write_66 ?_
        refine lv_iconst (v := 1) hx hb dX9_write_69 (by decide) ?_
        refine lv_iadd hx hb dX9_write_70 ?_
        refine va_put (D := D) (ci := 9) (v := .int (mo_entries + 1)) (ty := .int) (C := RX9) (T := TX9) (N := 21) hx hb hts iw9 tyX9 tyX9_ok nmX9 hown hK.1 hP hD hS 0 rfl rfl 17 (by decide) k1 (fun _ h9 => h9) rfl (tyX9_ok 17 (by decide)) rfl rfl (Nat.le_of_ble_eq_true rfl) dX9_write_71 (fun H locs hP hD hS => ?_)
        have hP : va_P D vwCl ([(moo, .inr (9, [.ref mo_toldA, .ref mo_stA, .int mo_isThere, .int mo_seed, .ref mo_textA, .int mo_typed, .int mo_faultAt, .int mo_place, .int mo_wrong, .int mo_value, .ref mo_readA, .ref mo_aheadA, .int mo_undoMany, .ref mo_asideA, .ref mo_weighingsA, .int mo_weighed, .ref mo_bookA, .int (mo_entries + 1), .ref mo_isKeptA, .ref mo_keptA, .ref mo_seedsA])), (mo_toldA, .inl (κ 0, 37, .inl mo_told)), (mo_stA, .inl (κ 0, 17, .inl mo_st)), (mo_textA, .inl (κ 0, 240, .inl mo_text)), (mo_readA, .inl (κ 0, 37, .inl mo_read)), (mo_aheadA, .inl (κ 0, 340, .inl mo_ahead)), (mo_asideA, .inl (κ 0, 17, .inl mo_aside)), (mo_weighingsA, .inl (κ 0, 12, .inl mo_weighings)), (mo_bookA, .inl (κ 0, 30, .inl (upd (upd mo_book ((2 * mo_entries).toNatClampNeg) x1) (((2 * mo_entries) + 1).toNatClampNeg) x2))), (mo_isKeptA, .inl (κ 1, 2, .inl mo_isKept)), (mo_keptA, .inl (κ 0, 34, .inl mo_kept)), (mo_seedsA, .inl (κ 0, 2, .inl mo_seeds))]) H := hP
        have hD : va_D A ([(moo, .inr (9, [.ref mo_toldA, .ref mo_stA, .int mo_isThere, .int mo_seed, .ref mo_textA, .int mo_typed, .int mo_faultAt, .int mo_place, .int mo_wrong, .int mo_value, .ref mo_readA, .ref mo_aheadA, .int mo_undoMany, .ref mo_asideA, .ref mo_weighingsA, .int mo_weighed, .ref mo_bookA, .int (mo_entries + 1), .ref mo_isKeptA, .ref mo_keptA, .ref mo_seedsA])), (mo_toldA, .inl (κ 0, 37, .inl mo_told)), (mo_stA, .inl (κ 0, 17, .inl mo_st)), (mo_textA, .inl (κ 0, 240, .inl mo_text)), (mo_readA, .inl (κ 0, 37, .inl mo_read)), (mo_aheadA, .inl (κ 0, 340, .inl mo_ahead)), (mo_asideA, .inl (κ 0, 17, .inl mo_aside)), (mo_weighingsA, .inl (κ 0, 12, .inl mo_weighings)), (mo_bookA, .inl (κ 0, 30, .inl (upd (upd mo_book ((2 * mo_entries).toNatClampNeg) x1) (((2 * mo_entries) + 1).toNatClampNeg) x2))), (mo_isKeptA, .inl (κ 1, 2, .inl mo_isKept)), (mo_keptA, .inl (κ 0, 34, .inl mo_kept)), (mo_seedsA, .inl (κ 0, 2, .inl mo_seeds))]) := hD
        refine lv_aload_n hx hb dX9_write_74 rfl (lv_at hl 0 rfl) ?_
        refine va_get (D := D) (ci := 9) (v := .int (mo_entries + 1)) (C := RX9) (T := TX9) (N := 21) hx hb hts iw9 hown hK.1 hP 0 rfl rfl 17 (by decide) k1 (fun _ h9 => h9) rfl dX9_write_75 ?_
        have hres := Option.some.inj hres
        have h0 := (Prod.mk.inj hres).1
        replace hres := (Prod.mk.inj hres).2
        have h1 := (Prod.mk.inj hres).1
        replace hres := (Prod.mk.inj hres).2
        have h2 := hres
        subst h0
        subst h1
        subst h2
        exact hret _ _ _ _ (vp_nar_int _) hP hD hS dX9_write_78
      · replace hres := og_t c7 hres
        refine lv_ldc (v := (-1000000004)) hx hb hown k3 dX9_write_35 ?_
        have hres := Option.some.inj hres
        have h0 := (Prod.mk.inj hres).1
        replace hres := (Prod.mk.inj hres).2
        have h1 := (Prod.mk.inj hres).1
        replace hres := (Prod.mk.inj hres).2
        have h2 := hres
        subst h0
        subst h1
        subst h2
        exact hret _ _ _ _ (vp_nar_int _) hP hD hS dX9_write_37
    · replace hres := og_t c6 hres
      refine lv_ldc (v := (-1000000002)) hx hb hown k4 dX9_write_23 ?_
      have hres := Option.some.inj hres
      have h0 := (Prod.mk.inj hres).1
      replace hres := (Prod.mk.inj hres).2
      have h1 := (Prod.mk.inj hres).1
      replace hres := (Prod.mk.inj hres).2
      have h2 := hres
      subst h0
      subst h1
      subst h2
      exact hret _ _ _ _ (vp_nar_int _) hP hD hS dX9_write_25
  · replace hres := og_t c3 hres
    refine lv_ldc (v := (-1000000001)) hx hb hown k5 dX9_write_8 ?_
    have hres := Option.some.inj hres
    have h0 := (Prod.mk.inj hres).1
    replace hres := (Prod.mk.inj hres).2
    have h1 := (Prod.mk.inj hres).1
    replace hres := (Prod.mk.inj hres).2
    have h2 := hres
    subst h0
    subst h1
    subst h2
    exact hret _ _ _ _ (vp_nar_int _) hP hD hS dX9_write_10

def pX9_tear (mo_weighed : Int32) (mo_entries : Int32) : Option (Int32 × Int32 × Int32) :=
    some ((mo_weighed + mo_entries), 0, 0)
set_option maxHeartbeats 8000000 in
set_option maxRecDepth 100000 in
theorem tX9_tear (l : Launch) (D : va_G) (κ : Nat → ClassId) (moo : Nat) (mo_toldA : Nat) (mo_stA : Nat) (mo_textA : Nat) (mo_readA : Nat) (mo_aheadA : Nat) (mo_asideA : Nat) (mo_weighingsA : Nat) (mo_bookA : Nat) (mo_isKeptA : Nat) (mo_keptA : Nat) (mo_seedsA : Nat) (mo_told : Nat → Int32) (mo_st : Nat → Int32) (mo_isThere : Int32) (mo_seed : Int32) (mo_text : Nat → Int32) (mo_typed : Int32) (mo_faultAt : Int32) (mo_place : Int32) (mo_wrong : Int32) (mo_value : Int32) (mo_read : Nat → Int32) (mo_ahead : Nat → Int32) (mo_undoMany : Int32) (mo_aside : Nat → Int32) (mo_weighings : Nat → Int32) (mo_weighed : Int32) (mo_book : Nat → Int32) (mo_entries : Int32) (mo_isKept : Nat → Int32) (mo_kept : Nat → Int32) (mo_seeds : Nat → Int32) (r0 : Int32) (z_mo_weighed : Int32) (z_mo_entries : Int32) (hres : pX9_tear mo_weighed mo_entries = some (r0, z_mo_weighed, z_mo_entries)) : krI l yX9_tear wsX9_tear { frames := 0, cells := 0, slots := 0, locals := 0 } D κ [.ref moo] ([(moo, .inr (9, [.ref mo_toldA, .ref mo_stA, .int mo_isThere, .int mo_seed, .ref mo_textA, .int mo_typed, .int mo_faultAt, .int mo_place, .int mo_wrong, .int mo_value, .ref mo_readA, .ref mo_aheadA, .int mo_undoMany, .ref mo_asideA, .ref mo_weighingsA, .int mo_weighed, .ref mo_bookA, .int mo_entries, .ref mo_isKeptA, .ref mo_keptA, .ref mo_seedsA])), (mo_toldA, .inl (κ 0, 37, .inl mo_told)), (mo_stA, .inl (κ 0, 17, .inl mo_st)), (mo_textA, .inl (κ 0, 240, .inl mo_text)), (mo_readA, .inl (κ 0, 37, .inl mo_read)), (mo_aheadA, .inl (κ 0, 340, .inl mo_ahead)), (mo_asideA, .inl (κ 0, 17, .inl mo_aside)), (mo_weighingsA, .inl (κ 0, 12, .inl mo_weighings)), (mo_bookA, .inl (κ 0, 30, .inl mo_book)), (mo_isKeptA, .inl (κ 1, 2, .inl mo_isKept)), (mo_keptA, .inl (κ 0, 34, .inl mo_kept)), (mo_seedsA, .inl (κ 0, 2, .inl mo_seeds))]) ([(moo, .inr (9, [.ref mo_toldA, .ref mo_stA, .int mo_isThere, .int mo_seed, .ref mo_textA, .int mo_typed, .int mo_faultAt, .int mo_place, .int mo_wrong, .int mo_value, .ref mo_readA, .ref mo_aheadA, .int mo_undoMany, .ref mo_asideA, .ref mo_weighingsA, .int z_mo_weighed, .ref mo_bookA, .int z_mo_entries, .ref mo_isKeptA, .ref mo_keptA, .ref mo_seedsA])), (mo_toldA, .inl (κ 0, 37, .inl mo_told)), (mo_stA, .inl (κ 0, 17, .inl mo_st)), (mo_textA, .inl (κ 0, 240, .inl mo_text)), (mo_readA, .inl (κ 0, 37, .inl mo_read)), (mo_aheadA, .inl (κ 0, 340, .inl mo_ahead)), (mo_asideA, .inl (κ 0, 17, .inl mo_aside)), (mo_weighingsA, .inl (κ 0, 12, .inl mo_weighings)), (mo_bookA, .inl (κ 0, 30, .inl mo_book)), (mo_isKeptA, .inl (κ 1, 2, .inl mo_isKept)), (mo_keptA, .inl (κ 0, 34, .inl mo_kept)), (mo_seedsA, .inl (κ 0, 2, .inl mo_seeds))]) r0 := by
  refine krI_of (cc := cX9_tear) (maxL := 2) (rt := .int) (by decide) rfl (Nat.le_of_ble_eq_true rfl) ?_
  intro p e s m args below meth c A Q ls hx hb hml hown hts hK hA hret hP hD hS hl
  have hown : s.vm.findClass RX9 = some m.cls := hown
  have hl : lv_has ls 2 [(0, .ref moo)] := hl
  have iw9 : ∀ w ∈ u_ws RX9 TX9 21, w ∈ wsX9_tear := (fun _ h => List.mem_cons_of_mem _ (List.mem_append_right _ h))
  have k0 : (Cond.fieldLink RX9 113 "KingRansomModel" "weighed" "I").before args s = true := hts _ (List.mem_of_getElem? (i := 1) rfl)
  have k1 : (Cond.fieldLink RX9 116 "KingRansomModel" "entries" "I").before args s = true := hts _ (List.mem_of_getElem? (i := 2) rfl)
  unfold pX9_tear at hres
  refine lv_aload_n hx hb dX9_tear_0 rfl (lv_at hl 0 rfl) ?_
  refine va_get (D := D) (ci := 9) (v := .int mo_weighed) (C := RX9) (T := TX9) (N := 21) hx hb hts iw9 hown hK.1 hP 0 rfl rfl 15 (by decide) k0 (fun _ h9 => h9) rfl dX9_tear_1 ?_
  refine lv_aload_n hx hb dX9_tear_4 rfl (lv_at hl 0 rfl) ?_
  refine va_get (D := D) (ci := 9) (v := .int mo_entries) (C := RX9) (T := TX9) (N := 21) hx hb hts iw9 hown hK.1 hP 0 rfl rfl 17 (by decide) k1 (fun _ h9 => h9) rfl dX9_tear_5 ?_
  refine lv_iadd hx hb dX9_tear_8 ?_
  refine lv_istore_n (lv' := [(1, .int (mo_weighed + mo_entries)), (0, .ref moo)]) hx hb dX9_tear_9 rfl hl (by decide) rfl (fun ls hl => ?_)
  refine lv_aload_n hx hb dX9_tear_10 rfl (lv_at hl 1 rfl) ?_
  refine lv_iconst (v := 0) hx hb dX9_tear_11 (by decide) ?_
  refine va_put (D := D) (ci := 9) (v := .int 0) (ty := .int) (C := RX9) (T := TX9) (N := 21) hx hb hts iw9 tyX9 tyX9_ok nmX9 hown hK.1 hP hD hS 0 rfl rfl 15 (by decide) k0 (fun _ h9 => h9) rfl (tyX9_ok 15 (by decide)) rfl rfl (Nat.le_of_ble_eq_true rfl) dX9_tear_12 (fun H locs hP hD hS => ?_)
  have hP : va_P D vwCl ([(moo, .inr (9, [.ref mo_toldA, .ref mo_stA, .int mo_isThere, .int mo_seed, .ref mo_textA, .int mo_typed, .int mo_faultAt, .int mo_place, .int mo_wrong, .int mo_value, .ref mo_readA, .ref mo_aheadA, .int mo_undoMany, .ref mo_asideA, .ref mo_weighingsA, .int 0, .ref mo_bookA, .int mo_entries, .ref mo_isKeptA, .ref mo_keptA, .ref mo_seedsA])), (mo_toldA, .inl (κ 0, 37, .inl mo_told)), (mo_stA, .inl (κ 0, 17, .inl mo_st)), (mo_textA, .inl (κ 0, 240, .inl mo_text)), (mo_readA, .inl (κ 0, 37, .inl mo_read)), (mo_aheadA, .inl (κ 0, 340, .inl mo_ahead)), (mo_asideA, .inl (κ 0, 17, .inl mo_aside)), (mo_weighingsA, .inl (κ 0, 12, .inl mo_weighings)), (mo_bookA, .inl (κ 0, 30, .inl mo_book)), (mo_isKeptA, .inl (κ 1, 2, .inl mo_isKept)), (mo_keptA, .inl (κ 0, 34, .inl mo_kept)), (mo_seedsA, .inl (κ 0, 2, .inl mo_seeds))]) H := hP
  have hD : va_D A ([(moo, .inr (9, [.ref mo_toldA, .ref mo_stA, .int mo_isThere, .int mo_seed, .ref mo_textA, .int mo_typed, .int mo_faultAt, .int mo_place, .int mo_wrong, .int mo_value, .ref mo_readA, .ref mo_aheadA, .int mo_undoMany, .ref mo_asideA, .ref mo_weighingsA, .int 0, .ref mo_bookA, .int mo_entries, .ref mo_isKeptA, .ref mo_keptA, .ref mo_seedsA])), (mo_toldA, .inl (κ 0, 37, .inl mo_told)), (mo_stA, .inl (κ 0, 17, .inl mo_st)), (mo_textA, .inl (κ 0, 240, .inl mo_text)), (mo_readA, .inl (κ 0, 37, .inl mo_read)), (mo_aheadA, .inl (κ 0, 340, .inl mo_ahead)), (mo_asideA, .inl (κ 0, 17, .inl mo_aside)), (mo_weighingsA, .inl (κ 0, 12, .inl mo_weighings)), (mo_bookA, .inl (κ 0, 30, .inl mo_book)), (mo_isKeptA, .inl (κ 1, 2, .inl mo_isKept)), (mo_keptA, .inl (κ 0, 34, .inl mo_kept)), (mo_seedsA, .inl (κ 0, 2, .inl mo_seeds))]) := hD
  refine lv_aload_n hx hb dX9_tear_15 rfl (lv_at hl 1 rfl) ?_
  refine lv_iconst (v := 0) hx hb dX9_tear_16 (by decide) ?_
  refine va_put (D := D) (ci := 9) (v := .int 0) (ty := .int) (C := RX9) (T := TX9) (N := 21) hx hb hts iw9 tyX9 tyX9_ok nmX9 hown hK.1 hP hD hS 0 rfl rfl 17 (by decide) k1 (fun _ h9 => h9) rfl (tyX9_ok 17 (by decide)) rfl rfl (Nat.le_of_ble_eq_true rfl) dX9_tear_17 (fun H locs hP hD hS => ?_)
  have hP : va_P D vwCl ([(moo, .inr (9, [.ref mo_toldA, .ref mo_stA, .int mo_isThere, .int mo_seed, .ref mo_textA, .int mo_typed, .int mo_faultAt, .int mo_place, .int mo_wrong, .int mo_value, .ref mo_readA, .ref mo_aheadA, .int mo_undoMany, .ref mo_asideA, .ref mo_weighingsA, .int 0, .ref mo_bookA, .int 0, .ref mo_isKeptA, .ref mo_keptA, .ref mo_seedsA])), (mo_toldA, .inl (κ 0, 37, .inl mo_told)), (mo_stA, .inl (κ 0, 17, .inl mo_st)), (mo_textA, .inl (κ 0, 240, .inl mo_text)), (mo_readA, .inl (κ 0, 37, .inl mo_read)), (mo_aheadA, .inl (κ 0, 340, .inl mo_ahead)), (mo_asideA, .inl (κ 0, 17, .inl mo_aside)), (mo_weighingsA, .inl (κ 0, 12, .inl mo_weighings)), (mo_bookA, .inl (κ 0, 30, .inl mo_book)), (mo_isKeptA, .inl (κ 1, 2, .inl mo_isKept)), (mo_keptA, .inl (κ 0, 34, .inl mo_kept)), (mo_seedsA, .inl (κ 0, 2, .inl mo_seeds))]) H := hP
  have hD : va_D A ([(moo, .inr (9, [.ref mo_toldA, .ref mo_stA, .int mo_isThere, .int mo_seed, .ref mo_textA, .int mo_typed, .int mo_faultAt, .int mo_place, .int mo_wrong, .int mo_value, .ref mo_readA, .ref mo_aheadA, .int mo_undoMany, .ref mo_asideA, .ref mo_weighingsA, .int 0, .ref mo_bookA, .int 0, .ref mo_isKeptA, .ref mo_keptA, .ref mo_seedsA])), (mo_toldA, .inl (κ 0, 37, .inl mo_told)), (mo_stA, .inl (κ 0, 17, .inl mo_st)), (mo_textA, .inl (κ 0, 240, .inl mo_text)), (mo_readA, .inl (κ 0, 37, .inl mo_read)), (mo_aheadA, .inl (κ 0, 340, .inl mo_ahead)), (mo_asideA, .inl (κ 0, 17, .inl mo_aside)), (mo_weighingsA, .inl (κ 0, 12, .inl mo_weighings)), (mo_bookA, .inl (κ 0, 30, .inl mo_book)), (mo_isKeptA, .inl (κ 1, 2, .inl mo_isKept)), (mo_keptA, .inl (κ 0, 34, .inl mo_kept)), (mo_seedsA, .inl (κ 0, 2, .inl mo_seeds))]) := hD
  refine lv_iload_n hx hb dX9_tear_20 rfl (lv_at hl 0 rfl) ?_
  have hres := Option.some.inj hres
  have h0 := (Prod.mk.inj hres).1
  replace hres := (Prod.mk.inj hres).2
  have h1 := (Prod.mk.inj hres).1
  replace hres := (Prod.mk.inj hres).2
  have h2 := hres
  subst h0
  subst h1
  subst h2
  exact hret _ _ _ _ (vp_nar_int _) hP hD hS dX9_tear_21

def pX9_judge_L2 (mo_st : Nat → Int32) (mo_book : Nat → Int32) (mo_entries : Int32) : Nat → Int32 → Option (Int32)
  | 0, _ => none
  | n2 + 1, v1 =>
    (if mo_entries ≤ v1 then
    some ((-1))
    else
    if (2 * v1) < 0 ∨ 30 ≤ (2 * v1).toNatClampNeg then none else
    if (0 + (mo_book ((2 * v1).toNatClampNeg))) < 0 ∨ 17 ≤ (0 + (mo_book ((2 * v1).toNatClampNeg))).toNatClampNeg then none else
    if ((2 * v1) + 1) < 0 ∨ 30 ≤ ((2 * v1) + 1).toNatClampNeg then none else
    (if (mo_st ((0 + (mo_book ((2 * v1).toNatClampNeg))).toNatClampNeg)) = (mo_book (((2 * v1) + 1).toNatClampNeg)) then
    pX9_judge_L2 mo_st mo_book mo_entries n2 (v1 + 1)
    else
    some (v1)))
def pX9_judge (N : Nat) (mo_st : Nat → Int32) (mo_book : Nat → Int32) (mo_entries : Int32) : Option (Int32) :=
    pX9_judge_L2 mo_st mo_book mo_entries N 0
set_option maxHeartbeats 8000000 in
set_option maxRecDepth 100000 in
theorem tX9_judge (l : Launch) (D : va_G) (κ : Nat → ClassId) (moo : Nat) (mo_toldA : Nat) (mo_stA : Nat) (mo_textA : Nat) (mo_readA : Nat) (mo_aheadA : Nat) (mo_asideA : Nat) (mo_weighingsA : Nat) (mo_bookA : Nat) (mo_isKeptA : Nat) (mo_keptA : Nat) (mo_seedsA : Nat) (N : Nat) (mo_told : Nat → Int32) (mo_st : Nat → Int32) (mo_isThere : Int32) (mo_seed : Int32) (mo_text : Nat → Int32) (mo_typed : Int32) (mo_faultAt : Int32) (mo_place : Int32) (mo_wrong : Int32) (mo_value : Int32) (mo_read : Nat → Int32) (mo_ahead : Nat → Int32) (mo_undoMany : Int32) (mo_aside : Nat → Int32) (mo_weighings : Nat → Int32) (mo_weighed : Int32) (mo_book : Nat → Int32) (mo_entries : Int32) (mo_isKept : Nat → Int32) (mo_kept : Nat → Int32) (mo_seeds : Nat → Int32) (r0 : Int32) (hres : pX9_judge N mo_st mo_book mo_entries = some (r0)) : krI l yX9_judge wsX9_judge { frames := 0, cells := 0, slots := 0, locals := 0 } D κ [.ref moo] ([(moo, .inr (9, [.ref mo_toldA, .ref mo_stA, .int mo_isThere, .int mo_seed, .ref mo_textA, .int mo_typed, .int mo_faultAt, .int mo_place, .int mo_wrong, .int mo_value, .ref mo_readA, .ref mo_aheadA, .int mo_undoMany, .ref mo_asideA, .ref mo_weighingsA, .int mo_weighed, .ref mo_bookA, .int mo_entries, .ref mo_isKeptA, .ref mo_keptA, .ref mo_seedsA])), (mo_toldA, .inl (κ 0, 37, .inl mo_told)), (mo_stA, .inl (κ 0, 17, .inl mo_st)), (mo_textA, .inl (κ 0, 240, .inl mo_text)), (mo_readA, .inl (κ 0, 37, .inl mo_read)), (mo_aheadA, .inl (κ 0, 340, .inl mo_ahead)), (mo_asideA, .inl (κ 0, 17, .inl mo_aside)), (mo_weighingsA, .inl (κ 0, 12, .inl mo_weighings)), (mo_bookA, .inl (κ 0, 30, .inl mo_book)), (mo_isKeptA, .inl (κ 1, 2, .inl mo_isKept)), (mo_keptA, .inl (κ 0, 34, .inl mo_kept)), (mo_seedsA, .inl (κ 0, 2, .inl mo_seeds))]) ([(moo, .inr (9, [.ref mo_toldA, .ref mo_stA, .int mo_isThere, .int mo_seed, .ref mo_textA, .int mo_typed, .int mo_faultAt, .int mo_place, .int mo_wrong, .int mo_value, .ref mo_readA, .ref mo_aheadA, .int mo_undoMany, .ref mo_asideA, .ref mo_weighingsA, .int mo_weighed, .ref mo_bookA, .int mo_entries, .ref mo_isKeptA, .ref mo_keptA, .ref mo_seedsA])), (mo_toldA, .inl (κ 0, 37, .inl mo_told)), (mo_stA, .inl (κ 0, 17, .inl mo_st)), (mo_textA, .inl (κ 0, 240, .inl mo_text)), (mo_readA, .inl (κ 0, 37, .inl mo_read)), (mo_aheadA, .inl (κ 0, 340, .inl mo_ahead)), (mo_asideA, .inl (κ 0, 17, .inl mo_aside)), (mo_weighingsA, .inl (κ 0, 12, .inl mo_weighings)), (mo_bookA, .inl (κ 0, 30, .inl mo_book)), (mo_isKeptA, .inl (κ 1, 2, .inl mo_isKept)), (mo_keptA, .inl (κ 0, 34, .inl mo_kept)), (mo_seedsA, .inl (κ 0, 2, .inl mo_seeds))]) r0 := by
  refine krI_of (cc := cX9_judge) (maxL := 2) (rt := .int) (by decide) rfl (Nat.le_of_ble_eq_true rfl) ?_
  intro p e s m args below meth c A Q ls hx hb hml hown hts hK hA hret hP hD hS hl
  have hown : s.vm.findClass RX9 = some m.cls := hown
  have hl : lv_has ls 2 [(0, .ref moo)] := hl
  have iw9 : ∀ w ∈ u_ws RX9 TX9 21, w ∈ wsX9_judge := (fun _ h => List.mem_cons_of_mem _ (List.mem_append_right _ h))
  have k0 : (Cond.fieldLink RX9 116 "KingRansomModel" "entries" "I").before args s = true := hts _ (List.mem_of_getElem? (i := 1) rfl)
  have k1 : (Cond.fieldLink RX9 13 "KingRansomModel" "st" "[I").before args s = true := hts _ (List.mem_of_getElem? (i := 2) rfl)
  have k2 : (Cond.fieldLink RX9 35 "KingRansomModel" "book" "[I").before args s = true := hts _ (List.mem_of_getElem? (i := 3) rfl)
  have L2 : ∀ (n2 : Nat) (v1 : Int32) (H : Heap) (locs : List Loc) (ls : Array Slot), va_P D vwCl ([(moo, .inr (9, [.ref mo_toldA, .ref mo_stA, .int mo_isThere, .int mo_seed, .ref mo_textA, .int mo_typed, .int mo_faultAt, .int mo_place, .int mo_wrong, .int mo_value, .ref mo_readA, .ref mo_aheadA, .int mo_undoMany, .ref mo_asideA, .ref mo_weighingsA, .int mo_weighed, .ref mo_bookA, .int mo_entries, .ref mo_isKeptA, .ref mo_keptA, .ref mo_seedsA])), (mo_toldA, .inl (κ 0, 37, .inl mo_told)), (mo_stA, .inl (κ 0, 17, .inl mo_st)), (mo_textA, .inl (κ 0, 240, .inl mo_text)), (mo_readA, .inl (κ 0, 37, .inl mo_read)), (mo_aheadA, .inl (κ 0, 340, .inl mo_ahead)), (mo_asideA, .inl (κ 0, 17, .inl mo_aside)), (mo_weighingsA, .inl (κ 0, 12, .inl mo_weighings)), (mo_bookA, .inl (κ 0, 30, .inl mo_book)), (mo_isKeptA, .inl (κ 1, 2, .inl mo_isKept)), (mo_keptA, .inl (κ 0, 34, .inl mo_kept)), (mo_seedsA, .inl (κ 0, 2, .inl mo_seeds))]) H → va_D A ([(moo, .inr (9, [.ref mo_toldA, .ref mo_stA, .int mo_isThere, .int mo_seed, .ref mo_textA, .int mo_typed, .int mo_faultAt, .int mo_place, .int mo_wrong, .int mo_value, .ref mo_readA, .ref mo_aheadA, .int mo_undoMany, .ref mo_asideA, .ref mo_weighingsA, .int mo_weighed, .ref mo_bookA, .int mo_entries, .ref mo_isKeptA, .ref mo_keptA, .ref mo_seedsA])), (mo_toldA, .inl (κ 0, 37, .inl mo_told)), (mo_stA, .inl (κ 0, 17, .inl mo_st)), (mo_textA, .inl (κ 0, 240, .inl mo_text)), (mo_readA, .inl (κ 0, 37, .inl mo_read)), (mo_aheadA, .inl (κ 0, 340, .inl mo_ahead)), (mo_asideA, .inl (κ 0, 17, .inl mo_aside)), (mo_weighingsA, .inl (κ 0, 12, .inl mo_weighings)), (mo_bookA, .inl (κ 0, 30, .inl mo_book)), (mo_isKeptA, .inl (κ 1, 2, .inl mo_isKept)), (mo_keptA, .inl (κ 0, 34, .inl mo_kept)), (mo_seedsA, .inl (κ 0, 2, .inl mo_seeds))]) → va_S A s.heap H locs → lv_has ls 2 [(0, .ref moo), (1, .int v1)] → pX9_judge_L2 mo_st mo_book mo_entries n2 v1 = some (r0) → W p l e { frames := 0, cells := 0, slots := 0, locals := 0 } s m args below meth c H locs 0 0 Q (F0 m 2 ls []) := by
    intro n2
    induction n2 with
    | zero =>
      intro v1 H locs ls hP hD hS hl hres
      exact absurd (show none = some _ from hres) (by simp)
    | succ n2 ih2 =>
      intro v1 H locs ls hP hD hS hl hres
      rw [pX9_judge_L2] at hres
      refine lv_iload_n hx hb dX9_judge_2 rfl (lv_at hl 1 rfl) ?_
      refine lv_aload_n hx hb dX9_judge_3 rfl (lv_at hl 0 rfl) ?_
      refine va_get (D := D) (ci := 9) (v := .int mo_entries) (C := RX9) (T := TX9) (N := 21) hx hb hts iw9 hown hK.1 hP 0 rfl rfl 17 (by decide) k0 (fun _ h9 => h9) rfl dX9_judge_4 ?_
      refine lv_icmp_ge (tgt := 46) hx hb dX9_judge_7 (by decide) (fun c1 => ?_) (fun c1 => ?_)
      · replace hres := og_t c1 hres
        refine lv_iconst (v := (-1)) hx hb dX9_judge_46 (by decide) ?_
        have hres := Option.some.inj hres
        have h0 := hres
        subst h0
        exact hret _ _ _ _ (vp_nar_int _) hP hD hS dX9_judge_47
      · replace hres := og_f c1 hres
        refine lv_aload_n hx hb dX9_judge_10 rfl (lv_at hl 0 rfl) ?_
        refine va_get (D := D) (ci := 9) (v := .ref mo_stA) (C := RX9) (T := TX9) (N := 21) hx hb hts iw9 hown hK.1 hP 0 rfl rfl 1 (by decide) k1 (fun _ h9 => h9) rfl dX9_judge_11 ?_
        refine lv_iconst (v := 0) hx hb dX9_judge_14 (by decide) ?_
        refine lv_aload_n hx hb dX9_judge_15 rfl (lv_at hl 0 rfl) ?_
        refine va_get (D := D) (ci := 9) (v := .ref mo_bookA) (C := RX9) (T := TX9) (N := 21) hx hb hts iw9 hown hK.1 hP 0 rfl rfl 16 (by decide) k2 (fun _ h9 => h9) rfl dX9_judge_16 ?_
        refine lv_iconst (v := 2) hx hb dX9_judge_19 (by decide) ?_
        refine lv_iload_n hx hb dX9_judge_20 rfl (lv_at hl 1 rfl) ?_
        refine lv_imul hx hb dX9_judge_21 ?_
        obtain ⟨g2, hres⟩ := og_no hres
        refine kr_iald (f := mo_book) (j := (2 * v1).toNatClampNeg) hx hb hK hP 8 rfl g2 rfl dX9_judge_22 ?_
        refine lv_iadd hx hb dX9_judge_23 ?_
        obtain ⟨g3, hres⟩ := og_no hres
        refine kr_iald (f := mo_st) (j := (0 + (mo_book ((2 * v1).toNatClampNeg))).toNatClampNeg) hx hb hK hP 2 rfl g3 rfl dX9_judge_24 ?_
        refine lv_aload_n hx hb dX9_judge_25 rfl (lv_at hl 0 rfl) ?_
        refine va_get (D := D) (ci := 9) (v := .ref mo_bookA) (C := RX9) (T := TX9) (N := 21) hx hb hts iw9 hown hK.1 hP 0 rfl rfl 16 (by decide) k2 (fun _ h9 => h9) rfl dX9_judge_26 ?_
        refine lv_iconst (v := 2) hx hb dX9_judge_29 (by decide) ?_
        refine lv_iload_n hx hb dX9_judge_30 rfl (lv_at hl 1 rfl) ?_
        refine lv_imul hx hb dX9_judge_31 ?_
        refine lv_iconst (v := 1) hx hb dX9_judge_32 (by decide) ?_
        refine lv_iadd hx hb dX9_judge_33 ?_
        obtain ⟨g4, hres⟩ := og_no hres
        refine kr_iald (f := mo_book) (j := ((2 * v1) + 1).toNatClampNeg) hx hb hK hP 8 rfl g4 rfl dX9_judge_34 ?_
        refine lv_icmp_eq (tgt := 40) hx hb dX9_judge_35 (by decide) (fun c5 => ?_) (fun c5 => ?_)
        · replace hres := og_t c5 hres
          refine lv_iinc (v := (v1 + 1)) (lv' := [(1, .int (v1 + 1)), (0, .ref moo)]) hx hb dX9_judge_40 hl (k := 1) rfl rfl (by decide) rfl (fun ls hl => ?_)
          refine lv_goto (tgt := 2) hx hb dX9_judge_43 (by decide) ?_
          exact ih2 (v1 + 1) _ _ _ hP hD hS (lv_sub hl [1, 0] rfl) hres
        · replace hres := og_f c5 hres
          refine lv_iload_n hx hb dX9_judge_38 rfl (lv_at hl 1 rfl) ?_
          have hres := Option.some.inj hres
          have h0 := hres
          subst h0
          exact hret _ _ _ _ (vp_nar_int _) hP hD hS dX9_judge_39
  unfold pX9_judge at hres
  refine lv_iconst (v := 0) hx hb dX9_judge_0 (by decide) ?_
  refine lv_istore_n (lv' := [(1, .int 0), (0, .ref moo)]) hx hb dX9_judge_1 rfl hl (by decide) rfl (fun ls hl => ?_)
  exact L2 N 0 _ _ _ hP hD hS (lv_sub hl [1, 0] rfl) hres

def pX9_seed (x1 : Int32) (mo_seed : Int32) : Option (Int32 × Int32) :=
    (if 0 ≤ x1 then
    some (mo_seed, x1)
    else
    some ((-1000000002), mo_seed))
set_option maxHeartbeats 8000000 in
set_option maxRecDepth 100000 in
theorem tX9_seed (l : Launch) (D : va_G) (κ : Nat → ClassId) (moo : Nat) (mo_toldA : Nat) (mo_stA : Nat) (mo_textA : Nat) (mo_readA : Nat) (mo_aheadA : Nat) (mo_asideA : Nat) (mo_weighingsA : Nat) (mo_bookA : Nat) (mo_isKeptA : Nat) (mo_keptA : Nat) (mo_seedsA : Nat) (mo_told : Nat → Int32) (mo_st : Nat → Int32) (mo_isThere : Int32) (mo_seed : Int32) (mo_text : Nat → Int32) (mo_typed : Int32) (mo_faultAt : Int32) (mo_place : Int32) (mo_wrong : Int32) (mo_value : Int32) (mo_read : Nat → Int32) (mo_ahead : Nat → Int32) (mo_undoMany : Int32) (mo_aside : Nat → Int32) (mo_weighings : Nat → Int32) (mo_weighed : Int32) (mo_book : Nat → Int32) (mo_entries : Int32) (mo_isKept : Nat → Int32) (mo_kept : Nat → Int32) (mo_seeds : Nat → Int32) (x1 : Int32) (r0 : Int32) (z_mo_seed : Int32) (hres : pX9_seed x1 mo_seed = some (r0, z_mo_seed)) : krI l yX9_seed wsX9_seed { frames := 0, cells := 0, slots := 0, locals := 0 } D κ [.ref moo, .int x1] ([(moo, .inr (9, [.ref mo_toldA, .ref mo_stA, .int mo_isThere, .int mo_seed, .ref mo_textA, .int mo_typed, .int mo_faultAt, .int mo_place, .int mo_wrong, .int mo_value, .ref mo_readA, .ref mo_aheadA, .int mo_undoMany, .ref mo_asideA, .ref mo_weighingsA, .int mo_weighed, .ref mo_bookA, .int mo_entries, .ref mo_isKeptA, .ref mo_keptA, .ref mo_seedsA])), (mo_toldA, .inl (κ 0, 37, .inl mo_told)), (mo_stA, .inl (κ 0, 17, .inl mo_st)), (mo_textA, .inl (κ 0, 240, .inl mo_text)), (mo_readA, .inl (κ 0, 37, .inl mo_read)), (mo_aheadA, .inl (κ 0, 340, .inl mo_ahead)), (mo_asideA, .inl (κ 0, 17, .inl mo_aside)), (mo_weighingsA, .inl (κ 0, 12, .inl mo_weighings)), (mo_bookA, .inl (κ 0, 30, .inl mo_book)), (mo_isKeptA, .inl (κ 1, 2, .inl mo_isKept)), (mo_keptA, .inl (κ 0, 34, .inl mo_kept)), (mo_seedsA, .inl (κ 0, 2, .inl mo_seeds))]) ([(moo, .inr (9, [.ref mo_toldA, .ref mo_stA, .int mo_isThere, .int z_mo_seed, .ref mo_textA, .int mo_typed, .int mo_faultAt, .int mo_place, .int mo_wrong, .int mo_value, .ref mo_readA, .ref mo_aheadA, .int mo_undoMany, .ref mo_asideA, .ref mo_weighingsA, .int mo_weighed, .ref mo_bookA, .int mo_entries, .ref mo_isKeptA, .ref mo_keptA, .ref mo_seedsA])), (mo_toldA, .inl (κ 0, 37, .inl mo_told)), (mo_stA, .inl (κ 0, 17, .inl mo_st)), (mo_textA, .inl (κ 0, 240, .inl mo_text)), (mo_readA, .inl (κ 0, 37, .inl mo_read)), (mo_aheadA, .inl (κ 0, 340, .inl mo_ahead)), (mo_asideA, .inl (κ 0, 17, .inl mo_aside)), (mo_weighingsA, .inl (κ 0, 12, .inl mo_weighings)), (mo_bookA, .inl (κ 0, 30, .inl mo_book)), (mo_isKeptA, .inl (κ 1, 2, .inl mo_isKept)), (mo_keptA, .inl (κ 0, 34, .inl mo_kept)), (mo_seedsA, .inl (κ 0, 2, .inl mo_seeds))]) r0 := by
  refine krI_of (cc := cX9_seed) (maxL := 3) (rt := .int) (by decide) rfl (Nat.le_of_ble_eq_true rfl) ?_
  intro p e s m args below meth c A Q ls hx hb hml hown hts hK hA hret hP hD hS hl
  have hown : s.vm.findClass RX9 = some m.cls := hown
  have hl : lv_has ls 3 [(0, .ref moo), (1, .int x1)] := hl
  have iw9 : ∀ w ∈ u_ws RX9 TX9 21, w ∈ wsX9_seed := (fun _ h => List.mem_cons_of_mem _ (List.mem_append_right _ h))
  have k0 : (Cond.fieldLink RX9 159 "KingRansomModel" "seed" "I").before args s = true := hts _ (List.mem_of_getElem? (i := 2) rfl)
  have k1 : (Cond.constant RX9 54 (-1000000002)).before args s = true := hts _ (List.mem_of_getElem? (i := 1) rfl)
  unfold pX9_seed at hres
  refine lv_iload_n hx hb dX9_seed_0 rfl (lv_at hl 1 rfl) ?_
  refine lv_if_ge (tgt := 7) hx hb dX9_seed_1 (by decide) (fun c1 => ?_) (fun c1 => ?_)
  · replace hres := og_t c1 hres
    refine lv_aload_n hx hb dX9_seed_7 rfl (lv_at hl 0 rfl) ?_
    refine va_get (D := D) (ci := 9) (v := .int mo_seed) (C := RX9) (T := TX9) (N := 21) hx hb hts iw9 hown hK.1 hP 0 rfl rfl 3 (by decide) k0 (fun _ h9 => h9) rfl dX9_seed_8 ?_
    refine lv_istore_n (lv' := [(2, .int mo_seed), (0, .ref moo), (1, .int x1)]) hx hb dX9_seed_11 rfl hl (by decide) rfl (fun ls hl => ?_)
    refine lv_aload_n hx hb dX9_seed_12 rfl (lv_at hl 1 rfl) ?_
    refine lv_iload_n hx hb dX9_seed_13 rfl (lv_at hl 2 rfl) ?_
    refine va_put (D := D) (ci := 9) (v := .int x1) (ty := .int) (C := RX9) (T := TX9) (N := 21) hx hb hts iw9 tyX9 tyX9_ok nmX9 hown hK.1 hP hD hS 0 rfl rfl 3 (by decide) k0 (fun _ h9 => h9) rfl (tyX9_ok 3 (by decide)) rfl rfl (Nat.le_of_ble_eq_true rfl) dX9_seed_14 (fun H locs hP hD hS => ?_)
    have hP : va_P D vwCl ([(moo, .inr (9, [.ref mo_toldA, .ref mo_stA, .int mo_isThere, .int x1, .ref mo_textA, .int mo_typed, .int mo_faultAt, .int mo_place, .int mo_wrong, .int mo_value, .ref mo_readA, .ref mo_aheadA, .int mo_undoMany, .ref mo_asideA, .ref mo_weighingsA, .int mo_weighed, .ref mo_bookA, .int mo_entries, .ref mo_isKeptA, .ref mo_keptA, .ref mo_seedsA])), (mo_toldA, .inl (κ 0, 37, .inl mo_told)), (mo_stA, .inl (κ 0, 17, .inl mo_st)), (mo_textA, .inl (κ 0, 240, .inl mo_text)), (mo_readA, .inl (κ 0, 37, .inl mo_read)), (mo_aheadA, .inl (κ 0, 340, .inl mo_ahead)), (mo_asideA, .inl (κ 0, 17, .inl mo_aside)), (mo_weighingsA, .inl (κ 0, 12, .inl mo_weighings)), (mo_bookA, .inl (κ 0, 30, .inl mo_book)), (mo_isKeptA, .inl (κ 1, 2, .inl mo_isKept)), (mo_keptA, .inl (κ 0, 34, .inl mo_kept)), (mo_seedsA, .inl (κ 0, 2, .inl mo_seeds))]) H := hP
    have hD : va_D A ([(moo, .inr (9, [.ref mo_toldA, .ref mo_stA, .int mo_isThere, .int x1, .ref mo_textA, .int mo_typed, .int mo_faultAt, .int mo_place, .int mo_wrong, .int mo_value, .ref mo_readA, .ref mo_aheadA, .int mo_undoMany, .ref mo_asideA, .ref mo_weighingsA, .int mo_weighed, .ref mo_bookA, .int mo_entries, .ref mo_isKeptA, .ref mo_keptA, .ref mo_seedsA])), (mo_toldA, .inl (κ 0, 37, .inl mo_told)), (mo_stA, .inl (κ 0, 17, .inl mo_st)), (mo_textA, .inl (κ 0, 240, .inl mo_text)), (mo_readA, .inl (κ 0, 37, .inl mo_read)), (mo_aheadA, .inl (κ 0, 340, .inl mo_ahead)), (mo_asideA, .inl (κ 0, 17, .inl mo_aside)), (mo_weighingsA, .inl (κ 0, 12, .inl mo_weighings)), (mo_bookA, .inl (κ 0, 30, .inl mo_book)), (mo_isKeptA, .inl (κ 1, 2, .inl mo_isKept)), (mo_keptA, .inl (κ 0, 34, .inl mo_kept)), (mo_seedsA, .inl (κ 0, 2, .inl mo_seeds))]) := hD
    refine lv_iload_n hx hb dX9_seed_17 rfl (lv_at hl 0 rfl) ?_
    have hres := Option.some.inj hres
    have h0 := (Prod.mk.inj hres).1
    replace hres := (Prod.mk.inj hres).2
    have h1 := hres
    subst h0
    subst h1
    exact hret _ _ _ _ (vp_nar_int _) hP hD hS dX9_seed_18
  · replace hres := og_f c1 hres
    refine lv_ldc (v := (-1000000002)) hx hb hown k1 dX9_seed_4 ?_
    have hres := Option.some.inj hres
    have h0 := (Prod.mk.inj hres).1
    replace hres := (Prod.mk.inj hres).2
    have h1 := hres
    subst h0
    subst h1
    exact hret _ _ _ _ (vp_nar_int _) hP hD hS dX9_seed_6

def pX9_keep_L15 (x1 : Int32) (mo_st : Nat → Int32) (mo_seed : Int32) (mo_isKept : Nat → Int32) (mo_seeds : Nat → Int32) : Nat → Int32 → (Nat → Int32) → Option (Int32 × Int32 × (Nat → Int32) × (Nat → Int32) × (Nat → Int32))
  | 0, _, _ => none
  | n15 + 1, v2, w_mo_kept =>
    (if 17 ≤ v2 then
    if x1 < 0 ∨ 2 ≤ x1.toNatClampNeg then none else
    some (1, 0, (upd mo_isKept x1.toNatClampNeg 1), w_mo_kept, (upd mo_seeds x1.toNatClampNeg mo_seed))
    else
    if v2 < 0 ∨ 17 ≤ v2.toNatClampNeg then none else
    if ((17 * x1) + v2) < 0 ∨ 34 ≤ ((17 * x1) + v2).toNatClampNeg then none else
    pX9_keep_L15 x1 mo_st mo_seed mo_isKept mo_seeds n15 (v2 + 1) (upd w_mo_kept (((17 * x1) + v2).toNatClampNeg) (mo_st v2.toNatClampNeg)))
def pX9_keep (N : Nat) (x1 : Int32) (mo_st : Nat → Int32) (mo_seed : Int32) (mo_undoMany : Int32) (mo_isKept : Nat → Int32) (mo_kept : Nat → Int32) (mo_seeds : Nat → Int32) : Option (Int32 × Int32 × (Nat → Int32) × (Nat → Int32) × (Nat → Int32)) :=
    kb1 (pX9_in (x1.toInt64) 0 1) fun r1 =>
    (if r1 = 0 then
    some ((-1000000001), mo_undoMany, mo_isKept, mo_kept, mo_seeds)
    else
    pX9_keep_L15 x1 mo_st mo_seed mo_isKept mo_seeds N 0 mo_kept)
set_option maxHeartbeats 8000000 in
set_option maxRecDepth 100000 in
theorem tX9_keep (l : Launch) (D : va_G) (κ : Nat → ClassId) (moo : Nat) (mo_toldA : Nat) (mo_stA : Nat) (mo_textA : Nat) (mo_readA : Nat) (mo_aheadA : Nat) (mo_asideA : Nat) (mo_weighingsA : Nat) (mo_bookA : Nat) (mo_isKeptA : Nat) (mo_keptA : Nat) (mo_seedsA : Nat) (N : Nat) (mo_told : Nat → Int32) (mo_st : Nat → Int32) (mo_isThere : Int32) (mo_seed : Int32) (mo_text : Nat → Int32) (mo_typed : Int32) (mo_faultAt : Int32) (mo_place : Int32) (mo_wrong : Int32) (mo_value : Int32) (mo_read : Nat → Int32) (mo_ahead : Nat → Int32) (mo_undoMany : Int32) (mo_aside : Nat → Int32) (mo_weighings : Nat → Int32) (mo_weighed : Int32) (mo_book : Nat → Int32) (mo_entries : Int32) (mo_isKept : Nat → Int32) (mo_kept : Nat → Int32) (mo_seeds : Nat → Int32) (x1 : Int32) (r0 : Int32) (z_mo_undoMany : Int32) (z_mo_isKept : Nat → Int32) (z_mo_kept : Nat → Int32) (z_mo_seeds : Nat → Int32) (hres : pX9_keep N x1 mo_st mo_seed mo_undoMany mo_isKept mo_kept mo_seeds = some (r0, z_mo_undoMany, z_mo_isKept, z_mo_kept, z_mo_seeds)) : krI l yX9_keep wsX9_keep { frames := 1, cells := 0, slots := 0, locals := 100 } D κ [.ref moo, .int x1] ([(moo, .inr (9, [.ref mo_toldA, .ref mo_stA, .int mo_isThere, .int mo_seed, .ref mo_textA, .int mo_typed, .int mo_faultAt, .int mo_place, .int mo_wrong, .int mo_value, .ref mo_readA, .ref mo_aheadA, .int mo_undoMany, .ref mo_asideA, .ref mo_weighingsA, .int mo_weighed, .ref mo_bookA, .int mo_entries, .ref mo_isKeptA, .ref mo_keptA, .ref mo_seedsA])), (mo_toldA, .inl (κ 0, 37, .inl mo_told)), (mo_stA, .inl (κ 0, 17, .inl mo_st)), (mo_textA, .inl (κ 0, 240, .inl mo_text)), (mo_readA, .inl (κ 0, 37, .inl mo_read)), (mo_aheadA, .inl (κ 0, 340, .inl mo_ahead)), (mo_asideA, .inl (κ 0, 17, .inl mo_aside)), (mo_weighingsA, .inl (κ 0, 12, .inl mo_weighings)), (mo_bookA, .inl (κ 0, 30, .inl mo_book)), (mo_isKeptA, .inl (κ 1, 2, .inl mo_isKept)), (mo_keptA, .inl (κ 0, 34, .inl mo_kept)), (mo_seedsA, .inl (κ 0, 2, .inl mo_seeds))]) ([(moo, .inr (9, [.ref mo_toldA, .ref mo_stA, .int mo_isThere, .int mo_seed, .ref mo_textA, .int mo_typed, .int mo_faultAt, .int mo_place, .int mo_wrong, .int mo_value, .ref mo_readA, .ref mo_aheadA, .int z_mo_undoMany, .ref mo_asideA, .ref mo_weighingsA, .int mo_weighed, .ref mo_bookA, .int mo_entries, .ref mo_isKeptA, .ref mo_keptA, .ref mo_seedsA])), (mo_toldA, .inl (κ 0, 37, .inl mo_told)), (mo_stA, .inl (κ 0, 17, .inl mo_st)), (mo_textA, .inl (κ 0, 240, .inl mo_text)), (mo_readA, .inl (κ 0, 37, .inl mo_read)), (mo_aheadA, .inl (κ 0, 340, .inl mo_ahead)), (mo_asideA, .inl (κ 0, 17, .inl mo_aside)), (mo_weighingsA, .inl (κ 0, 12, .inl mo_weighings)), (mo_bookA, .inl (κ 0, 30, .inl mo_book)), (mo_isKeptA, .inl (κ 1, 2, .inl z_mo_isKept)), (mo_keptA, .inl (κ 0, 34, .inl z_mo_kept)), (mo_seedsA, .inl (κ 0, 2, .inl z_mo_seeds))]) r0 := by
  refine krI_of (cc := cX9_keep) (maxL := 3) (rt := .int) (by decide) rfl (Nat.le_of_ble_eq_true rfl) ?_
  intro p e s m args below meth c A Q ls hx hb hml hown hts hK hA hret hP hD hS hl
  have hown : s.vm.findClass RX9 = some m.cls := hown
  have hl : lv_has ls 3 [(0, .ref moo), (1, .int x1)] := hl
  have iw9 : ∀ w ∈ u_ws RX9 TX9 21, w ∈ wsX9_keep := (fun _ h => List.mem_cons_of_mem _ (List.mem_append_right _ h))
  have k0 : (Cond.constant RX9 126 (-1000000001)).before args s = true := hts _ (List.mem_of_getElem? (i := 1) rfl)
  have k1 : (Cond.fieldLink RX9 45 "KingRansomModel" "seeds" "[I").before args s = true := hts _ (List.mem_of_getElem? (i := 4) rfl)
  have k2 : (Cond.fieldLink RX9 159 "KingRansomModel" "seed" "I").before args s = true := hts _ (List.mem_of_getElem? (i := 5) rfl)
  have k3 : (Cond.fieldLink RX9 38 "KingRansomModel" "isKept" "[Z").before args s = true := hts _ (List.mem_of_getElem? (i := 6) rfl)
  have k4 : (Cond.fieldLink RX9 110 "KingRansomModel" "undoMany" "I").before args s = true := hts _ (List.mem_of_getElem? (i := 7) rfl)
  have k5 : (Cond.fieldLink RX9 42 "KingRansomModel" "kept" "[I").before args s = true := hts _ (List.mem_of_getElem? (i := 2) rfl)
  have k6 : (Cond.fieldLink RX9 13 "KingRansomModel" "st" "[I").before args s = true := hts _ (List.mem_of_getElem? (i := 3) rfl)
  have L15 : ∀ (n15 : Nat) (v2 : Int32) (w_mo_kept : Nat → Int32) (H : Heap) (locs : List Loc) (ls : Array Slot), va_P D vwCl ([(moo, .inr (9, [.ref mo_toldA, .ref mo_stA, .int mo_isThere, .int mo_seed, .ref mo_textA, .int mo_typed, .int mo_faultAt, .int mo_place, .int mo_wrong, .int mo_value, .ref mo_readA, .ref mo_aheadA, .int mo_undoMany, .ref mo_asideA, .ref mo_weighingsA, .int mo_weighed, .ref mo_bookA, .int mo_entries, .ref mo_isKeptA, .ref mo_keptA, .ref mo_seedsA])), (mo_toldA, .inl (κ 0, 37, .inl mo_told)), (mo_stA, .inl (κ 0, 17, .inl mo_st)), (mo_textA, .inl (κ 0, 240, .inl mo_text)), (mo_readA, .inl (κ 0, 37, .inl mo_read)), (mo_aheadA, .inl (κ 0, 340, .inl mo_ahead)), (mo_asideA, .inl (κ 0, 17, .inl mo_aside)), (mo_weighingsA, .inl (κ 0, 12, .inl mo_weighings)), (mo_bookA, .inl (κ 0, 30, .inl mo_book)), (mo_isKeptA, .inl (κ 1, 2, .inl mo_isKept)), (mo_keptA, .inl (κ 0, 34, .inl w_mo_kept)), (mo_seedsA, .inl (κ 0, 2, .inl mo_seeds))]) H → va_D A ([(moo, .inr (9, [.ref mo_toldA, .ref mo_stA, .int mo_isThere, .int mo_seed, .ref mo_textA, .int mo_typed, .int mo_faultAt, .int mo_place, .int mo_wrong, .int mo_value, .ref mo_readA, .ref mo_aheadA, .int mo_undoMany, .ref mo_asideA, .ref mo_weighingsA, .int mo_weighed, .ref mo_bookA, .int mo_entries, .ref mo_isKeptA, .ref mo_keptA, .ref mo_seedsA])), (mo_toldA, .inl (κ 0, 37, .inl mo_told)), (mo_stA, .inl (κ 0, 17, .inl mo_st)), (mo_textA, .inl (κ 0, 240, .inl mo_text)), (mo_readA, .inl (κ 0, 37, .inl mo_read)), (mo_aheadA, .inl (κ 0, 340, .inl mo_ahead)), (mo_asideA, .inl (κ 0, 17, .inl mo_aside)), (mo_weighingsA, .inl (κ 0, 12, .inl mo_weighings)), (mo_bookA, .inl (κ 0, 30, .inl mo_book)), (mo_isKeptA, .inl (κ 1, 2, .inl mo_isKept)), (mo_keptA, .inl (κ 0, 34, .inl w_mo_kept)), (mo_seedsA, .inl (κ 0, 2, .inl mo_seeds))]) → va_S A s.heap H locs → lv_has ls 3 [(0, .ref moo), (1, .int x1), (2, .int v2)] → pX9_keep_L15 x1 mo_st mo_seed mo_isKept mo_seeds n15 v2 w_mo_kept = some (r0, z_mo_undoMany, z_mo_isKept, z_mo_kept, z_mo_seeds) → W p l e { frames := 1, cells := 0, slots := 0, locals := 100 } s m args below meth c H locs 0 0 Q (F0 m 15 ls []) := by
    intro n15
    induction n15 with
    | zero =>
      intro v2 w_mo_kept H locs ls hP hD hS hl hres
      exact absurd (show none = some _ from hres) (by simp)
    | succ n15 ih15 =>
      intro v2 w_mo_kept H locs ls hP hD hS hl hres
      rw [pX9_keep_L15] at hres
      refine lv_iload_n hx hb dX9_keep_15 rfl (lv_at hl 2 rfl) ?_
      refine lv_bipush (v := 17) hx hb dX9_keep_16 (by decide) ?_
      refine lv_icmp_ge (tgt := 44) hx hb dX9_keep_18 (by decide) (fun c4 => ?_) (fun c4 => ?_)
      · replace hres := og_t c4 hres
        refine lv_aload_n hx hb dX9_keep_44 rfl (lv_at hl 0 rfl) ?_
        refine va_get (D := D) (ci := 9) (v := .ref mo_seedsA) (C := RX9) (T := TX9) (N := 21) hx hb hts iw9 hown hK.1 hP 0 rfl rfl 20 (by decide) k1 (fun _ h9 => h9) rfl dX9_keep_45 ?_
        refine lv_iload_n hx hb dX9_keep_48 rfl (lv_at hl 1 rfl) ?_
        refine lv_aload_n hx hb dX9_keep_49 rfl (lv_at hl 0 rfl) ?_
        refine va_get (D := D) (ci := 9) (v := .int mo_seed) (C := RX9) (T := TX9) (N := 21) hx hb hts iw9 hown hK.1 hP 0 rfl rfl 3 (by decide) k2 (fun _ h9 => h9) rfl dX9_keep_50 ?_
        obtain ⟨g5, hres⟩ := og_no hres
        refine kr_iast (f := mo_seeds) (j := x1.toNatClampNeg) (x := mo_seed) hx hb hK hP hD hS 11 rfl g5 rfl dX9_keep_53 (fun H locs hP hD hS => ?_)
        have hP : va_P D vwCl ([(moo, .inr (9, [.ref mo_toldA, .ref mo_stA, .int mo_isThere, .int mo_seed, .ref mo_textA, .int mo_typed, .int mo_faultAt, .int mo_place, .int mo_wrong, .int mo_value, .ref mo_readA, .ref mo_aheadA, .int mo_undoMany, .ref mo_asideA, .ref mo_weighingsA, .int mo_weighed, .ref mo_bookA, .int mo_entries, .ref mo_isKeptA, .ref mo_keptA, .ref mo_seedsA])), (mo_toldA, .inl (κ 0, 37, .inl mo_told)), (mo_stA, .inl (κ 0, 17, .inl mo_st)), (mo_textA, .inl (κ 0, 240, .inl mo_text)), (mo_readA, .inl (κ 0, 37, .inl mo_read)), (mo_aheadA, .inl (κ 0, 340, .inl mo_ahead)), (mo_asideA, .inl (κ 0, 17, .inl mo_aside)), (mo_weighingsA, .inl (κ 0, 12, .inl mo_weighings)), (mo_bookA, .inl (κ 0, 30, .inl mo_book)), (mo_isKeptA, .inl (κ 1, 2, .inl mo_isKept)), (mo_keptA, .inl (κ 0, 34, .inl w_mo_kept)), (mo_seedsA, .inl (κ 0, 2, .inl (upd mo_seeds x1.toNatClampNeg mo_seed)))]) H := hP
        have hD : va_D A ([(moo, .inr (9, [.ref mo_toldA, .ref mo_stA, .int mo_isThere, .int mo_seed, .ref mo_textA, .int mo_typed, .int mo_faultAt, .int mo_place, .int mo_wrong, .int mo_value, .ref mo_readA, .ref mo_aheadA, .int mo_undoMany, .ref mo_asideA, .ref mo_weighingsA, .int mo_weighed, .ref mo_bookA, .int mo_entries, .ref mo_isKeptA, .ref mo_keptA, .ref mo_seedsA])), (mo_toldA, .inl (κ 0, 37, .inl mo_told)), (mo_stA, .inl (κ 0, 17, .inl mo_st)), (mo_textA, .inl (κ 0, 240, .inl mo_text)), (mo_readA, .inl (κ 0, 37, .inl mo_read)), (mo_aheadA, .inl (κ 0, 340, .inl mo_ahead)), (mo_asideA, .inl (κ 0, 17, .inl mo_aside)), (mo_weighingsA, .inl (κ 0, 12, .inl mo_weighings)), (mo_bookA, .inl (κ 0, 30, .inl mo_book)), (mo_isKeptA, .inl (κ 1, 2, .inl mo_isKept)), (mo_keptA, .inl (κ 0, 34, .inl w_mo_kept)), (mo_seedsA, .inl (κ 0, 2, .inl (upd mo_seeds x1.toNatClampNeg mo_seed)))]) := hD
        refine lv_aload_n hx hb dX9_keep_54 rfl (lv_at hl 0 rfl) ?_
        refine va_get (D := D) (ci := 9) (v := .ref mo_isKeptA) (C := RX9) (T := TX9) (N := 21) hx hb hts iw9 hown hK.1 hP 0 rfl rfl 18 (by decide) k3 (fun _ h9 => h9) rfl dX9_keep_55 ?_
        refine lv_iload_n hx hb dX9_keep_58 rfl (lv_at hl 1 rfl) ?_
        refine lv_iconst (v := 1) hx hb dX9_keep_59 (by decide) ?_
        refine kr_zast (f := mo_isKept) (j := x1.toNatClampNeg) (x := 1) hx hb hK hP hD hS 9 rfl g5 rfl (by decide) dX9_keep_60 (fun H locs hP hD hS => ?_)
        have hP : va_P D vwCl ([(moo, .inr (9, [.ref mo_toldA, .ref mo_stA, .int mo_isThere, .int mo_seed, .ref mo_textA, .int mo_typed, .int mo_faultAt, .int mo_place, .int mo_wrong, .int mo_value, .ref mo_readA, .ref mo_aheadA, .int mo_undoMany, .ref mo_asideA, .ref mo_weighingsA, .int mo_weighed, .ref mo_bookA, .int mo_entries, .ref mo_isKeptA, .ref mo_keptA, .ref mo_seedsA])), (mo_toldA, .inl (κ 0, 37, .inl mo_told)), (mo_stA, .inl (κ 0, 17, .inl mo_st)), (mo_textA, .inl (κ 0, 240, .inl mo_text)), (mo_readA, .inl (κ 0, 37, .inl mo_read)), (mo_aheadA, .inl (κ 0, 340, .inl mo_ahead)), (mo_asideA, .inl (κ 0, 17, .inl mo_aside)), (mo_weighingsA, .inl (κ 0, 12, .inl mo_weighings)), (mo_bookA, .inl (κ 0, 30, .inl mo_book)), (mo_isKeptA, .inl (κ 1, 2, .inl (upd mo_isKept x1.toNatClampNeg 1))), (mo_keptA, .inl (κ 0, 34, .inl w_mo_kept)), (mo_seedsA, .inl (κ 0, 2, .inl (upd mo_seeds x1.toNatClampNeg mo_seed)))]) H := hP
        have hD : va_D A ([(moo, .inr (9, [.ref mo_toldA, .ref mo_stA, .int mo_isThere, .int mo_seed, .ref mo_textA, .int mo_typed, .int mo_faultAt, .int mo_place, .int mo_wrong, .int mo_value, .ref mo_readA, .ref mo_aheadA, .int mo_undoMany, .ref mo_asideA, .ref mo_weighingsA, .int mo_weighed, .ref mo_bookA, .int mo_entries, .ref mo_isKeptA, .ref mo_keptA, .ref mo_seedsA])), (mo_toldA, .inl (κ 0, 37, .inl mo_told)), (mo_stA, .inl (κ 0, 17, .inl mo_st)), (mo_textA, .inl (κ 0, 240, .inl mo_text)), (mo_readA, .inl (κ 0, 37, .inl mo_read)), (mo_aheadA, .inl (κ 0, 340, .inl mo_ahead)), (mo_asideA, .inl (κ 0, 17, .inl mo_aside)), (mo_weighingsA, .inl (κ 0, 12, .inl mo_weighings)), (mo_bookA, .inl (κ 0, 30, .inl mo_book)), (mo_isKeptA, .inl (κ 1, 2, .inl (upd mo_isKept x1.toNatClampNeg 1))), (mo_keptA, .inl (κ 0, 34, .inl w_mo_kept)), (mo_seedsA, .inl (κ 0, 2, .inl (upd mo_seeds x1.toNatClampNeg mo_seed)))]) := hD
        refine lv_aload_n hx hb dX9_keep_61 rfl (lv_at hl 0 rfl) ?_
        refine lv_iconst (v := 0) hx hb dX9_keep_62 (by decide) ?_
        refine va_put (D := D) (ci := 9) (v := .int 0) (ty := .int) (C := RX9) (T := TX9) (N := 21) hx hb hts iw9 tyX9 tyX9_ok nmX9 hown hK.1 hP hD hS 0 rfl rfl 12 (by decide) k4 (fun _ h9 => h9) rfl (tyX9_ok 12 (by decide)) rfl rfl (Nat.le_of_ble_eq_true rfl) dX9_keep_63 (fun H locs hP hD hS => ?_)
        have hP : va_P D vwCl ([(moo, .inr (9, [.ref mo_toldA, .ref mo_stA, .int mo_isThere, .int mo_seed, .ref mo_textA, .int mo_typed, .int mo_faultAt, .int mo_place, .int mo_wrong, .int mo_value, .ref mo_readA, .ref mo_aheadA, .int 0, .ref mo_asideA, .ref mo_weighingsA, .int mo_weighed, .ref mo_bookA, .int mo_entries, .ref mo_isKeptA, .ref mo_keptA, .ref mo_seedsA])), (mo_toldA, .inl (κ 0, 37, .inl mo_told)), (mo_stA, .inl (κ 0, 17, .inl mo_st)), (mo_textA, .inl (κ 0, 240, .inl mo_text)), (mo_readA, .inl (κ 0, 37, .inl mo_read)), (mo_aheadA, .inl (κ 0, 340, .inl mo_ahead)), (mo_asideA, .inl (κ 0, 17, .inl mo_aside)), (mo_weighingsA, .inl (κ 0, 12, .inl mo_weighings)), (mo_bookA, .inl (κ 0, 30, .inl mo_book)), (mo_isKeptA, .inl (κ 1, 2, .inl (upd mo_isKept x1.toNatClampNeg 1))), (mo_keptA, .inl (κ 0, 34, .inl w_mo_kept)), (mo_seedsA, .inl (κ 0, 2, .inl (upd mo_seeds x1.toNatClampNeg mo_seed)))]) H := hP
        have hD : va_D A ([(moo, .inr (9, [.ref mo_toldA, .ref mo_stA, .int mo_isThere, .int mo_seed, .ref mo_textA, .int mo_typed, .int mo_faultAt, .int mo_place, .int mo_wrong, .int mo_value, .ref mo_readA, .ref mo_aheadA, .int 0, .ref mo_asideA, .ref mo_weighingsA, .int mo_weighed, .ref mo_bookA, .int mo_entries, .ref mo_isKeptA, .ref mo_keptA, .ref mo_seedsA])), (mo_toldA, .inl (κ 0, 37, .inl mo_told)), (mo_stA, .inl (κ 0, 17, .inl mo_st)), (mo_textA, .inl (κ 0, 240, .inl mo_text)), (mo_readA, .inl (κ 0, 37, .inl mo_read)), (mo_aheadA, .inl (κ 0, 340, .inl mo_ahead)), (mo_asideA, .inl (κ 0, 17, .inl mo_aside)), (mo_weighingsA, .inl (κ 0, 12, .inl mo_weighings)), (mo_bookA, .inl (κ 0, 30, .inl mo_book)), (mo_isKeptA, .inl (κ 1, 2, .inl (upd mo_isKept x1.toNatClampNeg 1))), (mo_keptA, .inl (κ 0, 34, .inl w_mo_kept)), (mo_seedsA, .inl (κ 0, 2, .inl (upd mo_seeds x1.toNatClampNeg mo_seed)))]) := hD
        refine lv_iconst (v := 1) hx hb dX9_keep_66 (by decide) ?_
        have hres := Option.some.inj hres
        have h0 := (Prod.mk.inj hres).1
        replace hres := (Prod.mk.inj hres).2
        have h1 := (Prod.mk.inj hres).1
        replace hres := (Prod.mk.inj hres).2
        have h2 := (Prod.mk.inj hres).1
        replace hres := (Prod.mk.inj hres).2
        have h3 := (Prod.mk.inj hres).1
        replace hres := (Prod.mk.inj hres).2
        have h4 := hres
        subst h0
        subst h1
        subst h2
        subst h3
        subst h4
        exact hret _ _ _ _ (vp_nar_int _) hP hD hS dX9_keep_67
      · replace hres := og_f c4 hres
        refine lv_aload_n hx hb dX9_keep_21 rfl (lv_at hl 0 rfl) ?_
        refine va_get (D := D) (ci := 9) (v := .ref mo_keptA) (C := RX9) (T := TX9) (N := 21) hx hb hts iw9 hown hK.1 hP 0 rfl rfl 19 (by decide) k5 (fun _ h9 => h9) rfl dX9_keep_22 ?_
        refine lv_bipush (v := 17) hx hb dX9_keep_25 (by decide) ?_
        refine lv_iload_n hx hb dX9_keep_27 rfl (lv_at hl 1 rfl) ?_
        refine lv_imul hx hb dX9_keep_28 ?_
        refine lv_iload_n hx hb dX9_keep_29 rfl (lv_at hl 2 rfl) ?_
        refine lv_iadd hx hb dX9_keep_30 ?_
        refine lv_aload_n hx hb dX9_keep_31 rfl (lv_at hl 0 rfl) ?_
        refine va_get (D := D) (ci := 9) (v := .ref mo_stA) (C := RX9) (T := TX9) (N := 21) hx hb hts iw9 hown hK.1 hP 0 rfl rfl 1 (by decide) k6 (fun _ h9 => h9) rfl dX9_keep_32 ?_
        refine lv_iload_n hx hb dX9_keep_35 rfl (lv_at hl 2 rfl) ?_
        obtain ⟨g6, hres⟩ := og_no hres
        refine kr_iald (f := mo_st) (j := v2.toNatClampNeg) hx hb hK hP 2 rfl g6 rfl dX9_keep_36 ?_
        obtain ⟨g7, hres⟩ := og_no hres
        refine kr_iast (f := w_mo_kept) (j := ((17 * x1) + v2).toNatClampNeg) (x := (mo_st v2.toNatClampNeg)) hx hb hK hP hD hS 10 rfl g7 rfl dX9_keep_37 (fun H locs hP hD hS => ?_)
        have hP : va_P D vwCl ([(moo, .inr (9, [.ref mo_toldA, .ref mo_stA, .int mo_isThere, .int mo_seed, .ref mo_textA, .int mo_typed, .int mo_faultAt, .int mo_place, .int mo_wrong, .int mo_value, .ref mo_readA, .ref mo_aheadA, .int mo_undoMany, .ref mo_asideA, .ref mo_weighingsA, .int mo_weighed, .ref mo_bookA, .int mo_entries, .ref mo_isKeptA, .ref mo_keptA, .ref mo_seedsA])), (mo_toldA, .inl (κ 0, 37, .inl mo_told)), (mo_stA, .inl (κ 0, 17, .inl mo_st)), (mo_textA, .inl (κ 0, 240, .inl mo_text)), (mo_readA, .inl (κ 0, 37, .inl mo_read)), (mo_aheadA, .inl (κ 0, 340, .inl mo_ahead)), (mo_asideA, .inl (κ 0, 17, .inl mo_aside)), (mo_weighingsA, .inl (κ 0, 12, .inl mo_weighings)), (mo_bookA, .inl (κ 0, 30, .inl mo_book)), (mo_isKeptA, .inl (κ 1, 2, .inl mo_isKept)), (mo_keptA, .inl (κ 0, 34, .inl (upd w_mo_kept (((17 * x1) + v2).toNatClampNeg) (mo_st v2.toNatClampNeg)))), (mo_seedsA, .inl (κ 0, 2, .inl mo_seeds))]) H := hP
        have hD : va_D A ([(moo, .inr (9, [.ref mo_toldA, .ref mo_stA, .int mo_isThere, .int mo_seed, .ref mo_textA, .int mo_typed, .int mo_faultAt, .int mo_place, .int mo_wrong, .int mo_value, .ref mo_readA, .ref mo_aheadA, .int mo_undoMany, .ref mo_asideA, .ref mo_weighingsA, .int mo_weighed, .ref mo_bookA, .int mo_entries, .ref mo_isKeptA, .ref mo_keptA, .ref mo_seedsA])), (mo_toldA, .inl (κ 0, 37, .inl mo_told)), (mo_stA, .inl (κ 0, 17, .inl mo_st)), (mo_textA, .inl (κ 0, 240, .inl mo_text)), (mo_readA, .inl (κ 0, 37, .inl mo_read)), (mo_aheadA, .inl (κ 0, 340, .inl mo_ahead)), (mo_asideA, .inl (κ 0, 17, .inl mo_aside)), (mo_weighingsA, .inl (κ 0, 12, .inl mo_weighings)), (mo_bookA, .inl (κ 0, 30, .inl mo_book)), (mo_isKeptA, .inl (κ 1, 2, .inl mo_isKept)), (mo_keptA, .inl (κ 0, 34, .inl (upd w_mo_kept (((17 * x1) + v2).toNatClampNeg) (mo_st v2.toNatClampNeg)))), (mo_seedsA, .inl (κ 0, 2, .inl mo_seeds))]) := hD
        refine lv_iinc (v := (v2 + 1)) (lv' := [(2, .int (v2 + 1)), (0, .ref moo), (1, .int x1)]) hx hb dX9_keep_38 hl (k := 2) rfl rfl (by decide) rfl (fun ls hl => ?_)
        refine lv_goto (tgt := 15) hx hb dX9_keep_41 (by decide) ?_
        exact ih15 (v2 + 1) (upd w_mo_kept (((17 * x1) + v2).toNatClampNeg) (mo_st v2.toNatClampNeg)) _ _ _ hP hD hS (lv_sub hl [1, 2, 0] rfl) hres
  unfold pX9_keep at hres
  refine lv_iload_n hx hb dX9_keep_0 rfl (lv_at hl 1 rfl) ?_
  refine lv_i2l (v := x1.toInt64) hx hb dX9_keep_1 rfl ?_
  refine lv_lconst (v := 0) hx hb dX9_keep_2 (by decide) ?_
  refine lv_lconst (v := 1) hx hb dX9_keep_3 (by decide) ?_
  obtain ⟨r1, hc2, hres⟩ := kb1_s hres
  refine krI_S0 (As := [.long (x1.toInt64), .long 0, .long 1]) (rest := []) ⟨hx, hb, hml, hown, hts⟩ hK (tX9_in l D κ (x1.toInt64) 0 1 r1 hc2) (va_cwS 3 hts gX9_keep_X9_in rfl rfl rfl (by decide +kernel) ⟨(Nat.le_of_ble_eq_true rfl), (Nat.le_of_ble_eq_true rfl)⟩) hP hD hS hA rfl hl.1 rfl (Nat.le_of_ble_eq_true rfl) dX9_keep_4 ⟨Nat.zero_le _, Nat.zero_le _⟩ (fun H locs hP hD hS => ?_)
  refine lv_if_ne (tgt := 13) hx hb dX9_keep_7 (by decide) (fun c3 => ?_) (fun c3 => ?_)
  · replace hres := og_f c3 hres
    refine lv_iconst (v := 0) hx hb dX9_keep_13 (by decide) ?_
    refine lv_istore_n (lv' := [(2, .int 0), (0, .ref moo), (1, .int x1)]) hx hb dX9_keep_14 rfl hl (by decide) rfl (fun ls hl => ?_)
    exact L15 N 0 mo_kept _ _ _ hP hD hS (lv_sub hl [1, 2, 0] rfl) hres
  · replace hres := og_t c3 hres
    refine lv_ldc (v := (-1000000001)) hx hb hown k0 dX9_keep_10 ?_
    have hres := Option.some.inj hres
    have h0 := (Prod.mk.inj hres).1
    replace hres := (Prod.mk.inj hres).2
    have h1 := (Prod.mk.inj hres).1
    replace hres := (Prod.mk.inj hres).2
    have h2 := (Prod.mk.inj hres).1
    replace hres := (Prod.mk.inj hres).2
    have h3 := (Prod.mk.inj hres).1
    replace hres := (Prod.mk.inj hres).2
    have h4 := hres
    subst h0
    subst h1
    subst h2
    subst h3
    subst h4
    exact hret _ _ _ _ (vp_nar_int _) hP hD hS dX9_keep_12

def pX9_goBack_L27 (x1 : Int32) (mo_kept : Nat → Int32) (mo_seeds : Nat → Int32) : Nat → Int32 → (Nat → Int32) → Option (Int32 × (Nat → Int32) × Int32 × Int32)
  | 0, _, _ => none
  | n27 + 1, v2, w_mo_st =>
    (if 17 ≤ v2 then
    if x1 < 0 ∨ 2 ≤ x1.toNatClampNeg then none else
    some (1, w_mo_st, (mo_seeds x1.toNatClampNeg), 0)
    else
    if ((17 * x1) + v2) < 0 ∨ 34 ≤ ((17 * x1) + v2).toNatClampNeg then none else
    kl (mo_kept (((17 * x1) + v2).toNatClampNeg)) fun y9 =>
    if v2 < 0 ∨ 17 ≤ v2.toNatClampNeg then none else
    pX9_goBack_L27 x1 mo_kept mo_seeds n27 (v2 + 1) (upd w_mo_st v2.toNatClampNeg y9))
def pX9_goBack (N : Nat) (x1 : Int32) (mo_st : Nat → Int32) (mo_seed : Int32) (mo_undoMany : Int32) (mo_isKept : Nat → Int32) (mo_kept : Nat → Int32) (mo_seeds : Nat → Int32) : Option (Int32 × (Nat → Int32) × Int32 × Int32) :=
    kb1 (pX9_in (x1.toInt64) 0 1) fun r1 =>
    (if r1 = 0 then
    some ((-1000000001), mo_st, mo_seed, mo_undoMany)
    else
    if x1 < 0 ∨ 2 ≤ x1.toNatClampNeg then none else
    (if (mo_isKept x1.toNatClampNeg) = 0 then
    some ((-1000000003), mo_st, mo_seed, mo_undoMany)
    else
    pX9_goBack_L27 x1 mo_kept mo_seeds N 0 mo_st))
set_option maxHeartbeats 8000000 in
set_option maxRecDepth 100000 in
theorem tX9_goBack (l : Launch) (D : va_G) (κ : Nat → ClassId) (moo : Nat) (mo_toldA : Nat) (mo_stA : Nat) (mo_textA : Nat) (mo_readA : Nat) (mo_aheadA : Nat) (mo_asideA : Nat) (mo_weighingsA : Nat) (mo_bookA : Nat) (mo_isKeptA : Nat) (mo_keptA : Nat) (mo_seedsA : Nat) (N : Nat) (mo_told : Nat → Int32) (mo_st : Nat → Int32) (mo_isThere : Int32) (mo_seed : Int32) (mo_text : Nat → Int32) (mo_typed : Int32) (mo_faultAt : Int32) (mo_place : Int32) (mo_wrong : Int32) (mo_value : Int32) (mo_read : Nat → Int32) (mo_ahead : Nat → Int32) (mo_undoMany : Int32) (mo_aside : Nat → Int32) (mo_weighings : Nat → Int32) (mo_weighed : Int32) (mo_book : Nat → Int32) (mo_entries : Int32) (mo_isKept : Nat → Int32) (mo_kept : Nat → Int32) (mo_seeds : Nat → Int32) (x1 : Int32) (r0 : Int32) (z_mo_st : Nat → Int32) (z_mo_seed : Int32) (z_mo_undoMany : Int32) (hres : pX9_goBack N x1 mo_st mo_seed mo_undoMany mo_isKept mo_kept mo_seeds = some (r0, z_mo_st, z_mo_seed, z_mo_undoMany)) : krI l yX9_goBack wsX9_goBack { frames := 1, cells := 0, slots := 0, locals := 100 } D κ [.ref moo, .int x1] ([(moo, .inr (9, [.ref mo_toldA, .ref mo_stA, .int mo_isThere, .int mo_seed, .ref mo_textA, .int mo_typed, .int mo_faultAt, .int mo_place, .int mo_wrong, .int mo_value, .ref mo_readA, .ref mo_aheadA, .int mo_undoMany, .ref mo_asideA, .ref mo_weighingsA, .int mo_weighed, .ref mo_bookA, .int mo_entries, .ref mo_isKeptA, .ref mo_keptA, .ref mo_seedsA])), (mo_toldA, .inl (κ 0, 37, .inl mo_told)), (mo_stA, .inl (κ 0, 17, .inl mo_st)), (mo_textA, .inl (κ 0, 240, .inl mo_text)), (mo_readA, .inl (κ 0, 37, .inl mo_read)), (mo_aheadA, .inl (κ 0, 340, .inl mo_ahead)), (mo_asideA, .inl (κ 0, 17, .inl mo_aside)), (mo_weighingsA, .inl (κ 0, 12, .inl mo_weighings)), (mo_bookA, .inl (κ 0, 30, .inl mo_book)), (mo_isKeptA, .inl (κ 1, 2, .inl mo_isKept)), (mo_keptA, .inl (κ 0, 34, .inl mo_kept)), (mo_seedsA, .inl (κ 0, 2, .inl mo_seeds))]) ([(moo, .inr (9, [.ref mo_toldA, .ref mo_stA, .int mo_isThere, .int z_mo_seed, .ref mo_textA, .int mo_typed, .int mo_faultAt, .int mo_place, .int mo_wrong, .int mo_value, .ref mo_readA, .ref mo_aheadA, .int z_mo_undoMany, .ref mo_asideA, .ref mo_weighingsA, .int mo_weighed, .ref mo_bookA, .int mo_entries, .ref mo_isKeptA, .ref mo_keptA, .ref mo_seedsA])), (mo_toldA, .inl (κ 0, 37, .inl mo_told)), (mo_stA, .inl (κ 0, 17, .inl z_mo_st)), (mo_textA, .inl (κ 0, 240, .inl mo_text)), (mo_readA, .inl (κ 0, 37, .inl mo_read)), (mo_aheadA, .inl (κ 0, 340, .inl mo_ahead)), (mo_asideA, .inl (κ 0, 17, .inl mo_aside)), (mo_weighingsA, .inl (κ 0, 12, .inl mo_weighings)), (mo_bookA, .inl (κ 0, 30, .inl mo_book)), (mo_isKeptA, .inl (κ 1, 2, .inl mo_isKept)), (mo_keptA, .inl (κ 0, 34, .inl mo_kept)), (mo_seedsA, .inl (κ 0, 2, .inl mo_seeds))]) r0 := by
  refine krI_of (cc := cX9_goBack) (maxL := 3) (rt := .int) (by decide) rfl (Nat.le_of_ble_eq_true rfl) ?_
  intro p e s m args below meth c A Q ls hx hb hml hown hts hK hA hret hP hD hS hl
  have hown : s.vm.findClass RX9 = some m.cls := hown
  have hl : lv_has ls 3 [(0, .ref moo), (1, .int x1)] := hl
  have iw9 : ∀ w ∈ u_ws RX9 TX9 21, w ∈ wsX9_goBack := (fun _ h => List.mem_cons_of_mem _ (List.mem_append_right _ h))
  have k0 : (Cond.fieldLink RX9 38 "KingRansomModel" "isKept" "[Z").before args s = true := hts _ (List.mem_of_getElem? (i := 2) rfl)
  have k1 : (Cond.constant RX9 147 (-1000000003)).before args s = true := hts _ (List.mem_of_getElem? (i := 3) rfl)
  have k2 : (Cond.constant RX9 126 (-1000000001)).before args s = true := hts _ (List.mem_of_getElem? (i := 1) rfl)
  have k3 : (Cond.fieldLink RX9 45 "KingRansomModel" "seeds" "[I").before args s = true := hts _ (List.mem_of_getElem? (i := 6) rfl)
  have k4 : (Cond.fieldLink RX9 159 "KingRansomModel" "seed" "I").before args s = true := hts _ (List.mem_of_getElem? (i := 7) rfl)
  have k5 : (Cond.fieldLink RX9 110 "KingRansomModel" "undoMany" "I").before args s = true := hts _ (List.mem_of_getElem? (i := 8) rfl)
  have k6 : (Cond.fieldLink RX9 13 "KingRansomModel" "st" "[I").before args s = true := hts _ (List.mem_of_getElem? (i := 4) rfl)
  have k7 : (Cond.fieldLink RX9 42 "KingRansomModel" "kept" "[I").before args s = true := hts _ (List.mem_of_getElem? (i := 5) rfl)
  have L27 : ∀ (n27 : Nat) (v2 : Int32) (w_mo_st : Nat → Int32) (H : Heap) (locs : List Loc) (ls : Array Slot), va_P D vwCl ([(moo, .inr (9, [.ref mo_toldA, .ref mo_stA, .int mo_isThere, .int mo_seed, .ref mo_textA, .int mo_typed, .int mo_faultAt, .int mo_place, .int mo_wrong, .int mo_value, .ref mo_readA, .ref mo_aheadA, .int mo_undoMany, .ref mo_asideA, .ref mo_weighingsA, .int mo_weighed, .ref mo_bookA, .int mo_entries, .ref mo_isKeptA, .ref mo_keptA, .ref mo_seedsA])), (mo_toldA, .inl (κ 0, 37, .inl mo_told)), (mo_stA, .inl (κ 0, 17, .inl w_mo_st)), (mo_textA, .inl (κ 0, 240, .inl mo_text)), (mo_readA, .inl (κ 0, 37, .inl mo_read)), (mo_aheadA, .inl (κ 0, 340, .inl mo_ahead)), (mo_asideA, .inl (κ 0, 17, .inl mo_aside)), (mo_weighingsA, .inl (κ 0, 12, .inl mo_weighings)), (mo_bookA, .inl (κ 0, 30, .inl mo_book)), (mo_isKeptA, .inl (κ 1, 2, .inl mo_isKept)), (mo_keptA, .inl (κ 0, 34, .inl mo_kept)), (mo_seedsA, .inl (κ 0, 2, .inl mo_seeds))]) H → va_D A ([(moo, .inr (9, [.ref mo_toldA, .ref mo_stA, .int mo_isThere, .int mo_seed, .ref mo_textA, .int mo_typed, .int mo_faultAt, .int mo_place, .int mo_wrong, .int mo_value, .ref mo_readA, .ref mo_aheadA, .int mo_undoMany, .ref mo_asideA, .ref mo_weighingsA, .int mo_weighed, .ref mo_bookA, .int mo_entries, .ref mo_isKeptA, .ref mo_keptA, .ref mo_seedsA])), (mo_toldA, .inl (κ 0, 37, .inl mo_told)), (mo_stA, .inl (κ 0, 17, .inl w_mo_st)), (mo_textA, .inl (κ 0, 240, .inl mo_text)), (mo_readA, .inl (κ 0, 37, .inl mo_read)), (mo_aheadA, .inl (κ 0, 340, .inl mo_ahead)), (mo_asideA, .inl (κ 0, 17, .inl mo_aside)), (mo_weighingsA, .inl (κ 0, 12, .inl mo_weighings)), (mo_bookA, .inl (κ 0, 30, .inl mo_book)), (mo_isKeptA, .inl (κ 1, 2, .inl mo_isKept)), (mo_keptA, .inl (κ 0, 34, .inl mo_kept)), (mo_seedsA, .inl (κ 0, 2, .inl mo_seeds))]) → va_S A s.heap H locs → lv_has ls 3 [(0, .ref moo), (1, .int x1), (2, .int v2)] → pX9_goBack_L27 x1 mo_kept mo_seeds n27 v2 w_mo_st = some (r0, z_mo_st, z_mo_seed, z_mo_undoMany) → W p l e { frames := 1, cells := 0, slots := 0, locals := 100 } s m args below meth c H locs 0 0 Q (F0 m 27 ls []) := by
    intro n27
    induction n27 with
    | zero =>
      intro v2 w_mo_st H locs ls hP hD hS hl hres
      exact absurd (show none = some _ from hres) (by simp)
    | succ n27 ih27 =>
      intro v2 w_mo_st H locs ls hP hD hS hl hres
      rw [pX9_goBack_L27] at hres
      refine lv_iload_n hx hb dX9_goBack_27 rfl (lv_at hl 2 rfl) ?_
      refine lv_bipush (v := 17) hx hb dX9_goBack_28 (by decide) ?_
      refine lv_icmp_ge (tgt := 56) hx hb dX9_goBack_30 (by decide) (fun c6 => ?_) (fun c6 => ?_)
      · replace hres := og_t c6 hres
        refine lv_aload_n hx hb dX9_goBack_56 rfl (lv_at hl 0 rfl) ?_
        refine lv_aload_n hx hb dX9_goBack_57 rfl (lv_at hl 0 rfl) ?_
        refine va_get (D := D) (ci := 9) (v := .ref mo_seedsA) (C := RX9) (T := TX9) (N := 21) hx hb hts iw9 hown hK.1 hP 0 rfl rfl 20 (by decide) k3 (fun _ h9 => h9) rfl dX9_goBack_58 ?_
        refine lv_iload_n hx hb dX9_goBack_61 rfl (lv_at hl 1 rfl) ?_
        obtain ⟨g7, hres⟩ := og_no hres
        refine kr_iald (f := mo_seeds) (j := x1.toNatClampNeg) hx hb hK hP 11 rfl g7 rfl dX9_goBack_62 ?_
        refine va_put (D := D) (ci := 9) (v := .int (mo_seeds x1.toNatClampNeg)) (ty := .int) (C := RX9) (T := TX9) (N := 21) hx hb hts iw9 tyX9 tyX9_ok nmX9 hown hK.1 hP hD hS 0 rfl rfl 3 (by decide) k4 (fun _ h9 => h9) rfl (tyX9_ok 3 (by decide)) rfl rfl (Nat.le_of_ble_eq_true rfl) dX9_goBack_63 (fun H locs hP hD hS => ?_)
        have hP : va_P D vwCl ([(moo, .inr (9, [.ref mo_toldA, .ref mo_stA, .int mo_isThere, .int (mo_seeds x1.toNatClampNeg), .ref mo_textA, .int mo_typed, .int mo_faultAt, .int mo_place, .int mo_wrong, .int mo_value, .ref mo_readA, .ref mo_aheadA, .int mo_undoMany, .ref mo_asideA, .ref mo_weighingsA, .int mo_weighed, .ref mo_bookA, .int mo_entries, .ref mo_isKeptA, .ref mo_keptA, .ref mo_seedsA])), (mo_toldA, .inl (κ 0, 37, .inl mo_told)), (mo_stA, .inl (κ 0, 17, .inl w_mo_st)), (mo_textA, .inl (κ 0, 240, .inl mo_text)), (mo_readA, .inl (κ 0, 37, .inl mo_read)), (mo_aheadA, .inl (κ 0, 340, .inl mo_ahead)), (mo_asideA, .inl (κ 0, 17, .inl mo_aside)), (mo_weighingsA, .inl (κ 0, 12, .inl mo_weighings)), (mo_bookA, .inl (κ 0, 30, .inl mo_book)), (mo_isKeptA, .inl (κ 1, 2, .inl mo_isKept)), (mo_keptA, .inl (κ 0, 34, .inl mo_kept)), (mo_seedsA, .inl (κ 0, 2, .inl mo_seeds))]) H := hP
        have hD : va_D A ([(moo, .inr (9, [.ref mo_toldA, .ref mo_stA, .int mo_isThere, .int (mo_seeds x1.toNatClampNeg), .ref mo_textA, .int mo_typed, .int mo_faultAt, .int mo_place, .int mo_wrong, .int mo_value, .ref mo_readA, .ref mo_aheadA, .int mo_undoMany, .ref mo_asideA, .ref mo_weighingsA, .int mo_weighed, .ref mo_bookA, .int mo_entries, .ref mo_isKeptA, .ref mo_keptA, .ref mo_seedsA])), (mo_toldA, .inl (κ 0, 37, .inl mo_told)), (mo_stA, .inl (κ 0, 17, .inl w_mo_st)), (mo_textA, .inl (κ 0, 240, .inl mo_text)), (mo_readA, .inl (κ 0, 37, .inl mo_read)), (mo_aheadA, .inl (κ 0, 340, .inl mo_ahead)), (mo_asideA, .inl (κ 0, 17, .inl mo_aside)), (mo_weighingsA, .inl (κ 0, 12, .inl mo_weighings)), (mo_bookA, .inl (κ 0, 30, .inl mo_book)), (mo_isKeptA, .inl (κ 1, 2, .inl mo_isKept)), (mo_keptA, .inl (κ 0, 34, .inl mo_kept)), (mo_seedsA, .inl (κ 0, 2, .inl mo_seeds))]) := hD
        refine lv_aload_n hx hb dX9_goBack_66 rfl (lv_at hl 0 rfl) ?_
        refine lv_iconst (v := 0) hx hb dX9_goBack_67 (by decide) ?_
        refine va_put (D := D) (ci := 9) (v := .int 0) (ty := .int) (C := RX9) (T := TX9) (N := 21) hx hb hts iw9 tyX9 tyX9_ok nmX9 hown hK.1 hP hD hS 0 rfl rfl 12 (by decide) k5 (fun _ h9 => h9) rfl (tyX9_ok 12 (by decide)) rfl rfl (Nat.le_of_ble_eq_true rfl) dX9_goBack_68 (fun H locs hP hD hS => ?_)
        have hP : va_P D vwCl ([(moo, .inr (9, [.ref mo_toldA, .ref mo_stA, .int mo_isThere, .int (mo_seeds x1.toNatClampNeg), .ref mo_textA, .int mo_typed, .int mo_faultAt, .int mo_place, .int mo_wrong, .int mo_value, .ref mo_readA, .ref mo_aheadA, .int 0, .ref mo_asideA, .ref mo_weighingsA, .int mo_weighed, .ref mo_bookA, .int mo_entries, .ref mo_isKeptA, .ref mo_keptA, .ref mo_seedsA])), (mo_toldA, .inl (κ 0, 37, .inl mo_told)), (mo_stA, .inl (κ 0, 17, .inl w_mo_st)), (mo_textA, .inl (κ 0, 240, .inl mo_text)), (mo_readA, .inl (κ 0, 37, .inl mo_read)), (mo_aheadA, .inl (κ 0, 340, .inl mo_ahead)), (mo_asideA, .inl (κ 0, 17, .inl mo_aside)), (mo_weighingsA, .inl (κ 0, 12, .inl mo_weighings)), (mo_bookA, .inl (κ 0, 30, .inl mo_book)), (mo_isKeptA, .inl (κ 1, 2, .inl mo_isKept)), (mo_keptA, .inl (κ 0, 34, .inl mo_kept)), (mo_seedsA, .inl (κ 0, 2, .inl mo_seeds))]) H := hP
        have hD : va_D A ([(moo, .inr (9, [.ref mo_toldA, .ref mo_stA, .int mo_isThere, .int (mo_seeds x1.toNatClampNeg), .ref mo_textA, .int mo_typed, .int mo_faultAt, .int mo_place, .int mo_wrong, .int mo_value, .ref mo_readA, .ref mo_aheadA, .int 0, .ref mo_asideA, .ref mo_weighingsA, .int mo_weighed, .ref mo_bookA, .int mo_entries, .ref mo_isKeptA, .ref mo_keptA, .ref mo_seedsA])), (mo_toldA, .inl (κ 0, 37, .inl mo_told)), (mo_stA, .inl (κ 0, 17, .inl w_mo_st)), (mo_textA, .inl (κ 0, 240, .inl mo_text)), (mo_readA, .inl (κ 0, 37, .inl mo_read)), (mo_aheadA, .inl (κ 0, 340, .inl mo_ahead)), (mo_asideA, .inl (κ 0, 17, .inl mo_aside)), (mo_weighingsA, .inl (κ 0, 12, .inl mo_weighings)), (mo_bookA, .inl (κ 0, 30, .inl mo_book)), (mo_isKeptA, .inl (κ 1, 2, .inl mo_isKept)), (mo_keptA, .inl (κ 0, 34, .inl mo_kept)), (mo_seedsA, .inl (κ 0, 2, .inl mo_seeds))]) := hD
        refine lv_iconst (v := 1) hx hb dX9_goBack_71 (by decide) ?_
        have hres := Option.some.inj hres
        have h0 := (Prod.mk.inj hres).1
        replace hres := (Prod.mk.inj hres).2
        have h1 := (Prod.mk.inj hres).1
        replace hres := (Prod.mk.inj hres).2
        have h2 := (Prod.mk.inj hres).1
        replace hres := (Prod.mk.inj hres).2
        have h3 := hres
        subst h0
        subst h1
        subst h2
        subst h3
        exact hret _ _ _ _ (vp_nar_int _) hP hD hS dX9_goBack_72
      · replace hres := og_f c6 hres
        refine lv_aload_n hx hb dX9_goBack_33 rfl (lv_at hl 0 rfl) ?_
        refine va_get (D := D) (ci := 9) (v := .ref mo_stA) (C := RX9) (T := TX9) (N := 21) hx hb hts iw9 hown hK.1 hP 0 rfl rfl 1 (by decide) k6 (fun _ h9 => h9) rfl dX9_goBack_34 ?_
        refine lv_iload_n hx hb dX9_goBack_37 rfl (lv_at hl 2 rfl) ?_
        refine lv_aload_n hx hb dX9_goBack_38 rfl (lv_at hl 0 rfl) ?_
        refine va_get (D := D) (ci := 9) (v := .ref mo_keptA) (C := RX9) (T := TX9) (N := 21) hx hb hts iw9 hown hK.1 hP 0 rfl rfl 19 (by decide) k7 (fun _ h9 => h9) rfl dX9_goBack_39 ?_
        refine lv_bipush (v := 17) hx hb dX9_goBack_42 (by decide) ?_
        refine lv_iload_n hx hb dX9_goBack_44 rfl (lv_at hl 1 rfl) ?_
        refine lv_imul hx hb dX9_goBack_45 ?_
        refine lv_iload_n hx hb dX9_goBack_46 rfl (lv_at hl 2 rfl) ?_
        refine lv_iadd hx hb dX9_goBack_47 ?_
        obtain ⟨g8, hres⟩ := og_no hres
        refine kr_iald (f := mo_kept) (j := ((17 * x1) + v2).toNatClampNeg) hx hb hK hP 10 rfl g8 rfl dX9_goBack_48 ?_
        obtain ⟨y9, ey9, hres⟩ := kl_s hres
        refine kr_tope ey9 ?_
        obtain ⟨g10, hres⟩ := og_no hres
        refine kr_iast (f := w_mo_st) (j := v2.toNatClampNeg) (x := y9) hx hb hK hP hD hS 2 rfl g10 rfl dX9_goBack_49 (fun H locs hP hD hS => ?_)
        have hP : va_P D vwCl ([(moo, .inr (9, [.ref mo_toldA, .ref mo_stA, .int mo_isThere, .int mo_seed, .ref mo_textA, .int mo_typed, .int mo_faultAt, .int mo_place, .int mo_wrong, .int mo_value, .ref mo_readA, .ref mo_aheadA, .int mo_undoMany, .ref mo_asideA, .ref mo_weighingsA, .int mo_weighed, .ref mo_bookA, .int mo_entries, .ref mo_isKeptA, .ref mo_keptA, .ref mo_seedsA])), (mo_toldA, .inl (κ 0, 37, .inl mo_told)), (mo_stA, .inl (κ 0, 17, .inl (upd w_mo_st v2.toNatClampNeg y9))), (mo_textA, .inl (κ 0, 240, .inl mo_text)), (mo_readA, .inl (κ 0, 37, .inl mo_read)), (mo_aheadA, .inl (κ 0, 340, .inl mo_ahead)), (mo_asideA, .inl (κ 0, 17, .inl mo_aside)), (mo_weighingsA, .inl (κ 0, 12, .inl mo_weighings)), (mo_bookA, .inl (κ 0, 30, .inl mo_book)), (mo_isKeptA, .inl (κ 1, 2, .inl mo_isKept)), (mo_keptA, .inl (κ 0, 34, .inl mo_kept)), (mo_seedsA, .inl (κ 0, 2, .inl mo_seeds))]) H := hP
        have hD : va_D A ([(moo, .inr (9, [.ref mo_toldA, .ref mo_stA, .int mo_isThere, .int mo_seed, .ref mo_textA, .int mo_typed, .int mo_faultAt, .int mo_place, .int mo_wrong, .int mo_value, .ref mo_readA, .ref mo_aheadA, .int mo_undoMany, .ref mo_asideA, .ref mo_weighingsA, .int mo_weighed, .ref mo_bookA, .int mo_entries, .ref mo_isKeptA, .ref mo_keptA, .ref mo_seedsA])), (mo_toldA, .inl (κ 0, 37, .inl mo_told)), (mo_stA, .inl (κ 0, 17, .inl (upd w_mo_st v2.toNatClampNeg y9))), (mo_textA, .inl (κ 0, 240, .inl mo_text)), (mo_readA, .inl (κ 0, 37, .inl mo_read)), (mo_aheadA, .inl (κ 0, 340, .inl mo_ahead)), (mo_asideA, .inl (κ 0, 17, .inl mo_aside)), (mo_weighingsA, .inl (κ 0, 12, .inl mo_weighings)), (mo_bookA, .inl (κ 0, 30, .inl mo_book)), (mo_isKeptA, .inl (κ 1, 2, .inl mo_isKept)), (mo_keptA, .inl (κ 0, 34, .inl mo_kept)), (mo_seedsA, .inl (κ 0, 2, .inl mo_seeds))]) := hD
        refine lv_iinc (v := (v2 + 1)) (lv' := [(2, .int (v2 + 1)), (0, .ref moo), (1, .int x1)]) hx hb dX9_goBack_50 hl (k := 2) rfl rfl (by decide) rfl (fun ls hl => ?_)
        refine lv_goto (tgt := 27) hx hb dX9_goBack_53 (by decide) ?_
        exact ih27 (v2 + 1) (upd w_mo_st v2.toNatClampNeg y9) _ _ _ hP hD hS (lv_sub hl [1, 2, 0] rfl) hres
  unfold pX9_goBack at hres
  refine lv_iload_n hx hb dX9_goBack_0 rfl (lv_at hl 1 rfl) ?_
  refine lv_i2l (v := x1.toInt64) hx hb dX9_goBack_1 rfl ?_
  refine lv_lconst (v := 0) hx hb dX9_goBack_2 (by decide) ?_
  refine lv_lconst (v := 1) hx hb dX9_goBack_3 (by decide) ?_
  obtain ⟨r1, hc2, hres⟩ := kb1_s hres
  refine krI_S0 (As := [.long (x1.toInt64), .long 0, .long 1]) (rest := []) ⟨hx, hb, hml, hown, hts⟩ hK (tX9_in l D κ (x1.toInt64) 0 1 r1 hc2) (va_cwS 3 hts gX9_goBack_X9_in rfl rfl rfl (by decide +kernel) ⟨(Nat.le_of_ble_eq_true rfl), (Nat.le_of_ble_eq_true rfl)⟩) hP hD hS hA rfl hl.1 rfl (Nat.le_of_ble_eq_true rfl) dX9_goBack_4 ⟨Nat.zero_le _, Nat.zero_le _⟩ (fun H locs hP hD hS => ?_)
  refine lv_if_ne (tgt := 13) hx hb dX9_goBack_7 (by decide) (fun c3 => ?_) (fun c3 => ?_)
  · replace hres := og_f c3 hres
    refine lv_aload_n hx hb dX9_goBack_13 rfl (lv_at hl 0 rfl) ?_
    refine va_get (D := D) (ci := 9) (v := .ref mo_isKeptA) (C := RX9) (T := TX9) (N := 21) hx hb hts iw9 hown hK.1 hP 0 rfl rfl 18 (by decide) k0 (fun _ h9 => h9) rfl dX9_goBack_14 ?_
    refine lv_iload_n hx hb dX9_goBack_17 rfl (lv_at hl 1 rfl) ?_
    obtain ⟨g4, hres⟩ := og_no hres
    refine kr_zald (f := mo_isKept) (j := x1.toNatClampNeg) hx hb hK hP 9 rfl g4 rfl dX9_goBack_18 ?_
    refine lv_if_ne (tgt := 25) hx hb dX9_goBack_19 (by decide) (fun c5 => ?_) (fun c5 => ?_)
    · replace hres := og_f c5 hres
      refine lv_iconst (v := 0) hx hb dX9_goBack_25 (by decide) ?_
      refine lv_istore_n (lv' := [(2, .int 0), (0, .ref moo), (1, .int x1)]) hx hb dX9_goBack_26 rfl hl (by decide) rfl (fun ls hl => ?_)
      exact L27 N 0 mo_st _ _ _ hP hD hS (lv_sub hl [1, 2, 0] rfl) hres
    · replace hres := og_t c5 hres
      refine lv_ldc (v := (-1000000003)) hx hb hown k1 dX9_goBack_22 ?_
      have hres := Option.some.inj hres
      have h0 := (Prod.mk.inj hres).1
      replace hres := (Prod.mk.inj hres).2
      have h1 := (Prod.mk.inj hres).1
      replace hres := (Prod.mk.inj hres).2
      have h2 := (Prod.mk.inj hres).1
      replace hres := (Prod.mk.inj hres).2
      have h3 := hres
      subst h0
      subst h1
      subst h2
      subst h3
      exact hret _ _ _ _ (vp_nar_int _) hP hD hS dX9_goBack_24
  · replace hres := og_t c3 hres
    refine lv_ldc (v := (-1000000001)) hx hb hown k2 dX9_goBack_10 ?_
    have hres := Option.some.inj hres
    have h0 := (Prod.mk.inj hres).1
    replace hres := (Prod.mk.inj hres).2
    have h1 := (Prod.mk.inj hres).1
    replace hres := (Prod.mk.inj hres).2
    have h2 := (Prod.mk.inj hres).1
    replace hres := (Prod.mk.inj hres).2
    have h3 := hres
    subst h0
    subst h1
    subst h2
    subst h3
    exact hret _ _ _ _ (vp_nar_int _) hP hD hS dX9_goBack_12
