theorem gself_tryFrom : GoodIn wsX4_tryFrom wsX4_tryFrom := goodIn_sub (fun _ h => h) (by decide +kernel)
def pX4_tryFrom_L56 (rec : Int32 → Int32 → Int32 → (Nat → Int32) → (Nat → Int32) → Int32 → Option ((Nat → Int32) × (Nat → Int32) × Int32)) (x1 : Int32) (x2 : Int32) (x3 : Int32) (sp_paid : Nat → Int32) (sp_hidden : Nat → Int32) : Nat → Int32 → (Nat → Int32) → (Nat → Int32) → Int32 → Option ((Nat → Int32) × (Nat → Int32) × Int32)
  | 0, _, _, _, _ => none
  | n56 + 1, v4, w_sp_tried, w_sp_best, w_sp_leastHidden =>
    (if 5 ≤ v4 then
    some (w_sp_tried, w_sp_best, w_sp_leastHidden)
    else
    if x1 < 0 ∨ 6 ≤ x1.toNatClampNeg then none else
    if ((x1 * 5) + v4) < 0 ∨ 30 ≤ ((x1 * 5) + v4).toNatClampNeg then none else
    kb3 (rec (x1 + 1) (x2 + (sp_paid (((x1 * 5) + v4).toNatClampNeg))) (x3 + (sp_hidden (((x1 * 5) + v4).toNatClampNeg))) (upd w_sp_tried x1.toNatClampNeg (v4 * 25)) w_sp_best w_sp_leastHidden) fun w8 w9 w10 =>
    pX4_tryFrom_L56 rec x1 x2 x3 sp_paid sp_hidden n56 (v4 + 1) w8 w9 w10)
def pX4_tryFrom (N : Nat) (sp_paid : Nat → Int32) (sp_hidden : Nat → Int32) (sp_mostFrom : Nat → Int32) (sp_payers : Int32) (sp_much : Int32) : Nat → Int32 → Int32 → Int32 → (Nat → Int32) → (Nat → Int32) → Int32 → Option ((Nat → Int32) × (Nat → Int32) × Int32)
  | 0, _, _, _, _, _, _ => none
  | dd + 1, x1, x2, x3, sp_tried, sp_best, sp_leastHidden =>
    (if sp_leastHidden ≤ x3 then
    some (sp_tried, sp_best, sp_leastHidden)
    else
    if x1 < 0 ∨ 7 ≤ x1.toNatClampNeg then none else
    (if sp_much ≤ (x2 + (sp_mostFrom x1.toNatClampNeg)) then
    (if x1 < sp_payers then
    pX4_tryFrom_L56 (pX4_tryFrom N sp_paid sp_hidden sp_mostFrom sp_payers sp_much dd) x1 x2 x3 sp_paid sp_hidden N 0 sp_tried sp_best sp_leastHidden
    else
    some (sp_tried, (va_cpy sp_tried sp_best 0 0 6), x3))
    else
    some (sp_tried, sp_best, sp_leastHidden)))
set_option maxHeartbeats 8000000 in
set_option maxRecDepth 100000 in
theorem tX4_tryFrom (l : Launch) (D : va_G) (κ : Nat → ClassId) (spo : Nat) (sp_paidA : Nat) (sp_hiddenA : Nat) (sp_mostFromA : Nat) (sp_triedA : Nat) (sp_bestA : Nat) (N : Nat) (sp_paid : Nat → Int32) (sp_hidden : Nat → Int32) (sp_mostFrom : Nat → Int32) (sp_payers : Int32) (sp_much : Int32) : ∀ (dd : Nat) (sp_tried : Nat → Int32) (sp_best : Nat → Int32) (sp_leastHidden : Int32) (x1 : Int32) (x2 : Int32) (x3 : Int32) (z_sp_tried : Nat → Int32) (z_sp_best : Nat → Int32) (z_sp_leastHidden : Int32), pX4_tryFrom N sp_paid sp_hidden sp_mostFrom sp_payers sp_much dd x1 x2 x3 sp_tried sp_best sp_leastHidden = some (z_sp_tried, z_sp_best, z_sp_leastHidden) → krV l yX4_tryFrom wsX4_tryFrom { frames := dd, cells := 0, slots := 0, locals := 100 * dd } D κ [.ref spo, .int x1, .int x2, .int x3] ([(spo, .inr (4, [.ref sp_paidA, .ref sp_hiddenA, .ref sp_mostFromA, .ref sp_triedA, .ref sp_bestA, .int sp_payers, .int sp_much, .int sp_leastHidden])), (sp_paidA, .inl (κ 0, 30, .inl sp_paid)), (sp_hiddenA, .inl (κ 0, 30, .inl sp_hidden)), (sp_mostFromA, .inl (κ 0, 7, .inl sp_mostFrom)), (sp_triedA, .inl (κ 0, 6, .inl sp_tried)), (sp_bestA, .inl (κ 0, 6, .inl sp_best))]) ([(spo, .inr (4, [.ref sp_paidA, .ref sp_hiddenA, .ref sp_mostFromA, .ref sp_triedA, .ref sp_bestA, .int sp_payers, .int sp_much, .int z_sp_leastHidden])), (sp_paidA, .inl (κ 0, 30, .inl sp_paid)), (sp_hiddenA, .inl (κ 0, 30, .inl sp_hidden)), (sp_mostFromA, .inl (κ 0, 7, .inl sp_mostFrom)), (sp_triedA, .inl (κ 0, 6, .inl z_sp_tried)), (sp_bestA, .inl (κ 0, 6, .inl z_sp_best))]) := by
  intro dd
  induction dd with
  | zero =>
    intro sp_tried sp_best sp_leastHidden x1 x2 x3 z_sp_tried z_sp_best z_sp_leastHidden hres
    exact absurd (show none = some _ from hres) (by simp)
  | succ dd ihd =>
    intro sp_tried sp_best sp_leastHidden x1 x2 x3 z_sp_tried z_sp_best z_sp_leastHidden hres
    rw [pX4_tryFrom] at hres
    refine krV_of (cc := cX4_tryFrom) (maxL := 6) (by decide) rfl (Nat.le_of_ble_eq_true rfl) ?_
    intro p e s m args below meth c A Q ls hx hb hml hown hts hK hA hret hP hD hS hl
    have hown : s.vm.findClass RX4 = some m.cls := hown
    have hl : lv_has ls 6 [(0, .ref spo), (1, .int x1), (2, .int x2), (3, .int x3)] := hl
    have iw4 : ∀ w ∈ u_ws RX4 TX4 8, w ∈ wsX4_tryFrom := (fun _ h => List.mem_cons_of_mem _ (List.mem_append_right _ h))
    have k0 : (Cond.fieldLink RX4 38 "KingRansom$Spreading" "leastHidden" "I").before args s = true := hts _ (List.mem_of_getElem? (i := 1) rfl)
    have k1 : (Cond.fieldLink RX4 18 "KingRansom$Spreading" "mostFrom" "[I").before args s = true := hts _ (List.mem_of_getElem? (i := 2) rfl)
    have k2 : (Cond.fieldLink RX4 34 "KingRansom$Spreading" "much" "I").before args s = true := hts _ (List.mem_of_getElem? (i := 3) rfl)
    have k3 : (Cond.fieldLink RX4 33 "KingRansom$Spreading" "payers" "I").before args s = true := hts _ (List.mem_of_getElem? (i := 4) rfl)
    have k4 : (Cond.fieldLink RX4 21 "KingRansom$Spreading" "tried" "[I").before args s = true := hts _ (List.mem_of_getElem? (i := 5) rfl)
    have k5 : (Cond.fieldLink RX4 24 "KingRansom$Spreading" "best" "[I").before args s = true := hts _ (List.mem_of_getElem? (i := 6) rfl)
    have k6 : (Cond.methodLink RX4 69 arraycopyName).before args s = true := hts _ (List.mem_of_getElem? (i := 7) rfl)
    have k7 : (Cond.native arraycopyName).before args s = true := hts _ (List.mem_of_getElem? (i := 8) rfl)
    have k8 : (Cond.static arraycopyName).before args s = true := hts _ (List.mem_of_getElem? (i := 9) rfl)
    have k9 : (Cond.initialized "java/lang/System").before args s = true := hts _ (List.mem_of_getElem? (i := 10) rfl)
    have k10 : (Cond.fieldLink RX4 11 "KingRansom$Spreading" "paid" "[I").before args s = true := hts _ (List.mem_of_getElem? (i := 11) rfl)
    have k11 : (Cond.fieldLink RX4 15 "KingRansom$Spreading" "hidden" "[I").before args s = true := hts _ (List.mem_of_getElem? (i := 12) rfl)
    have k12 : (Cond.initialized RX4).before args s = true := hts _ (List.mem_of_getElem? (i := 16) rfl)
    have k13 : (Cond.methodLink RX4 53 yX4_tryFrom).before args s = true := hts _ (List.mem_of_getElem? (i := 13) rfl)
    have k14 : (Cond.instanceMethod yX4_tryFrom).before args s = true := hts _ (List.mem_of_getElem? (i := 14) rfl)
    have k15 : (Cond.selects RX4 yX4_tryFrom yX4_tryFrom).before args s = true := hts _ (List.mem_of_getElem? (i := 15) rfl)
    have L56 : ∀ (n56 : Nat) (v4 : Int32) (w_sp_tried : Nat → Int32) (w_sp_best : Nat → Int32) (w_sp_leastHidden : Int32) (H : Heap) (locs : List Loc) (ls : Array Slot), va_P D vwCl ([(spo, .inr (4, [.ref sp_paidA, .ref sp_hiddenA, .ref sp_mostFromA, .ref sp_triedA, .ref sp_bestA, .int sp_payers, .int sp_much, .int w_sp_leastHidden])), (sp_paidA, .inl (κ 0, 30, .inl sp_paid)), (sp_hiddenA, .inl (κ 0, 30, .inl sp_hidden)), (sp_mostFromA, .inl (κ 0, 7, .inl sp_mostFrom)), (sp_triedA, .inl (κ 0, 6, .inl w_sp_tried)), (sp_bestA, .inl (κ 0, 6, .inl w_sp_best))]) H → va_D A ([(spo, .inr (4, [.ref sp_paidA, .ref sp_hiddenA, .ref sp_mostFromA, .ref sp_triedA, .ref sp_bestA, .int sp_payers, .int sp_much, .int w_sp_leastHidden])), (sp_paidA, .inl (κ 0, 30, .inl sp_paid)), (sp_hiddenA, .inl (κ 0, 30, .inl sp_hidden)), (sp_mostFromA, .inl (κ 0, 7, .inl sp_mostFrom)), (sp_triedA, .inl (κ 0, 6, .inl w_sp_tried)), (sp_bestA, .inl (κ 0, 6, .inl w_sp_best))]) → va_S A s.heap H locs → lv_has ls 6 [(0, .ref spo), (1, .int x1), (2, .int x2), (3, .int x3), (4, .int v4)] → pX4_tryFrom_L56 (pX4_tryFrom N sp_paid sp_hidden sp_mostFrom sp_payers sp_much dd) x1 x2 x3 sp_paid sp_hidden n56 v4 w_sp_tried w_sp_best w_sp_leastHidden = some (z_sp_tried, z_sp_best, z_sp_leastHidden) → W p l e { frames := dd + 1, cells := 0, slots := 0, locals := 100 * (dd + 1) } s m args below meth c H locs 0 0 Q (F0 m 56 ls []) := by
      intro n56
      induction n56 with
      | zero =>
        intro v4 w_sp_tried w_sp_best w_sp_leastHidden H locs ls hP hD hS hl hres
        exact absurd (show none = some _ from hres) (by simp)
      | succ n56 ih56 =>
        intro v4 w_sp_tried w_sp_best w_sp_leastHidden H locs ls hP hD hS hl hres
        rw [pX4_tryFrom_L56] at hres
        refine lv_iload hx hb dX4_tryFrom_56 (lv_at hl 4 rfl) ?_
        refine lv_iconst (v := 5) hx hb dX4_tryFrom_58 (by decide) ?_
        refine lv_icmp_ge (tgt := 112) hx hb dX4_tryFrom_59 (by decide) (fun c5 => ?_) (fun c5 => ?_)
        · replace hres := og_t c5 hres
          have hres := Option.some.inj hres
          have h0 := (Prod.mk.inj hres).1
          replace hres := (Prod.mk.inj hres).2
          have h1 := (Prod.mk.inj hres).1
          replace hres := (Prod.mk.inj hres).2
          have h2 := hres
          subst h0
          subst h1
          subst h2
          exact hret _ _ _ _ hP hD hS dX4_tryFrom_112
        · replace hres := og_f c5 hres
          refine lv_iload_n hx hb dX4_tryFrom_62 rfl (lv_at hl 1 rfl) ?_
          refine lv_iconst (v := 5) hx hb dX4_tryFrom_63 (by decide) ?_
          refine lv_imul hx hb dX4_tryFrom_64 ?_
          refine lv_iload hx hb dX4_tryFrom_65 (lv_at hl 4 rfl) ?_
          refine lv_iadd hx hb dX4_tryFrom_67 ?_
          refine lv_istore (lv' := [(5, .int ((x1 * 5) + v4)), (0, .ref spo), (1, .int x1), (2, .int x2), (3, .int x3), (4, .int v4)]) hx hb dX4_tryFrom_68 hl (by decide) rfl (fun ls hl => ?_)
          refine lv_aload_n hx hb dX4_tryFrom_70 rfl (lv_at hl 1 rfl) ?_
          refine va_get (D := D) (ci := 4) (v := .ref sp_triedA) (C := RX4) (T := TX4) (N := 8) hx hb hts iw4 hown hK.1 hP 0 rfl rfl 3 (by decide) k4 (fun _ h9 => h9) rfl dX4_tryFrom_71 ?_
          refine lv_iload_n hx hb dX4_tryFrom_74 rfl (lv_at hl 2 rfl) ?_
          refine lv_iload hx hb dX4_tryFrom_75 (lv_at hl 5 rfl) ?_
          refine lv_bipush (v := 25) hx hb dX4_tryFrom_77 (by decide) ?_
          refine lv_imul hx hb dX4_tryFrom_79 ?_
          obtain ⟨g6, hres⟩ := og_no hres
          refine kr_iast (f := w_sp_tried) (j := x1.toNatClampNeg) (x := (v4 * 25)) hx hb hK hP hD hS 4 rfl g6 rfl dX4_tryFrom_80 (fun H locs hP hD hS => ?_)
          have hP : va_P D vwCl ([(spo, .inr (4, [.ref sp_paidA, .ref sp_hiddenA, .ref sp_mostFromA, .ref sp_triedA, .ref sp_bestA, .int sp_payers, .int sp_much, .int w_sp_leastHidden])), (sp_paidA, .inl (κ 0, 30, .inl sp_paid)), (sp_hiddenA, .inl (κ 0, 30, .inl sp_hidden)), (sp_mostFromA, .inl (κ 0, 7, .inl sp_mostFrom)), (sp_triedA, .inl (κ 0, 6, .inl (upd w_sp_tried x1.toNatClampNeg (v4 * 25)))), (sp_bestA, .inl (κ 0, 6, .inl w_sp_best))]) H := hP
          have hD : va_D A ([(spo, .inr (4, [.ref sp_paidA, .ref sp_hiddenA, .ref sp_mostFromA, .ref sp_triedA, .ref sp_bestA, .int sp_payers, .int sp_much, .int w_sp_leastHidden])), (sp_paidA, .inl (κ 0, 30, .inl sp_paid)), (sp_hiddenA, .inl (κ 0, 30, .inl sp_hidden)), (sp_mostFromA, .inl (κ 0, 7, .inl sp_mostFrom)), (sp_triedA, .inl (κ 0, 6, .inl (upd w_sp_tried x1.toNatClampNeg (v4 * 25)))), (sp_bestA, .inl (κ 0, 6, .inl w_sp_best))]) := hD
          refine lv_aload_n hx hb dX4_tryFrom_81 rfl (lv_at hl 1 rfl) ?_
          refine lv_iload_n hx hb dX4_tryFrom_82 rfl (lv_at hl 2 rfl) ?_
          refine lv_iconst (v := 1) hx hb dX4_tryFrom_83 (by decide) ?_
          refine lv_iadd hx hb dX4_tryFrom_84 ?_
          refine lv_iload_n hx hb dX4_tryFrom_85 rfl (lv_at hl 3 rfl) ?_
          refine lv_aload_n hx hb dX4_tryFrom_86 rfl (lv_at hl 1 rfl) ?_
          refine va_get (D := D) (ci := 4) (v := .ref sp_paidA) (C := RX4) (T := TX4) (N := 8) hx hb hts iw4 hown hK.1 hP 0 rfl rfl 0 (by decide) k10 (fun _ h9 => h9) rfl dX4_tryFrom_87 ?_
          refine lv_iload hx hb dX4_tryFrom_90 (lv_at hl 0 rfl) ?_
          obtain ⟨g7, hres⟩ := og_no hres
          refine kr_iald (f := sp_paid) (j := ((x1 * 5) + v4).toNatClampNeg) hx hb hK hP 1 rfl g7 rfl dX4_tryFrom_92 ?_
          refine lv_iadd hx hb dX4_tryFrom_93 ?_
          refine lv_iload_n hx hb dX4_tryFrom_94 rfl (lv_at hl 4 rfl) ?_
          refine lv_aload_n hx hb dX4_tryFrom_95 rfl (lv_at hl 1 rfl) ?_
          refine va_get (D := D) (ci := 4) (v := .ref sp_hiddenA) (C := RX4) (T := TX4) (N := 8) hx hb hts iw4 hown hK.1 hP 0 rfl rfl 1 (by decide) k11 (fun _ h9 => h9) rfl dX4_tryFrom_96 ?_
          refine lv_iload hx hb dX4_tryFrom_99 (lv_at hl 0 rfl) ?_
          refine kr_iald (f := sp_hidden) (j := ((x1 * 5) + v4).toNatClampNeg) hx hb hK hP 2 rfl g7 rfl dX4_tryFrom_101 ?_
          refine lv_iadd hx hb dX4_tryFrom_102 ?_
          obtain ⟨w8, w9, w10, hc11, hres⟩ := kb3_s hres
          refine krV_V (As := [.int (x1 + 1), .int (x2 + (sp_paid (((x1 * 5) + v4).toNatClampNeg))), .int (x3 + (sp_hidden (((x1 * 5) + v4).toNatClampNeg)))]) (rest := []) (wr := []) ⟨hx, hb, hml, hown, hts⟩ hK (ihd (upd w_sp_tried x1.toNatClampNeg (v4 * 25)) w_sp_best w_sp_leastHidden (x1 + 1) (x2 + (sp_paid (((x1 * 5) + v4).toNatClampNeg))) (x3 + (sp_hidden (((x1 * 5) + v4).toNatClampNeg))) w8 w9 w10 hc11) (kr_cwself 3 hts gself_tryFrom rfl rfl rfl k12 k13 k14 k15 (by decide +kernel) ⟨Nat.le_refl _, (show 8 + (6 + 11) + 100 * dd ≤ 100 * (dd + 1) by omega)⟩) rfl rfl rfl hP hD hS hA [0, 1, 2, 3, 4, 5] [] rfl rfl rfl rfl (by decide) rfl hl.1 rfl (Nat.le_of_ble_eq_true rfl) dX4_tryFrom_103 ⟨Nat.zero_le _, Nat.zero_le _⟩ (fun H locs hP hD hS => ?_)
          have hP : va_P D vwCl ([(spo, .inr (4, [.ref sp_paidA, .ref sp_hiddenA, .ref sp_mostFromA, .ref sp_triedA, .ref sp_bestA, .int sp_payers, .int sp_much, .int w10])), (sp_paidA, .inl (κ 0, 30, .inl sp_paid)), (sp_hiddenA, .inl (κ 0, 30, .inl sp_hidden)), (sp_mostFromA, .inl (κ 0, 7, .inl sp_mostFrom)), (sp_triedA, .inl (κ 0, 6, .inl w8)), (sp_bestA, .inl (κ 0, 6, .inl w9))]) H := hP
          have hD : va_D A ([(spo, .inr (4, [.ref sp_paidA, .ref sp_hiddenA, .ref sp_mostFromA, .ref sp_triedA, .ref sp_bestA, .int sp_payers, .int sp_much, .int w10])), (sp_paidA, .inl (κ 0, 30, .inl sp_paid)), (sp_hiddenA, .inl (κ 0, 30, .inl sp_hidden)), (sp_mostFromA, .inl (κ 0, 7, .inl sp_mostFrom)), (sp_triedA, .inl (κ 0, 6, .inl w8)), (sp_bestA, .inl (κ 0, 6, .inl w9))]) := hD
          refine lv_iinc (v := (v4 + 1)) (lv' := [(4, .int (v4 + 1)), (5, .int ((x1 * 5) + v4)), (0, .ref spo), (1, .int x1), (2, .int x2), (3, .int x3)]) hx hb dX4_tryFrom_106 hl (k := 5) rfl rfl (by decide) rfl (fun ls hl => ?_)
          refine lv_goto (tgt := 56) hx hb dX4_tryFrom_109 (by decide) ?_
          exact ih56 (v4 + 1) w8 w9 w10 _ _ _ hP hD hS (lv_sub hl [2, 3, 4, 5, 0] rfl) hres
    refine lv_iload_n hx hb dX4_tryFrom_0 rfl (lv_at hl 3 rfl) ?_
    refine lv_aload_n hx hb dX4_tryFrom_1 rfl (lv_at hl 0 rfl) ?_
    refine va_get (D := D) (ci := 4) (v := .int sp_leastHidden) (C := RX4) (T := TX4) (N := 8) hx hb hts iw4 hown hK.1 hP 0 rfl rfl 7 (by decide) k0 (fun _ h9 => h9) rfl dX4_tryFrom_2 ?_
    refine lv_icmp_ge (tgt := 23) hx hb dX4_tryFrom_5 (by decide) (fun c1 => ?_) (fun c1 => ?_)
    · replace hres := og_t c1 hres
      have hres := Option.some.inj hres
      have h0 := (Prod.mk.inj hres).1
      replace hres := (Prod.mk.inj hres).2
      have h1 := (Prod.mk.inj hres).1
      replace hres := (Prod.mk.inj hres).2
      have h2 := hres
      subst h0
      subst h1
      subst h2
      exact hret _ _ _ _ hP hD hS dX4_tryFrom_23
    · replace hres := og_f c1 hres
      refine lv_iload_n hx hb dX4_tryFrom_8 rfl (lv_at hl 2 rfl) ?_
      refine lv_aload_n hx hb dX4_tryFrom_9 rfl (lv_at hl 0 rfl) ?_
      refine va_get (D := D) (ci := 4) (v := .ref sp_mostFromA) (C := RX4) (T := TX4) (N := 8) hx hb hts iw4 hown hK.1 hP 0 rfl rfl 2 (by decide) k1 (fun _ h9 => h9) rfl dX4_tryFrom_10 ?_
      refine lv_iload_n hx hb dX4_tryFrom_13 rfl (lv_at hl 1 rfl) ?_
      obtain ⟨g2, hres⟩ := og_no hres
      refine kr_iald (f := sp_mostFrom) (j := x1.toNatClampNeg) hx hb hK hP 3 rfl g2 rfl dX4_tryFrom_14 ?_
      refine lv_iadd hx hb dX4_tryFrom_15 ?_
      refine lv_aload_n hx hb dX4_tryFrom_16 rfl (lv_at hl 0 rfl) ?_
      refine va_get (D := D) (ci := 4) (v := .int sp_much) (C := RX4) (T := TX4) (N := 8) hx hb hts iw4 hown hK.1 hP 0 rfl rfl 6 (by decide) k2 (fun _ h9 => h9) rfl dX4_tryFrom_17 ?_
      refine lv_icmp_ge (tgt := 24) hx hb dX4_tryFrom_20 (by decide) (fun c3 => ?_) (fun c3 => ?_)
      · replace hres := og_t c3 hres
        refine lv_iload_n hx hb dX4_tryFrom_24 rfl (lv_at hl 1 rfl) ?_
        refine lv_aload_n hx hb dX4_tryFrom_25 rfl (lv_at hl 0 rfl) ?_
        refine va_get (D := D) (ci := 4) (v := .int sp_payers) (C := RX4) (T := TX4) (N := 8) hx hb hts iw4 hown hK.1 hP 0 rfl rfl 5 (by decide) k3 (fun _ h9 => h9) rfl dX4_tryFrom_26 ?_
        refine lv_icmp_lt (tgt := 53) hx hb dX4_tryFrom_29 (by decide) (fun c4 => ?_) (fun c4 => ?_)
        · replace hres := og_t c4 hres
          refine lv_iconst (v := 0) hx hb dX4_tryFrom_53 (by decide) ?_
          refine lv_istore (lv' := [(4, .int 0), (0, .ref spo), (1, .int x1), (2, .int x2), (3, .int x3)]) hx hb dX4_tryFrom_54 hl (by decide) rfl (fun ls hl => ?_)
          exact L56 N 0 sp_tried sp_best sp_leastHidden _ _ _ hP hD hS (lv_sub hl [1, 2, 3, 4, 0] rfl) hres
        · replace hres := og_f c4 hres
          refine lv_aload_n hx hb dX4_tryFrom_32 rfl (lv_at hl 0 rfl) ?_
          refine lv_iload_n hx hb dX4_tryFrom_33 rfl (lv_at hl 3 rfl) ?_
          refine va_put (D := D) (ci := 4) (v := .int x3) (ty := .int) (C := RX4) (T := TX4) (N := 8) hx hb hts iw4 tyX4 tyX4_ok nmX4 hown hK.1 hP hD hS 0 rfl rfl 7 (by decide) k0 (fun _ h9 => h9) rfl (tyX4_ok 7 (by decide)) rfl rfl (Nat.le_of_ble_eq_true rfl) dX4_tryFrom_34 (fun H locs hP hD hS => ?_)
          have hP : va_P D vwCl ([(spo, .inr (4, [.ref sp_paidA, .ref sp_hiddenA, .ref sp_mostFromA, .ref sp_triedA, .ref sp_bestA, .int sp_payers, .int sp_much, .int x3])), (sp_paidA, .inl (κ 0, 30, .inl sp_paid)), (sp_hiddenA, .inl (κ 0, 30, .inl sp_hidden)), (sp_mostFromA, .inl (κ 0, 7, .inl sp_mostFrom)), (sp_triedA, .inl (κ 0, 6, .inl sp_tried)), (sp_bestA, .inl (κ 0, 6, .inl sp_best))]) H := hP
          have hD : va_D A ([(spo, .inr (4, [.ref sp_paidA, .ref sp_hiddenA, .ref sp_mostFromA, .ref sp_triedA, .ref sp_bestA, .int sp_payers, .int sp_much, .int x3])), (sp_paidA, .inl (κ 0, 30, .inl sp_paid)), (sp_hiddenA, .inl (κ 0, 30, .inl sp_hidden)), (sp_mostFromA, .inl (κ 0, 7, .inl sp_mostFrom)), (sp_triedA, .inl (κ 0, 6, .inl sp_tried)), (sp_bestA, .inl (κ 0, 6, .inl sp_best))]) := hD
          refine lv_aload_n hx hb dX4_tryFrom_37 rfl (lv_at hl 0 rfl) ?_
          refine va_get (D := D) (ci := 4) (v := .ref sp_triedA) (C := RX4) (T := TX4) (N := 8) hx hb hts iw4 hown hK.1 hP 0 rfl rfl 3 (by decide) k4 (fun _ h9 => h9) rfl dX4_tryFrom_38 ?_
          refine lv_iconst (v := 0) hx hb dX4_tryFrom_41 (by decide) ?_
          refine lv_aload_n hx hb dX4_tryFrom_42 rfl (lv_at hl 0 rfl) ?_
          refine va_get (D := D) (ci := 4) (v := .ref sp_bestA) (C := RX4) (T := TX4) (N := 8) hx hb hts iw4 hown hK.1 hP 0 rfl rfl 4 (by decide) k5 (fun _ h9 => h9) rfl dX4_tryFrom_43 ?_
          refine lv_iconst (v := 0) hx hb dX4_tryFrom_46 (by decide) ?_
          refine lv_bipush (v := 6) hx hb dX4_tryFrom_47 (by decide) ?_
          refine va_copyi hx hb (hml.trans hl.1.symm) hown k6 k7 k8 k9 hK.1 hP hD hS 4 5 0 0 rfl rfl rfl rfl rfl (by decide) (by decide) (by decide) (by decide) (by decide) (fun _ _ => rfl) (Nat.succ_le_succ (Nat.zero_le _)) (Nat.le_trans (m := 100) (Nat.le_of_ble_eq_true rfl) (show 100 ≤ 100 * (dd + 1) by omega)) dX4_tryFrom_49 (fun H locs hP hD hS => ?_)
          have hP : va_P D vwCl ([(spo, .inr (4, [.ref sp_paidA, .ref sp_hiddenA, .ref sp_mostFromA, .ref sp_triedA, .ref sp_bestA, .int sp_payers, .int sp_much, .int x3])), (sp_paidA, .inl (κ 0, 30, .inl sp_paid)), (sp_hiddenA, .inl (κ 0, 30, .inl sp_hidden)), (sp_mostFromA, .inl (κ 0, 7, .inl sp_mostFrom)), (sp_triedA, .inl (κ 0, 6, .inl sp_tried)), (sp_bestA, .inl (κ 0, 6, .inl (va_cpy sp_tried sp_best 0 0 6)))]) H := hP
          have hD : va_D A ([(spo, .inr (4, [.ref sp_paidA, .ref sp_hiddenA, .ref sp_mostFromA, .ref sp_triedA, .ref sp_bestA, .int sp_payers, .int sp_much, .int x3])), (sp_paidA, .inl (κ 0, 30, .inl sp_paid)), (sp_hiddenA, .inl (κ 0, 30, .inl sp_hidden)), (sp_mostFromA, .inl (κ 0, 7, .inl sp_mostFrom)), (sp_triedA, .inl (κ 0, 6, .inl sp_tried)), (sp_bestA, .inl (κ 0, 6, .inl (va_cpy sp_tried sp_best 0 0 6)))]) := hD
          have hres := Option.some.inj hres
          have h0 := (Prod.mk.inj hres).1
          replace hres := (Prod.mk.inj hres).2
          have h1 := (Prod.mk.inj hres).1
          replace hres := (Prod.mk.inj hres).2
          have h2 := hres
          subst h0
          subst h1
          subst h2
          exact hret _ _ _ _ hP hD hS dX4_tryFrom_52
      · replace hres := og_f c3 hres
        have hres := Option.some.inj hres
        have h0 := (Prod.mk.inj hres).1
        replace hres := (Prod.mk.inj hres).2
        have h1 := (Prod.mk.inj hres).1
        replace hres := (Prod.mk.inj hres).2
        have h2 := hres
        subst h0
        subst h1
        subst h2
        exact hret _ _ _ _ hP hD hS dX4_tryFrom_23
