theorem dfX0 : ∀ j, j < 3 → defaultValue (tyX0 j) = vp_V [.null, .null, .int 0] j := fun j hj => by rcases (show j = 0 ∨ j = 1 ∨ j = 2 by omega) with rfl | rfl | rfl <;> rfl
theorem dfX1 : ∀ j, j < 3 → defaultValue (tyX1 j) = vp_V [.int 0, .int 0, .null] j := fun j hj => by rcases (show j = 0 ∨ j = 1 ∨ j = 2 by omega) with rfl | rfl | rfl <;> rfl
theorem dfX2 : ∀ j, j < 3 → defaultValue (tyX2 j) = vp_V [.null, .int 0, .int 0] j := fun j hj => by rcases (show j = 0 ∨ j = 1 ∨ j = 2 by omega) with rfl | rfl | rfl <;> rfl
theorem dfX3 : ∀ j, j < 5 → defaultValue (tyX3 j) = vp_V [.null, .null, .int 0, .null, .int 0] j := fun j hj => by rcases (show j = 0 ∨ j = 1 ∨ j = 2 ∨ j = 3 ∨ j = 4 by omega) with rfl | rfl | rfl | rfl | rfl <;> rfl
theorem dfX4 : ∀ j, j < 8 → defaultValue (tyX4 j) = vp_V [.null, .null, .null, .null, .null, .int 0, .int 0, .int 0] j := fun j hj => by rcases (show j = 0 ∨ j = 1 ∨ j = 2 ∨ j = 3 ∨ j = 4 ∨ j = 5 ∨ j = 6 ∨ j = 7 by omega) with rfl | rfl | rfl | rfl | rfl | rfl | rfl | rfl <;> rfl
theorem dfX5 : ∀ j, j < 7 → defaultValue (tyX5 j) = vp_V [.int 0, .int 0, .int 0, .int 0, .int 0, .null, .null] j := fun j hj => by rcases (show j = 0 ∨ j = 1 ∨ j = 2 ∨ j = 3 ∨ j = 4 ∨ j = 5 ∨ j = 6 by omega) with rfl | rfl | rfl | rfl | rfl | rfl | rfl <;> rfl
theorem dfX6 : ∀ j, j < 12 → defaultValue (tyX6 j) = vp_V [.int 0, .int 0, .int 0, .int 0, .int 0, .int 0, .int 0, .int 0, .null, .null, .null, .null] j := fun j hj => by rcases (show j = 0 ∨ j = 1 ∨ j = 2 ∨ j = 3 ∨ j = 4 ∨ j = 5 ∨ j = 6 ∨ j = 7 ∨ j = 8 ∨ j = 9 ∨ j = 10 ∨ j = 11 by omega) with rfl | rfl | rfl | rfl | rfl | rfl | rfl | rfl | rfl | rfl | rfl | rfl <;> rfl
theorem dfX7 : ∀ j, j < 5 → defaultValue (tyX7 j) = vp_V [.null, .int 0, .int 0, .int 0, .int 0] j := fun j hj => by rcases (show j = 0 ∨ j = 1 ∨ j = 2 ∨ j = 3 ∨ j = 4 by omega) with rfl | rfl | rfl | rfl | rfl <;> rfl
theorem dfX8 : ∀ j, j < 11 → defaultValue (tyX8 j) = vp_V [.null, .null, .null, .null, .null, .null, .null, .null, .null, .null, .int 0] j := fun j hj => by rcases (show j = 0 ∨ j = 1 ∨ j = 2 ∨ j = 3 ∨ j = 4 ∨ j = 5 ∨ j = 6 ∨ j = 7 ∨ j = 8 ∨ j = 9 ∨ j = 10 by omega) with rfl | rfl | rfl | rfl | rfl | rfl | rfl | rfl | rfl | rfl | rfl <;> rfl
theorem dfX9 : ∀ j, j < 21 → defaultValue (tyX9 j) = vp_V [.null, .null, .int 0, .int 0, .null, .int 0, .int 0, .int 0, .int 0, .int 0, .null, .null, .int 0, .null, .null, .int 0, .null, .int 0, .null, .null, .null] j := fun j hj => by rcases (show j = 0 ∨ j = 1 ∨ j = 2 ∨ j = 3 ∨ j = 4 ∨ j = 5 ∨ j = 6 ∨ j = 7 ∨ j = 8 ∨ j = 9 ∨ j = 10 ∨ j = 11 ∨ j = 12 ∨ j = 13 ∨ j = 14 ∨ j = 15 ∨ j = 16 ∨ j = 17 ∨ j = 18 ∨ j = 19 ∨ j = 20 by omega) with rfl | rfl | rfl | rfl | rfl | rfl | rfl | rfl | rfl | rfl | rfl | rfl | rfl | rfl | rfl | rfl | rfl | rfl | rfl | rfl | rfl <;> rfl
abbrev krS0 : krS := (0, 0, 0, 0, 0, (fun _ => 0), (fun _ => 0))
set_option maxHeartbeats 8000000 in
set_option maxRecDepth 100000 in
theorem tX0_init (l : Launch) (D : va_G) (κ : Nat → ClassId) (bko : Nat) : krN l yX0_init wsX0_init { frames := 1, cells := 2, slots := 30, locals := 100 } D κ [.ref bko] ([(bko, .inr (0, [.null, .null, .int 0]))]) (fun u => [(bko, .inr (0, [.ref (u 0), .ref (u 1), .int 0])), ((u 0), .inl (κ 0, 15, .inl (fun _ => 0))), ((u 1), .inl (κ 0, 15, .inl (fun _ => 0)))]) 2 30 := by
  refine krN_of (cc := cX0_init) (maxL := 1) (by decide) rfl (Nat.le_of_ble_eq_true rfl) ?_
  intro p e s m args below meth c A Q ls hx hb hml hown hts hK hA hin hret hP hD hS hl
  have hin : meth.name = "<init>" := hin
  have hown : s.vm.findClass RX0 = some m.cls := hown
  have hl : lv_has ls 1 [(0, .ref bko)] := hl
  have iw0 : ∀ w ∈ u_ws RX0 TX0 3, w ∈ wsX0_init := (fun _ h => List.mem_cons_of_mem _ (List.mem_append_right _ h))
  have k0 : (Cond.methodLink RX0 3 objectInit).before args s = true := hts _ (List.mem_of_getElem? (i := 1) rfl)
  have k1 : (Cond.instanceMethod objectInit).before args s = true := hts _ (List.mem_of_getElem? (i := 2) rfl)
  have k2 : (Cond.code objectInit ⟨#[0xb1]⟩ 1 none).before args s = true := hts _ (List.mem_of_getElem? (i := 3) rfl)
  have k3 : (Cond.arrayClass .int).before args s = true := hts _ (List.mem_of_getElem? (i := 4) rfl)
  have k4 : (Cond.fieldLink RX0 9 "KingRansom$Book" "whose" "[I").before args s = true := hts _ (List.mem_of_getElem? (i := 5) rfl)
  have k5 : (Cond.fieldLink RX0 15 "KingRansom$Book" "goods" "[I").before args s = true := hts _ (List.mem_of_getElem? (i := 6) rfl)
  refine lv_aload_n hx hb dX0_init_0 rfl (lv_at hl 0 rfl) ?_
  refine W.objInit hx hb hown k0 k1 k2 rfl (by rw [hml]; exact hl.1) rfl dX0_init_1 (Nat.le_of_ble_eq_true rfl) (Nat.le_of_ble_eq_true rfl) ?_
  refine W.eq (g2 := F0 m 4 ls []) rfl ?_
  refine lv_aload_n hx hb dX0_init_4 rfl (lv_at hl 0 rfl) ?_
  refine lv_bipush (v := 15) hx hb dX0_init_5 (by decide) ?_
  refine kr_newi (N := 15) hx hb hK k3 hP hD hS hA (by decide) (by decide) (Nat.le_of_ble_eq_true rfl) (Nat.le_of_ble_eq_true rfl) (Nat.le_of_ble_eq_true rfl) dX0_init_7 (fun q1 H hP hD hS => ?_)
  have hP : va_P D vwCl ([(bko, .inr (0, [.null, .null, .int 0])), (q1, .inl (κ 0, 15, .inl (fun _ => 0)))]) H := hP
  have hD : va_D A ([(bko, .inr (0, [.null, .null, .int 0])), (q1, .inl (κ 0, 15, .inl (fun _ => 0)))]) := hD
  refine va_putF (D := D) (ci := 0) (v := .ref q1) (ty := .array .int) (C := RX0) (T := TX0) (N := 3) hx hb hts iw0 tyX0 tyX0_ok nmX0 hown hK.1 hP hD hS 0 rfl rfl 0 (by decide) k4 (fun _ h9 => h9) rfl hin rfl (tyX0_ok 0 (by decide)) rfl rfl (Nat.le_of_ble_eq_true rfl) dX0_init_9 (fun H locs hP hD hS => ?_)
  have hP : va_P D vwCl ([(bko, .inr (0, [.ref q1, .null, .int 0])), (q1, .inl (κ 0, 15, .inl (fun _ => 0)))]) H := hP
  have hD : va_D A ([(bko, .inr (0, [.ref q1, .null, .int 0])), (q1, .inl (κ 0, 15, .inl (fun _ => 0)))]) := hD
  refine lv_aload_n hx hb dX0_init_12 rfl (lv_at hl 0 rfl) ?_
  refine lv_bipush (v := 15) hx hb dX0_init_13 (by decide) ?_
  refine kr_newi (N := 15) hx hb hK k3 hP hD hS hA (by decide) (by decide) (Nat.le_of_ble_eq_true rfl) (Nat.le_of_ble_eq_true rfl) (Nat.le_of_ble_eq_true rfl) dX0_init_15 (fun q2 H hP hD hS => ?_)
  have hP : va_P D vwCl ([(bko, .inr (0, [.ref q1, .null, .int 0])), (q1, .inl (κ 0, 15, .inl (fun _ => 0))), (q2, .inl (κ 0, 15, .inl (fun _ => 0)))]) H := hP
  have hD : va_D A ([(bko, .inr (0, [.ref q1, .null, .int 0])), (q1, .inl (κ 0, 15, .inl (fun _ => 0))), (q2, .inl (κ 0, 15, .inl (fun _ => 0)))]) := hD
  refine va_putF (D := D) (ci := 0) (v := .ref q2) (ty := .array .int) (C := RX0) (T := TX0) (N := 3) hx hb hts iw0 tyX0 tyX0_ok nmX0 hown hK.1 hP hD hS 0 rfl rfl 1 (by decide) k5 (fun _ h9 => h9) rfl hin rfl (tyX0_ok 1 (by decide)) rfl rfl (Nat.le_of_ble_eq_true rfl) dX0_init_17 (fun H locs hP hD hS => ?_)
  have hP : va_P D vwCl ([(bko, .inr (0, [.ref q1, .ref q2, .int 0])), (q1, .inl (κ 0, 15, .inl (fun _ => 0))), (q2, .inl (κ 0, 15, .inl (fun _ => 0)))]) H := hP
  have hD : va_D A ([(bko, .inr (0, [.ref q1, .ref q2, .int 0])), (q1, .inl (κ 0, 15, .inl (fun _ => 0))), (q2, .inl (κ 0, 15, .inl (fun _ => 0)))]) := hD
  exact hret (fun i => [q1, q2].getD i 0) _ _ _ _ hP hD hS dX0_init_20

set_option maxHeartbeats 8000000 in
set_option maxRecDepth 100000 in
theorem tX3_init (l : Launch) (D : va_G) (κ : Nat → ClassId) (sco : Nat) : krN l yX3_init wsX3_init { frames := 1, cells := 3, slots := 22, locals := 100 } D κ [.ref sco] ([(sco, .inr (3, [.null, .null, .int 0, .null, .int 0]))]) (fun u => [(sco, .inr (3, [.ref (u 0), .ref (u 1), .int 0, .ref (u 2), .int 0])), ((u 0), .inl (κ 0, 6, .inl (fun _ => 0))), ((u 1), .inl (κ 0, 6, .inl (fun _ => 0))), ((u 2), .inl (κ 0, 10, .inl (fun _ => 0)))]) 3 22 := by
  refine krN_of (cc := cX3_init) (maxL := 1) (by decide) rfl (Nat.le_of_ble_eq_true rfl) ?_
  intro p e s m args below meth c A Q ls hx hb hml hown hts hK hA hin hret hP hD hS hl
  have hin : meth.name = "<init>" := hin
  have hown : s.vm.findClass RX3 = some m.cls := hown
  have hl : lv_has ls 1 [(0, .ref sco)] := hl
  have iw3 : ∀ w ∈ u_ws RX3 TX3 5, w ∈ wsX3_init := (fun _ h => List.mem_cons_of_mem _ (List.mem_append_right _ h))
  have k0 : (Cond.methodLink RX3 3 objectInit).before args s = true := hts _ (List.mem_of_getElem? (i := 1) rfl)
  have k1 : (Cond.instanceMethod objectInit).before args s = true := hts _ (List.mem_of_getElem? (i := 2) rfl)
  have k2 : (Cond.code objectInit ⟨#[0xb1]⟩ 1 none).before args s = true := hts _ (List.mem_of_getElem? (i := 3) rfl)
  have k3 : (Cond.arrayClass .int).before args s = true := hts _ (List.mem_of_getElem? (i := 4) rfl)
  have k4 : (Cond.fieldLink RX3 9 "KingRansom$Scales" "sets" "[I").before args s = true := hts _ (List.mem_of_getElem? (i := 5) rfl)
  have k5 : (Cond.fieldLink RX3 15 "KingRansom$Scales" "weights" "[I").before args s = true := hts _ (List.mem_of_getElem? (i := 6) rfl)
  have k6 : (Cond.fieldLink RX3 18 "KingRansom$Scales" "bagsShortBy" "[I").before args s = true := hts _ (List.mem_of_getElem? (i := 7) rfl)
  refine lv_aload_n hx hb dX3_init_0 rfl (lv_at hl 0 rfl) ?_
  refine W.objInit hx hb hown k0 k1 k2 rfl (by rw [hml]; exact hl.1) rfl dX3_init_1 (Nat.le_of_ble_eq_true rfl) (Nat.le_of_ble_eq_true rfl) ?_
  refine W.eq (g2 := F0 m 4 ls []) rfl ?_
  refine lv_aload_n hx hb dX3_init_4 rfl (lv_at hl 0 rfl) ?_
  refine lv_bipush (v := 6) hx hb dX3_init_5 (by decide) ?_
  refine kr_newi (N := 6) hx hb hK k3 hP hD hS hA (by decide) (by decide) (Nat.le_of_ble_eq_true rfl) (Nat.le_of_ble_eq_true rfl) (Nat.le_of_ble_eq_true rfl) dX3_init_7 (fun q1 H hP hD hS => ?_)
  have hP : va_P D vwCl ([(sco, .inr (3, [.null, .null, .int 0, .null, .int 0])), (q1, .inl (κ 0, 6, .inl (fun _ => 0)))]) H := hP
  have hD : va_D A ([(sco, .inr (3, [.null, .null, .int 0, .null, .int 0])), (q1, .inl (κ 0, 6, .inl (fun _ => 0)))]) := hD
  refine va_putF (D := D) (ci := 3) (v := .ref q1) (ty := .array .int) (C := RX3) (T := TX3) (N := 5) hx hb hts iw3 tyX3 tyX3_ok nmX3 hown hK.1 hP hD hS 0 rfl rfl 0 (by decide) k4 (fun _ h9 => h9) rfl hin rfl (tyX3_ok 0 (by decide)) rfl rfl (Nat.le_of_ble_eq_true rfl) dX3_init_9 (fun H locs hP hD hS => ?_)
  have hP : va_P D vwCl ([(sco, .inr (3, [.ref q1, .null, .int 0, .null, .int 0])), (q1, .inl (κ 0, 6, .inl (fun _ => 0)))]) H := hP
  have hD : va_D A ([(sco, .inr (3, [.ref q1, .null, .int 0, .null, .int 0])), (q1, .inl (κ 0, 6, .inl (fun _ => 0)))]) := hD
  refine lv_aload_n hx hb dX3_init_12 rfl (lv_at hl 0 rfl) ?_
  refine lv_bipush (v := 6) hx hb dX3_init_13 (by decide) ?_
  refine kr_newi (N := 6) hx hb hK k3 hP hD hS hA (by decide) (by decide) (Nat.le_of_ble_eq_true rfl) (Nat.le_of_ble_eq_true rfl) (Nat.le_of_ble_eq_true rfl) dX3_init_15 (fun q2 H hP hD hS => ?_)
  have hP : va_P D vwCl ([(sco, .inr (3, [.ref q1, .null, .int 0, .null, .int 0])), (q1, .inl (κ 0, 6, .inl (fun _ => 0))), (q2, .inl (κ 0, 6, .inl (fun _ => 0)))]) H := hP
  have hD : va_D A ([(sco, .inr (3, [.ref q1, .null, .int 0, .null, .int 0])), (q1, .inl (κ 0, 6, .inl (fun _ => 0))), (q2, .inl (κ 0, 6, .inl (fun _ => 0)))]) := hD
  refine va_putF (D := D) (ci := 3) (v := .ref q2) (ty := .array .int) (C := RX3) (T := TX3) (N := 5) hx hb hts iw3 tyX3 tyX3_ok nmX3 hown hK.1 hP hD hS 0 rfl rfl 1 (by decide) k5 (fun _ h9 => h9) rfl hin rfl (tyX3_ok 1 (by decide)) rfl rfl (Nat.le_of_ble_eq_true rfl) dX3_init_17 (fun H locs hP hD hS => ?_)
  have hP : va_P D vwCl ([(sco, .inr (3, [.ref q1, .ref q2, .int 0, .null, .int 0])), (q1, .inl (κ 0, 6, .inl (fun _ => 0))), (q2, .inl (κ 0, 6, .inl (fun _ => 0)))]) H := hP
  have hD : va_D A ([(sco, .inr (3, [.ref q1, .ref q2, .int 0, .null, .int 0])), (q1, .inl (κ 0, 6, .inl (fun _ => 0))), (q2, .inl (κ 0, 6, .inl (fun _ => 0)))]) := hD
  refine lv_aload_n hx hb dX3_init_20 rfl (lv_at hl 0 rfl) ?_
  refine lv_bipush (v := 10) hx hb dX3_init_21 (by decide) ?_
  refine kr_newi (N := 10) hx hb hK k3 hP hD hS hA (by decide) (by decide) (Nat.le_of_ble_eq_true rfl) (Nat.le_of_ble_eq_true rfl) (Nat.le_of_ble_eq_true rfl) dX3_init_23 (fun q3 H hP hD hS => ?_)
  have hP : va_P D vwCl ([(sco, .inr (3, [.ref q1, .ref q2, .int 0, .null, .int 0])), (q1, .inl (κ 0, 6, .inl (fun _ => 0))), (q2, .inl (κ 0, 6, .inl (fun _ => 0))), (q3, .inl (κ 0, 10, .inl (fun _ => 0)))]) H := hP
  have hD : va_D A ([(sco, .inr (3, [.ref q1, .ref q2, .int 0, .null, .int 0])), (q1, .inl (κ 0, 6, .inl (fun _ => 0))), (q2, .inl (κ 0, 6, .inl (fun _ => 0))), (q3, .inl (κ 0, 10, .inl (fun _ => 0)))]) := hD
  refine va_putF (D := D) (ci := 3) (v := .ref q3) (ty := .array .int) (C := RX3) (T := TX3) (N := 5) hx hb hts iw3 tyX3 tyX3_ok nmX3 hown hK.1 hP hD hS 0 rfl rfl 3 (by decide) k6 (fun _ h9 => h9) rfl hin rfl (tyX3_ok 3 (by decide)) rfl rfl (Nat.le_of_ble_eq_true rfl) dX3_init_25 (fun H locs hP hD hS => ?_)
  have hP : va_P D vwCl ([(sco, .inr (3, [.ref q1, .ref q2, .int 0, .ref q3, .int 0])), (q1, .inl (κ 0, 6, .inl (fun _ => 0))), (q2, .inl (κ 0, 6, .inl (fun _ => 0))), (q3, .inl (κ 0, 10, .inl (fun _ => 0)))]) H := hP
  have hD : va_D A ([(sco, .inr (3, [.ref q1, .ref q2, .int 0, .ref q3, .int 0])), (q1, .inl (κ 0, 6, .inl (fun _ => 0))), (q2, .inl (κ 0, 6, .inl (fun _ => 0))), (q3, .inl (κ 0, 10, .inl (fun _ => 0)))]) := hD
  exact hret (fun i => [q1, q2, q3].getD i 0) _ _ _ _ hP hD hS dX3_init_28

set_option maxHeartbeats 8000000 in
set_option maxRecDepth 100000 in
theorem tX4_init (l : Launch) (D : va_G) (κ : Nat → ClassId) (spo : Nat) : krN l yX4_init wsX4_init { frames := 1, cells := 5, slots := 79, locals := 100 } D κ [.ref spo] ([(spo, .inr (4, [.null, .null, .null, .null, .null, .int 0, .int 0, .int 0]))]) (fun u => [(spo, .inr (4, [.ref (u 0), .ref (u 1), .ref (u 2), .ref (u 3), .ref (u 4), .int 0, .int 0, .int 0])), ((u 0), .inl (κ 0, 30, .inl (fun _ => 0))), ((u 1), .inl (κ 0, 30, .inl (fun _ => 0))), ((u 2), .inl (κ 0, 7, .inl (fun _ => 0))), ((u 3), .inl (κ 0, 6, .inl (fun _ => 0))), ((u 4), .inl (κ 0, 6, .inl (fun _ => 0)))]) 5 79 := by
  refine krN_of (cc := cX4_init) (maxL := 1) (by decide) rfl (Nat.le_of_ble_eq_true rfl) ?_
  intro p e s m args below meth c A Q ls hx hb hml hown hts hK hA hin hret hP hD hS hl
  have hin : meth.name = "<init>" := hin
  have hown : s.vm.findClass RX4 = some m.cls := hown
  have hl : lv_has ls 1 [(0, .ref spo)] := hl
  have iw4 : ∀ w ∈ u_ws RX4 TX4 8, w ∈ wsX4_init := (fun _ h => List.mem_cons_of_mem _ (List.mem_append_right _ h))
  have k0 : (Cond.methodLink RX4 3 objectInit).before args s = true := hts _ (List.mem_of_getElem? (i := 1) rfl)
  have k1 : (Cond.instanceMethod objectInit).before args s = true := hts _ (List.mem_of_getElem? (i := 2) rfl)
  have k2 : (Cond.code objectInit ⟨#[0xb1]⟩ 1 none).before args s = true := hts _ (List.mem_of_getElem? (i := 3) rfl)
  have k3 : (Cond.arrayClass .int).before args s = true := hts _ (List.mem_of_getElem? (i := 4) rfl)
  have k4 : (Cond.fieldLink RX4 11 "KingRansom$Spreading" "paid" "[I").before args s = true := hts _ (List.mem_of_getElem? (i := 5) rfl)
  have k5 : (Cond.fieldLink RX4 15 "KingRansom$Spreading" "hidden" "[I").before args s = true := hts _ (List.mem_of_getElem? (i := 6) rfl)
  have k6 : (Cond.fieldLink RX4 18 "KingRansom$Spreading" "mostFrom" "[I").before args s = true := hts _ (List.mem_of_getElem? (i := 7) rfl)
  have k7 : (Cond.fieldLink RX4 21 "KingRansom$Spreading" "tried" "[I").before args s = true := hts _ (List.mem_of_getElem? (i := 8) rfl)
  have k8 : (Cond.fieldLink RX4 24 "KingRansom$Spreading" "best" "[I").before args s = true := hts _ (List.mem_of_getElem? (i := 9) rfl)
  refine lv_aload_n hx hb dX4_init_0 rfl (lv_at hl 0 rfl) ?_
  refine W.objInit hx hb hown k0 k1 k2 rfl (by rw [hml]; exact hl.1) rfl dX4_init_1 (Nat.le_of_ble_eq_true rfl) (Nat.le_of_ble_eq_true rfl) ?_
  refine W.eq (g2 := F0 m 4 ls []) rfl ?_
  refine lv_aload_n hx hb dX4_init_4 rfl (lv_at hl 0 rfl) ?_
  refine lv_bipush (v := 30) hx hb dX4_init_5 (by decide) ?_
  refine kr_newi (N := 30) hx hb hK k3 hP hD hS hA (by decide) (by decide) (Nat.le_of_ble_eq_true rfl) (Nat.le_of_ble_eq_true rfl) (Nat.le_of_ble_eq_true rfl) dX4_init_7 (fun q1 H hP hD hS => ?_)
  have hP : va_P D vwCl ([(spo, .inr (4, [.null, .null, .null, .null, .null, .int 0, .int 0, .int 0])), (q1, .inl (κ 0, 30, .inl (fun _ => 0)))]) H := hP
  have hD : va_D A ([(spo, .inr (4, [.null, .null, .null, .null, .null, .int 0, .int 0, .int 0])), (q1, .inl (κ 0, 30, .inl (fun _ => 0)))]) := hD
  refine va_putF (D := D) (ci := 4) (v := .ref q1) (ty := .array .int) (C := RX4) (T := TX4) (N := 8) hx hb hts iw4 tyX4 tyX4_ok nmX4 hown hK.1 hP hD hS 0 rfl rfl 0 (by decide) k4 (fun _ h9 => h9) rfl hin rfl (tyX4_ok 0 (by decide)) rfl rfl (Nat.le_of_ble_eq_true rfl) dX4_init_9 (fun H locs hP hD hS => ?_)
  have hP : va_P D vwCl ([(spo, .inr (4, [.ref q1, .null, .null, .null, .null, .int 0, .int 0, .int 0])), (q1, .inl (κ 0, 30, .inl (fun _ => 0)))]) H := hP
  have hD : va_D A ([(spo, .inr (4, [.ref q1, .null, .null, .null, .null, .int 0, .int 0, .int 0])), (q1, .inl (κ 0, 30, .inl (fun _ => 0)))]) := hD
  refine lv_aload_n hx hb dX4_init_12 rfl (lv_at hl 0 rfl) ?_
  refine lv_bipush (v := 30) hx hb dX4_init_13 (by decide) ?_
  refine kr_newi (N := 30) hx hb hK k3 hP hD hS hA (by decide) (by decide) (Nat.le_of_ble_eq_true rfl) (Nat.le_of_ble_eq_true rfl) (Nat.le_of_ble_eq_true rfl) dX4_init_15 (fun q2 H hP hD hS => ?_)
  have hP : va_P D vwCl ([(spo, .inr (4, [.ref q1, .null, .null, .null, .null, .int 0, .int 0, .int 0])), (q1, .inl (κ 0, 30, .inl (fun _ => 0))), (q2, .inl (κ 0, 30, .inl (fun _ => 0)))]) H := hP
  have hD : va_D A ([(spo, .inr (4, [.ref q1, .null, .null, .null, .null, .int 0, .int 0, .int 0])), (q1, .inl (κ 0, 30, .inl (fun _ => 0))), (q2, .inl (κ 0, 30, .inl (fun _ => 0)))]) := hD
  refine va_putF (D := D) (ci := 4) (v := .ref q2) (ty := .array .int) (C := RX4) (T := TX4) (N := 8) hx hb hts iw4 tyX4 tyX4_ok nmX4 hown hK.1 hP hD hS 0 rfl rfl 1 (by decide) k5 (fun _ h9 => h9) rfl hin rfl (tyX4_ok 1 (by decide)) rfl rfl (Nat.le_of_ble_eq_true rfl) dX4_init_17 (fun H locs hP hD hS => ?_)
  have hP : va_P D vwCl ([(spo, .inr (4, [.ref q1, .ref q2, .null, .null, .null, .int 0, .int 0, .int 0])), (q1, .inl (κ 0, 30, .inl (fun _ => 0))), (q2, .inl (κ 0, 30, .inl (fun _ => 0)))]) H := hP
  have hD : va_D A ([(spo, .inr (4, [.ref q1, .ref q2, .null, .null, .null, .int 0, .int 0, .int 0])), (q1, .inl (κ 0, 30, .inl (fun _ => 0))), (q2, .inl (κ 0, 30, .inl (fun _ => 0)))]) := hD
  refine lv_aload_n hx hb dX4_init_20 rfl (lv_at hl 0 rfl) ?_
  refine lv_bipush (v := 7) hx hb dX4_init_21 (by decide) ?_
  refine kr_newi (N := 7) hx hb hK k3 hP hD hS hA (by decide) (by decide) (Nat.le_of_ble_eq_true rfl) (Nat.le_of_ble_eq_true rfl) (Nat.le_of_ble_eq_true rfl) dX4_init_23 (fun q3 H hP hD hS => ?_)
  have hP : va_P D vwCl ([(spo, .inr (4, [.ref q1, .ref q2, .null, .null, .null, .int 0, .int 0, .int 0])), (q1, .inl (κ 0, 30, .inl (fun _ => 0))), (q2, .inl (κ 0, 30, .inl (fun _ => 0))), (q3, .inl (κ 0, 7, .inl (fun _ => 0)))]) H := hP
  have hD : va_D A ([(spo, .inr (4, [.ref q1, .ref q2, .null, .null, .null, .int 0, .int 0, .int 0])), (q1, .inl (κ 0, 30, .inl (fun _ => 0))), (q2, .inl (κ 0, 30, .inl (fun _ => 0))), (q3, .inl (κ 0, 7, .inl (fun _ => 0)))]) := hD
  refine va_putF (D := D) (ci := 4) (v := .ref q3) (ty := .array .int) (C := RX4) (T := TX4) (N := 8) hx hb hts iw4 tyX4 tyX4_ok nmX4 hown hK.1 hP hD hS 0 rfl rfl 2 (by decide) k6 (fun _ h9 => h9) rfl hin rfl (tyX4_ok 2 (by decide)) rfl rfl (Nat.le_of_ble_eq_true rfl) dX4_init_25 (fun H locs hP hD hS => ?_)
  have hP : va_P D vwCl ([(spo, .inr (4, [.ref q1, .ref q2, .ref q3, .null, .null, .int 0, .int 0, .int 0])), (q1, .inl (κ 0, 30, .inl (fun _ => 0))), (q2, .inl (κ 0, 30, .inl (fun _ => 0))), (q3, .inl (κ 0, 7, .inl (fun _ => 0)))]) H := hP
  have hD : va_D A ([(spo, .inr (4, [.ref q1, .ref q2, .ref q3, .null, .null, .int 0, .int 0, .int 0])), (q1, .inl (κ 0, 30, .inl (fun _ => 0))), (q2, .inl (κ 0, 30, .inl (fun _ => 0))), (q3, .inl (κ 0, 7, .inl (fun _ => 0)))]) := hD
  refine lv_aload_n hx hb dX4_init_28 rfl (lv_at hl 0 rfl) ?_
  refine lv_bipush (v := 6) hx hb dX4_init_29 (by decide) ?_
  refine kr_newi (N := 6) hx hb hK k3 hP hD hS hA (by decide) (by decide) (Nat.le_of_ble_eq_true rfl) (Nat.le_of_ble_eq_true rfl) (Nat.le_of_ble_eq_true rfl) dX4_init_31 (fun q4 H hP hD hS => ?_)
  have hP : va_P D vwCl ([(spo, .inr (4, [.ref q1, .ref q2, .ref q3, .null, .null, .int 0, .int 0, .int 0])), (q1, .inl (κ 0, 30, .inl (fun _ => 0))), (q2, .inl (κ 0, 30, .inl (fun _ => 0))), (q3, .inl (κ 0, 7, .inl (fun _ => 0))), (q4, .inl (κ 0, 6, .inl (fun _ => 0)))]) H := hP
  have hD : va_D A ([(spo, .inr (4, [.ref q1, .ref q2, .ref q3, .null, .null, .int 0, .int 0, .int 0])), (q1, .inl (κ 0, 30, .inl (fun _ => 0))), (q2, .inl (κ 0, 30, .inl (fun _ => 0))), (q3, .inl (κ 0, 7, .inl (fun _ => 0))), (q4, .inl (κ 0, 6, .inl (fun _ => 0)))]) := hD
  refine va_putF (D := D) (ci := 4) (v := .ref q4) (ty := .array .int) (C := RX4) (T := TX4) (N := 8) hx hb hts iw4 tyX4 tyX4_ok nmX4 hown hK.1 hP hD hS 0 rfl rfl 3 (by decide) k7 (fun _ h9 => h9) rfl hin rfl (tyX4_ok 3 (by decide)) rfl rfl (Nat.le_of_ble_eq_true rfl) dX4_init_33 (fun H locs hP hD hS => ?_)
  have hP : va_P D vwCl ([(spo, .inr (4, [.ref q1, .ref q2, .ref q3, .ref q4, .null, .int 0, .int 0, .int 0])), (q1, .inl (κ 0, 30, .inl (fun _ => 0))), (q2, .inl (κ 0, 30, .inl (fun _ => 0))), (q3, .inl (κ 0, 7, .inl (fun _ => 0))), (q4, .inl (κ 0, 6, .inl (fun _ => 0)))]) H := hP
  have hD : va_D A ([(spo, .inr (4, [.ref q1, .ref q2, .ref q3, .ref q4, .null, .int 0, .int 0, .int 0])), (q1, .inl (κ 0, 30, .inl (fun _ => 0))), (q2, .inl (κ 0, 30, .inl (fun _ => 0))), (q3, .inl (κ 0, 7, .inl (fun _ => 0))), (q4, .inl (κ 0, 6, .inl (fun _ => 0)))]) := hD
  refine lv_aload_n hx hb dX4_init_36 rfl (lv_at hl 0 rfl) ?_
  refine lv_bipush (v := 6) hx hb dX4_init_37 (by decide) ?_
  refine kr_newi (N := 6) hx hb hK k3 hP hD hS hA (by decide) (by decide) (Nat.le_of_ble_eq_true rfl) (Nat.le_of_ble_eq_true rfl) (Nat.le_of_ble_eq_true rfl) dX4_init_39 (fun q5 H hP hD hS => ?_)
  have hP : va_P D vwCl ([(spo, .inr (4, [.ref q1, .ref q2, .ref q3, .ref q4, .null, .int 0, .int 0, .int 0])), (q1, .inl (κ 0, 30, .inl (fun _ => 0))), (q2, .inl (κ 0, 30, .inl (fun _ => 0))), (q3, .inl (κ 0, 7, .inl (fun _ => 0))), (q4, .inl (κ 0, 6, .inl (fun _ => 0))), (q5, .inl (κ 0, 6, .inl (fun _ => 0)))]) H := hP
  have hD : va_D A ([(spo, .inr (4, [.ref q1, .ref q2, .ref q3, .ref q4, .null, .int 0, .int 0, .int 0])), (q1, .inl (κ 0, 30, .inl (fun _ => 0))), (q2, .inl (κ 0, 30, .inl (fun _ => 0))), (q3, .inl (κ 0, 7, .inl (fun _ => 0))), (q4, .inl (κ 0, 6, .inl (fun _ => 0))), (q5, .inl (κ 0, 6, .inl (fun _ => 0)))]) := hD
  refine va_putF (D := D) (ci := 4) (v := .ref q5) (ty := .array .int) (C := RX4) (T := TX4) (N := 8) hx hb hts iw4 tyX4 tyX4_ok nmX4 hown hK.1 hP hD hS 0 rfl rfl 4 (by decide) k8 (fun _ h9 => h9) rfl hin rfl (tyX4_ok 4 (by decide)) rfl rfl (Nat.le_of_ble_eq_true rfl) dX4_init_41 (fun H locs hP hD hS => ?_)
  have hP : va_P D vwCl ([(spo, .inr (4, [.ref q1, .ref q2, .ref q3, .ref q4, .ref q5, .int 0, .int 0, .int 0])), (q1, .inl (κ 0, 30, .inl (fun _ => 0))), (q2, .inl (κ 0, 30, .inl (fun _ => 0))), (q3, .inl (κ 0, 7, .inl (fun _ => 0))), (q4, .inl (κ 0, 6, .inl (fun _ => 0))), (q5, .inl (κ 0, 6, .inl (fun _ => 0)))]) H := hP
  have hD : va_D A ([(spo, .inr (4, [.ref q1, .ref q2, .ref q3, .ref q4, .ref q5, .int 0, .int 0, .int 0])), (q1, .inl (κ 0, 30, .inl (fun _ => 0))), (q2, .inl (κ 0, 30, .inl (fun _ => 0))), (q3, .inl (κ 0, 7, .inl (fun _ => 0))), (q4, .inl (κ 0, 6, .inl (fun _ => 0))), (q5, .inl (κ 0, 6, .inl (fun _ => 0)))]) := hD
  exact hret (fun i => [q1, q2, q3, q4, q5].getD i 0) _ _ _ _ hP hD hS dX4_init_44

set_option maxHeartbeats 8000000 in
set_option maxRecDepth 100000 in
theorem tX5_init (l : Launch) (D : va_G) (κ : Nat → ClassId) (sto : Nat) : krN l yX5_init wsX5_init { frames := 1, cells := 2, slots := 12, locals := 100 } D κ [.ref sto] ([(sto, .inr (5, [.int 0, .int 0, .int 0, .int 0, .int 0, .null, .null]))]) (fun u => [(sto, .inr (5, [.int 0, .int 0, .int 0, .int 0, .int 0, .ref (u 0), .ref (u 1)])), ((u 0), .inl (κ 0, 6, .inl (fun _ => 0))), ((u 1), .inl (κ 0, 6, .inl (fun _ => 0)))]) 2 12 := by
  refine krN_of (cc := cX5_init) (maxL := 1) (by decide) rfl (Nat.le_of_ble_eq_true rfl) ?_
  intro p e s m args below meth c A Q ls hx hb hml hown hts hK hA hin hret hP hD hS hl
  have hin : meth.name = "<init>" := hin
  have hown : s.vm.findClass RX5 = some m.cls := hown
  have hl : lv_has ls 1 [(0, .ref sto)] := hl
  have iw5 : ∀ w ∈ u_ws RX5 TX5 7, w ∈ wsX5_init := (fun _ h => List.mem_cons_of_mem _ (List.mem_append_right _ h))
  have k0 : (Cond.methodLink RX5 3 objectInit).before args s = true := hts _ (List.mem_of_getElem? (i := 1) rfl)
  have k1 : (Cond.instanceMethod objectInit).before args s = true := hts _ (List.mem_of_getElem? (i := 2) rfl)
  have k2 : (Cond.code objectInit ⟨#[0xb1]⟩ 1 none).before args s = true := hts _ (List.mem_of_getElem? (i := 3) rfl)
  have k3 : (Cond.arrayClass .int).before args s = true := hts _ (List.mem_of_getElem? (i := 4) rfl)
  have k4 : (Cond.fieldLink RX5 9 "KingRansom$State" "goods" "[I").before args s = true := hts _ (List.mem_of_getElem? (i := 5) rfl)
  have k5 : (Cond.fieldLink RX5 15 "KingRansom$State" "rates" "[I").before args s = true := hts _ (List.mem_of_getElem? (i := 6) rfl)
  refine lv_aload_n hx hb dX5_init_0 rfl (lv_at hl 0 rfl) ?_
  refine W.objInit hx hb hown k0 k1 k2 rfl (by rw [hml]; exact hl.1) rfl dX5_init_1 (Nat.le_of_ble_eq_true rfl) (Nat.le_of_ble_eq_true rfl) ?_
  refine W.eq (g2 := F0 m 4 ls []) rfl ?_
  refine lv_aload_n hx hb dX5_init_4 rfl (lv_at hl 0 rfl) ?_
  refine lv_bipush (v := 6) hx hb dX5_init_5 (by decide) ?_
  refine kr_newi (N := 6) hx hb hK k3 hP hD hS hA (by decide) (by decide) (Nat.le_of_ble_eq_true rfl) (Nat.le_of_ble_eq_true rfl) (Nat.le_of_ble_eq_true rfl) dX5_init_7 (fun q1 H hP hD hS => ?_)
  have hP : va_P D vwCl ([(sto, .inr (5, [.int 0, .int 0, .int 0, .int 0, .int 0, .null, .null])), (q1, .inl (κ 0, 6, .inl (fun _ => 0)))]) H := hP
  have hD : va_D A ([(sto, .inr (5, [.int 0, .int 0, .int 0, .int 0, .int 0, .null, .null])), (q1, .inl (κ 0, 6, .inl (fun _ => 0)))]) := hD
  refine va_putF (D := D) (ci := 5) (v := .ref q1) (ty := .array .int) (C := RX5) (T := TX5) (N := 7) hx hb hts iw5 tyX5 tyX5_ok nmX5 hown hK.1 hP hD hS 0 rfl rfl 5 (by decide) k4 (fun _ h9 => h9) rfl hin rfl (tyX5_ok 5 (by decide)) rfl rfl (Nat.le_of_ble_eq_true rfl) dX5_init_9 (fun H locs hP hD hS => ?_)
  have hP : va_P D vwCl ([(sto, .inr (5, [.int 0, .int 0, .int 0, .int 0, .int 0, .ref q1, .null])), (q1, .inl (κ 0, 6, .inl (fun _ => 0)))]) H := hP
  have hD : va_D A ([(sto, .inr (5, [.int 0, .int 0, .int 0, .int 0, .int 0, .ref q1, .null])), (q1, .inl (κ 0, 6, .inl (fun _ => 0)))]) := hD
  refine lv_aload_n hx hb dX5_init_12 rfl (lv_at hl 0 rfl) ?_
  refine lv_bipush (v := 6) hx hb dX5_init_13 (by decide) ?_
  refine kr_newi (N := 6) hx hb hK k3 hP hD hS hA (by decide) (by decide) (Nat.le_of_ble_eq_true rfl) (Nat.le_of_ble_eq_true rfl) (Nat.le_of_ble_eq_true rfl) dX5_init_15 (fun q2 H hP hD hS => ?_)
  have hP : va_P D vwCl ([(sto, .inr (5, [.int 0, .int 0, .int 0, .int 0, .int 0, .ref q1, .null])), (q1, .inl (κ 0, 6, .inl (fun _ => 0))), (q2, .inl (κ 0, 6, .inl (fun _ => 0)))]) H := hP
  have hD : va_D A ([(sto, .inr (5, [.int 0, .int 0, .int 0, .int 0, .int 0, .ref q1, .null])), (q1, .inl (κ 0, 6, .inl (fun _ => 0))), (q2, .inl (κ 0, 6, .inl (fun _ => 0)))]) := hD
  refine va_putF (D := D) (ci := 5) (v := .ref q2) (ty := .array .int) (C := RX5) (T := TX5) (N := 7) hx hb hts iw5 tyX5 tyX5_ok nmX5 hown hK.1 hP hD hS 0 rfl rfl 6 (by decide) k5 (fun _ h9 => h9) rfl hin rfl (tyX5_ok 6 (by decide)) rfl rfl (Nat.le_of_ble_eq_true rfl) dX5_init_17 (fun H locs hP hD hS => ?_)
  have hP : va_P D vwCl ([(sto, .inr (5, [.int 0, .int 0, .int 0, .int 0, .int 0, .ref q1, .ref q2])), (q1, .inl (κ 0, 6, .inl (fun _ => 0))), (q2, .inl (κ 0, 6, .inl (fun _ => 0)))]) H := hP
  have hD : va_D A ([(sto, .inr (5, [.int 0, .int 0, .int 0, .int 0, .int 0, .ref q1, .ref q2])), (q1, .inl (κ 0, 6, .inl (fun _ => 0))), (q2, .inl (κ 0, 6, .inl (fun _ => 0)))]) := hD
  exact hret (fun i => [q1, q2].getD i 0) _ _ _ _ hP hD hS dX5_init_20

set_option maxHeartbeats 8000000 in
set_option maxRecDepth 100000 in
theorem tX6_init (l : Launch) (D : va_G) (κ : Nat → ClassId) (tlo : Nat) : krN l yX6_init wsX6_init { frames := 1, cells := 4, slots := 27, locals := 100 } D κ [.ref tlo] ([(tlo, .inr (6, [.int 0, .int 0, .int 0, .int 0, .int 0, .int 0, .int 0, .int 0, .null, .null, .null, .null]))]) (fun u => [(tlo, .inr (6, [.int 0, .int 0, .int 0, .int 0, .int 0, .int 0, .int 0, .int 0, .ref (u 0), .ref (u 1), .ref (u 2), .ref (u 3)])), ((u 0), .inl (κ 0, 6, .inl (fun _ => 0))), ((u 1), .inl (κ 0, 6, .inl (fun _ => 0))), ((u 2), .inl (κ 0, 9, .inl (fun _ => 0))), ((u 3), .inl (κ 0, 6, .inl (fun _ => 0)))]) 4 27 := by
  refine krN_of (cc := cX6_init) (maxL := 1) (by decide) rfl (Nat.le_of_ble_eq_true rfl) ?_
  intro p e s m args below meth c A Q ls hx hb hml hown hts hK hA hin hret hP hD hS hl
  have hin : meth.name = "<init>" := hin
  have hown : s.vm.findClass RX6 = some m.cls := hown
  have hl : lv_has ls 1 [(0, .ref tlo)] := hl
  have iw6 : ∀ w ∈ u_ws RX6 TX6 12, w ∈ wsX6_init := (fun _ h => List.mem_cons_of_mem _ (List.mem_append_right _ h))
  have k0 : (Cond.methodLink RX6 3 objectInit).before args s = true := hts _ (List.mem_of_getElem? (i := 1) rfl)
  have k1 : (Cond.instanceMethod objectInit).before args s = true := hts _ (List.mem_of_getElem? (i := 2) rfl)
  have k2 : (Cond.code objectInit ⟨#[0xb1]⟩ 1 none).before args s = true := hts _ (List.mem_of_getElem? (i := 3) rfl)
  have k3 : (Cond.arrayClass .int).before args s = true := hts _ (List.mem_of_getElem? (i := 4) rfl)
  have k4 : (Cond.fieldLink RX6 9 "KingRansom$Tale" "goods" "[I").before args s = true := hts _ (List.mem_of_getElem? (i := 5) rfl)
  have k5 : (Cond.fieldLink RX6 15 "KingRansom$Tale" "shy" "[I").before args s = true := hts _ (List.mem_of_getElem? (i := 6) rfl)
  have k6 : (Cond.fieldLink RX6 18 "KingRansom$Tale" "bidOf" "[I").before args s = true := hts _ (List.mem_of_getElem? (i := 7) rfl)
  have k7 : (Cond.fieldLink RX6 21 "KingRansom$Tale" "daysOf" "[I").before args s = true := hts _ (List.mem_of_getElem? (i := 8) rfl)
  refine lv_aload_n hx hb dX6_init_0 rfl (lv_at hl 0 rfl) ?_
  refine W.objInit hx hb hown k0 k1 k2 rfl (by rw [hml]; exact hl.1) rfl dX6_init_1 (Nat.le_of_ble_eq_true rfl) (Nat.le_of_ble_eq_true rfl) ?_
  refine W.eq (g2 := F0 m 4 ls []) rfl ?_
  refine lv_aload_n hx hb dX6_init_4 rfl (lv_at hl 0 rfl) ?_
  refine lv_bipush (v := 6) hx hb dX6_init_5 (by decide) ?_
  refine kr_newi (N := 6) hx hb hK k3 hP hD hS hA (by decide) (by decide) (Nat.le_of_ble_eq_true rfl) (Nat.le_of_ble_eq_true rfl) (Nat.le_of_ble_eq_true rfl) dX6_init_7 (fun q1 H hP hD hS => ?_)
  have hP : va_P D vwCl ([(tlo, .inr (6, [.int 0, .int 0, .int 0, .int 0, .int 0, .int 0, .int 0, .int 0, .null, .null, .null, .null])), (q1, .inl (κ 0, 6, .inl (fun _ => 0)))]) H := hP
  have hD : va_D A ([(tlo, .inr (6, [.int 0, .int 0, .int 0, .int 0, .int 0, .int 0, .int 0, .int 0, .null, .null, .null, .null])), (q1, .inl (κ 0, 6, .inl (fun _ => 0)))]) := hD
  refine va_putF (D := D) (ci := 6) (v := .ref q1) (ty := .array .int) (C := RX6) (T := TX6) (N := 12) hx hb hts iw6 tyX6 tyX6_ok nmX6 hown hK.1 hP hD hS 0 rfl rfl 8 (by decide) k4 (fun _ h9 => h9) rfl hin rfl (tyX6_ok 8 (by decide)) rfl rfl (Nat.le_of_ble_eq_true rfl) dX6_init_9 (fun H locs hP hD hS => ?_)
  have hP : va_P D vwCl ([(tlo, .inr (6, [.int 0, .int 0, .int 0, .int 0, .int 0, .int 0, .int 0, .int 0, .ref q1, .null, .null, .null])), (q1, .inl (κ 0, 6, .inl (fun _ => 0)))]) H := hP
  have hD : va_D A ([(tlo, .inr (6, [.int 0, .int 0, .int 0, .int 0, .int 0, .int 0, .int 0, .int 0, .ref q1, .null, .null, .null])), (q1, .inl (κ 0, 6, .inl (fun _ => 0)))]) := hD
  refine lv_aload_n hx hb dX6_init_12 rfl (lv_at hl 0 rfl) ?_
  refine lv_bipush (v := 6) hx hb dX6_init_13 (by decide) ?_
  refine kr_newi (N := 6) hx hb hK k3 hP hD hS hA (by decide) (by decide) (Nat.le_of_ble_eq_true rfl) (Nat.le_of_ble_eq_true rfl) (Nat.le_of_ble_eq_true rfl) dX6_init_15 (fun q2 H hP hD hS => ?_)
  have hP : va_P D vwCl ([(tlo, .inr (6, [.int 0, .int 0, .int 0, .int 0, .int 0, .int 0, .int 0, .int 0, .ref q1, .null, .null, .null])), (q1, .inl (κ 0, 6, .inl (fun _ => 0))), (q2, .inl (κ 0, 6, .inl (fun _ => 0)))]) H := hP
  have hD : va_D A ([(tlo, .inr (6, [.int 0, .int 0, .int 0, .int 0, .int 0, .int 0, .int 0, .int 0, .ref q1, .null, .null, .null])), (q1, .inl (κ 0, 6, .inl (fun _ => 0))), (q2, .inl (κ 0, 6, .inl (fun _ => 0)))]) := hD
  refine va_putF (D := D) (ci := 6) (v := .ref q2) (ty := .array .int) (C := RX6) (T := TX6) (N := 12) hx hb hts iw6 tyX6 tyX6_ok nmX6 hown hK.1 hP hD hS 0 rfl rfl 9 (by decide) k5 (fun _ h9 => h9) rfl hin rfl (tyX6_ok 9 (by decide)) rfl rfl (Nat.le_of_ble_eq_true rfl) dX6_init_17 (fun H locs hP hD hS => ?_)
  have hP : va_P D vwCl ([(tlo, .inr (6, [.int 0, .int 0, .int 0, .int 0, .int 0, .int 0, .int 0, .int 0, .ref q1, .ref q2, .null, .null])), (q1, .inl (κ 0, 6, .inl (fun _ => 0))), (q2, .inl (κ 0, 6, .inl (fun _ => 0)))]) H := hP
  have hD : va_D A ([(tlo, .inr (6, [.int 0, .int 0, .int 0, .int 0, .int 0, .int 0, .int 0, .int 0, .ref q1, .ref q2, .null, .null])), (q1, .inl (κ 0, 6, .inl (fun _ => 0))), (q2, .inl (κ 0, 6, .inl (fun _ => 0)))]) := hD
  refine lv_aload_n hx hb dX6_init_20 rfl (lv_at hl 0 rfl) ?_
  refine lv_bipush (v := 9) hx hb dX6_init_21 (by decide) ?_
  refine kr_newi (N := 9) hx hb hK k3 hP hD hS hA (by decide) (by decide) (Nat.le_of_ble_eq_true rfl) (Nat.le_of_ble_eq_true rfl) (Nat.le_of_ble_eq_true rfl) dX6_init_23 (fun q3 H hP hD hS => ?_)
  have hP : va_P D vwCl ([(tlo, .inr (6, [.int 0, .int 0, .int 0, .int 0, .int 0, .int 0, .int 0, .int 0, .ref q1, .ref q2, .null, .null])), (q1, .inl (κ 0, 6, .inl (fun _ => 0))), (q2, .inl (κ 0, 6, .inl (fun _ => 0))), (q3, .inl (κ 0, 9, .inl (fun _ => 0)))]) H := hP
  have hD : va_D A ([(tlo, .inr (6, [.int 0, .int 0, .int 0, .int 0, .int 0, .int 0, .int 0, .int 0, .ref q1, .ref q2, .null, .null])), (q1, .inl (κ 0, 6, .inl (fun _ => 0))), (q2, .inl (κ 0, 6, .inl (fun _ => 0))), (q3, .inl (κ 0, 9, .inl (fun _ => 0)))]) := hD
  refine va_putF (D := D) (ci := 6) (v := .ref q3) (ty := .array .int) (C := RX6) (T := TX6) (N := 12) hx hb hts iw6 tyX6 tyX6_ok nmX6 hown hK.1 hP hD hS 0 rfl rfl 10 (by decide) k6 (fun _ h9 => h9) rfl hin rfl (tyX6_ok 10 (by decide)) rfl rfl (Nat.le_of_ble_eq_true rfl) dX6_init_25 (fun H locs hP hD hS => ?_)
  have hP : va_P D vwCl ([(tlo, .inr (6, [.int 0, .int 0, .int 0, .int 0, .int 0, .int 0, .int 0, .int 0, .ref q1, .ref q2, .ref q3, .null])), (q1, .inl (κ 0, 6, .inl (fun _ => 0))), (q2, .inl (κ 0, 6, .inl (fun _ => 0))), (q3, .inl (κ 0, 9, .inl (fun _ => 0)))]) H := hP
  have hD : va_D A ([(tlo, .inr (6, [.int 0, .int 0, .int 0, .int 0, .int 0, .int 0, .int 0, .int 0, .ref q1, .ref q2, .ref q3, .null])), (q1, .inl (κ 0, 6, .inl (fun _ => 0))), (q2, .inl (κ 0, 6, .inl (fun _ => 0))), (q3, .inl (κ 0, 9, .inl (fun _ => 0)))]) := hD
  refine lv_aload_n hx hb dX6_init_28 rfl (lv_at hl 0 rfl) ?_
  refine lv_bipush (v := 6) hx hb dX6_init_29 (by decide) ?_
  refine kr_newi (N := 6) hx hb hK k3 hP hD hS hA (by decide) (by decide) (Nat.le_of_ble_eq_true rfl) (Nat.le_of_ble_eq_true rfl) (Nat.le_of_ble_eq_true rfl) dX6_init_31 (fun q4 H hP hD hS => ?_)
  have hP : va_P D vwCl ([(tlo, .inr (6, [.int 0, .int 0, .int 0, .int 0, .int 0, .int 0, .int 0, .int 0, .ref q1, .ref q2, .ref q3, .null])), (q1, .inl (κ 0, 6, .inl (fun _ => 0))), (q2, .inl (κ 0, 6, .inl (fun _ => 0))), (q3, .inl (κ 0, 9, .inl (fun _ => 0))), (q4, .inl (κ 0, 6, .inl (fun _ => 0)))]) H := hP
  have hD : va_D A ([(tlo, .inr (6, [.int 0, .int 0, .int 0, .int 0, .int 0, .int 0, .int 0, .int 0, .ref q1, .ref q2, .ref q3, .null])), (q1, .inl (κ 0, 6, .inl (fun _ => 0))), (q2, .inl (κ 0, 6, .inl (fun _ => 0))), (q3, .inl (κ 0, 9, .inl (fun _ => 0))), (q4, .inl (κ 0, 6, .inl (fun _ => 0)))]) := hD
  refine va_putF (D := D) (ci := 6) (v := .ref q4) (ty := .array .int) (C := RX6) (T := TX6) (N := 12) hx hb hts iw6 tyX6 tyX6_ok nmX6 hown hK.1 hP hD hS 0 rfl rfl 11 (by decide) k7 (fun _ h9 => h9) rfl hin rfl (tyX6_ok 11 (by decide)) rfl rfl (Nat.le_of_ble_eq_true rfl) dX6_init_33 (fun H locs hP hD hS => ?_)
  have hP : va_P D vwCl ([(tlo, .inr (6, [.int 0, .int 0, .int 0, .int 0, .int 0, .int 0, .int 0, .int 0, .ref q1, .ref q2, .ref q3, .ref q4])), (q1, .inl (κ 0, 6, .inl (fun _ => 0))), (q2, .inl (κ 0, 6, .inl (fun _ => 0))), (q3, .inl (κ 0, 9, .inl (fun _ => 0))), (q4, .inl (κ 0, 6, .inl (fun _ => 0)))]) H := hP
  have hD : va_D A ([(tlo, .inr (6, [.int 0, .int 0, .int 0, .int 0, .int 0, .int 0, .int 0, .int 0, .ref q1, .ref q2, .ref q3, .ref q4])), (q1, .inl (κ 0, 6, .inl (fun _ => 0))), (q2, .inl (κ 0, 6, .inl (fun _ => 0))), (q3, .inl (κ 0, 9, .inl (fun _ => 0))), (q4, .inl (κ 0, 6, .inl (fun _ => 0)))]) := hD
  exact hret (fun i => [q1, q2, q3, q4].getD i 0) _ _ _ _ hP hD hS dX6_init_36

set_option maxHeartbeats 8000000 in
set_option maxRecDepth 100000 in
theorem tX7_init (l : Launch) (D : va_G) (κ : Nat → ClassId) (txo : Nat) : krN l yX7_init wsX7_init { frames := 1, cells := 1, slots := 240, locals := 100 } D κ [.ref txo] ([(txo, .inr (7, [.null, .int 0, .int 0, .int 0, .int 0]))]) (fun u => [(txo, .inr (7, [.ref (u 0), .int 0, .int 0, .int 0, .int (-1)])), ((u 0), .inl (κ 0, 240, .inl (fun _ => 0)))]) 1 240 := by
  refine krN_of (cc := cX7_init) (maxL := 1) (by decide) rfl (Nat.le_of_ble_eq_true rfl) ?_
  intro p e s m args below meth c A Q ls hx hb hml hown hts hK hA hin hret hP hD hS hl
  have hin : meth.name = "<init>" := hin
  have hown : s.vm.findClass RX7 = some m.cls := hown
  have hl : lv_has ls 1 [(0, .ref txo)] := hl
  have iw7 : ∀ w ∈ u_ws RX7 TX7 5, w ∈ wsX7_init := (fun _ h => List.mem_cons_of_mem _ (List.mem_append_right _ h))
  have k0 : (Cond.methodLink RX7 3 objectInit).before args s = true := hts _ (List.mem_of_getElem? (i := 1) rfl)
  have k1 : (Cond.instanceMethod objectInit).before args s = true := hts _ (List.mem_of_getElem? (i := 2) rfl)
  have k2 : (Cond.code objectInit ⟨#[0xb1]⟩ 1 none).before args s = true := hts _ (List.mem_of_getElem? (i := 3) rfl)
  have k3 : (Cond.arrayClass .int).before args s = true := hts _ (List.mem_of_getElem? (i := 4) rfl)
  have k4 : (Cond.fieldLink RX7 9 "KingRansom$Text" "signs" "[I").before args s = true := hts _ (List.mem_of_getElem? (i := 5) rfl)
  have k5 : (Cond.fieldLink RX7 15 "KingRansom$Text" "place" "I").before args s = true := hts _ (List.mem_of_getElem? (i := 6) rfl)
  refine lv_aload_n hx hb dX7_init_0 rfl (lv_at hl 0 rfl) ?_
  refine W.objInit hx hb hown k0 k1 k2 rfl (by rw [hml]; exact hl.1) rfl dX7_init_1 (Nat.le_of_ble_eq_true rfl) (Nat.le_of_ble_eq_true rfl) ?_
  refine W.eq (g2 := F0 m 4 ls []) rfl ?_
  refine lv_aload_n hx hb dX7_init_4 rfl (lv_at hl 0 rfl) ?_
  refine lv_sipush (v := 240) hx hb dX7_init_5 (by decide) ?_
  refine kr_newi (N := 240) hx hb hK k3 hP hD hS hA (by decide) (by decide) (Nat.le_of_ble_eq_true rfl) (Nat.le_of_ble_eq_true rfl) (Nat.le_of_ble_eq_true rfl) dX7_init_8 (fun q1 H hP hD hS => ?_)
  have hP : va_P D vwCl ([(txo, .inr (7, [.null, .int 0, .int 0, .int 0, .int 0])), (q1, .inl (κ 0, 240, .inl (fun _ => 0)))]) H := hP
  have hD : va_D A ([(txo, .inr (7, [.null, .int 0, .int 0, .int 0, .int 0])), (q1, .inl (κ 0, 240, .inl (fun _ => 0)))]) := hD
  refine va_putF (D := D) (ci := 7) (v := .ref q1) (ty := .array .int) (C := RX7) (T := TX7) (N := 5) hx hb hts iw7 tyX7 tyX7_ok nmX7 hown hK.1 hP hD hS 0 rfl rfl 0 (by decide) k4 (fun _ h9 => h9) rfl hin rfl (tyX7_ok 0 (by decide)) rfl rfl (Nat.le_of_ble_eq_true rfl) dX7_init_10 (fun H locs hP hD hS => ?_)
  have hP : va_P D vwCl ([(txo, .inr (7, [.ref q1, .int 0, .int 0, .int 0, .int 0])), (q1, .inl (κ 0, 240, .inl (fun _ => 0)))]) H := hP
  have hD : va_D A ([(txo, .inr (7, [.ref q1, .int 0, .int 0, .int 0, .int 0])), (q1, .inl (κ 0, 240, .inl (fun _ => 0)))]) := hD
  refine lv_aload_n hx hb dX7_init_13 rfl (lv_at hl 0 rfl) ?_
  refine lv_iconst (v := (-1)) hx hb dX7_init_14 (by decide) ?_
  refine va_put (D := D) (ci := 7) (v := .int (-1)) (ty := .int) (C := RX7) (T := TX7) (N := 5) hx hb hts iw7 tyX7 tyX7_ok nmX7 hown hK.1 hP hD hS 0 rfl rfl 4 (by decide) k5 (fun _ h9 => h9) rfl (tyX7_ok 4 (by decide)) rfl rfl (Nat.le_of_ble_eq_true rfl) dX7_init_15 (fun H locs hP hD hS => ?_)
  have hP : va_P D vwCl ([(txo, .inr (7, [.ref q1, .int 0, .int 0, .int 0, .int (-1)])), (q1, .inl (κ 0, 240, .inl (fun _ => 0)))]) H := hP
  have hD : va_D A ([(txo, .inr (7, [.ref q1, .int 0, .int 0, .int 0, .int (-1)])), (q1, .inl (κ 0, 240, .inl (fun _ => 0)))]) := hD
  exact hret (fun i => [q1].getD i 0) _ _ _ _ hP hD hS dX7_init_18

set_option maxHeartbeats 8000000 in
set_option maxRecDepth 100000 in
theorem tX1_init (l : Launch) (D : va_G) (κ : Nat → ClassId) (imo : Nat) : krN l yX1_init wsX1_init { frames := 2, cells := 3, slots := 19, locals := 200 } D κ [.ref imo] ([(imo, .inr (1, [.int 0, .int 0, .null]))]) (fun u => [(imo, .inr (1, [.int 0, .int 0, .ref (u 0)])), ((u 0), .inr (5, [.int 0, .int 0, .int 0, .int 0, .int 0, .ref (u 1), .ref (u 2)])), ((u 1), .inl (κ 0, 6, .inl (fun _ => 0))), ((u 2), .inl (κ 0, 6, .inl (fun _ => 0)))]) 3 19 := by
  refine krN_of (cc := cX1_init) (maxL := 1) (by decide) rfl (Nat.le_of_ble_eq_true rfl) ?_
  intro p e s m args below meth c A Q ls hx hb hml hown hts hK hA hin hret hP hD hS hl
  have hin : meth.name = "<init>" := hin
  have hown : s.vm.findClass RX1 = some m.cls := hown
  have hl : lv_has ls 1 [(0, .ref imo)] := hl
  have iw5 : ∀ w ∈ u_ws RX5 TX5 7, w ∈ wsX1_init := (fun _ h => List.mem_cons_of_mem _ (List.mem_append_left _ (List.mem_append_right _ h)))
  have iw1 : ∀ w ∈ u_ws RX1 TX1 3, w ∈ wsX1_init := (fun _ h => List.mem_cons_of_mem _ (List.mem_append_right _ h))
  have k0 : (Cond.methodLink RX1 1 objectInit).before args s = true := hts _ (List.mem_of_getElem? (i := 1) rfl)
  have k1 : (Cond.instanceMethod objectInit).before args s = true := hts _ (List.mem_of_getElem? (i := 2) rfl)
  have k2 : (Cond.code objectInit ⟨#[0xb1]⟩ 1 none).before args s = true := hts _ (List.mem_of_getElem? (i := 3) rfl)
  have k3 : (Cond.classLink RX1 7 RX5).before args s = true := hts _ (List.mem_of_getElem? (i := 4) rfl)
  have k4 : (Cond.instantiable RX5 7).before args s = true := hts _ (List.mem_of_getElem? (i := 5) rfl)
  have k5 : (Cond.initialized RX5).before args s = true := hts _ (List.mem_of_getElem? (i := 6) rfl)
  have k6 : (Cond.instanceMethod yX5_init).before args s = true := hts _ (List.mem_of_getElem? (i := 8) rfl)
  have k7 : (Cond.fieldLink RX1 10 "KingRansom$Image" "state" "LKingRansom$State;").before args s = true := hts _ (List.mem_of_getElem? (i := 7) rfl)
  refine lv_aload_n hx hb dX1_init_0 rfl (lv_at hl 0 rfl) ?_
  refine W.objInit hx hb hown k0 k1 k2 rfl (by rw [hml]; exact hl.1) rfl dX1_init_1 (Nat.le_of_ble_eq_true rfl) (Nat.le_of_ble_eq_true rfl) ?_
  refine W.eq (g2 := F0 m 4 ls []) rfl ?_
  refine lv_aload_n hx hb dX1_init_4 rfl (lv_at hl 0 rfl) ?_
  refine va_new (ci := 5) (fs := [.int 0, .int 0, .int 0, .int 0, .int 0, .null, .null]) (C := RX5) (T := TX5) (N := 7) hx hb hts iw5 tyX5 tyX5_ok hown k3 k4 k5 hK.1 hP hD hS hA rfl dfX5 (Nat.le_of_ble_eq_true rfl) (Nat.le_of_ble_eq_true rfl) dX1_init_5 (fun q1 H hP hD hS => ?_)
  have hP : va_P D vwCl ([(imo, .inr (1, [.int 0, .int 0, .null])), (q1, .inr (5, [.int 0, .int 0, .int 0, .int 0, .int 0, .null, .null]))]) H := hP
  have hD : va_D A ([(imo, .inr (1, [.int 0, .int 0, .null])), (q1, .inr (5, [.int 0, .int 0, .int 0, .int 0, .int 0, .null, .null]))]) := hD
  refine lv_dup hx hb dX1_init_8 rfl ?_
  refine krN_IN (As := []) (rest := [.ref q1, .ref imo]) (wr := [(imo, .inr (1, [.int 0, .int 0, .null]))]) ⟨hx, hb, hml, hown, hts⟩ hK (tX5_init l D κ q1) ⟨va_cnB 0 hts gX1_init_X5_init_n9 rfl rfl rfl (hK.ml 9 rfl) k5 (by decide +kernel) ⟨(Nat.le_of_ble_eq_true rfl), (Nat.le_of_ble_eq_true rfl)⟩, rfl, k6⟩ hP hD hS hA [1] [0] rfl rfl rfl rfl (by decide) rfl hl.1 rfl (Nat.le_of_ble_eq_true rfl) dX1_init_9 ⟨(Nat.le_of_ble_eq_true rfl), (Nat.le_of_ble_eq_true rfl)⟩ (fun u2 H locs hP hD hS => ?_)
  have hP : va_P D vwCl ([(imo, .inr (1, [.int 0, .int 0, .null])), (q1, .inr (5, [.int 0, .int 0, .int 0, .int 0, .int 0, .ref (u2 0), .ref (u2 1)])), ((u2 0), .inl (κ 0, 6, .inl (fun _ => 0))), ((u2 1), .inl (κ 0, 6, .inl (fun _ => 0)))]) H := hP
  have hD : va_D A ([(imo, .inr (1, [.int 0, .int 0, .null])), (q1, .inr (5, [.int 0, .int 0, .int 0, .int 0, .int 0, .ref (u2 0), .ref (u2 1)])), ((u2 0), .inl (κ 0, 6, .inl (fun _ => 0))), ((u2 1), .inl (κ 0, 6, .inl (fun _ => 0)))]) := hD
  refine va_putF (D := D) (ci := 1) (v := .ref q1) (ty := .object "KingRansom$State") (C := RX1) (T := TX1) (N := 3) hx hb hts iw1 tyX1 tyX1_ok nmX1 hown hK.1 hP hD hS 0 rfl rfl 2 (by decide) k7 (fun _ h9 => h9) rfl hin rfl (tyX1_ok 2 (by decide)) rfl rfl (Nat.le_of_ble_eq_true rfl) dX1_init_12 (fun H locs hP hD hS => ?_)
  have hP : va_P D vwCl ([(imo, .inr (1, [.int 0, .int 0, .ref q1])), (q1, .inr (5, [.int 0, .int 0, .int 0, .int 0, .int 0, .ref (u2 0), .ref (u2 1)])), ((u2 0), .inl (κ 0, 6, .inl (fun _ => 0))), ((u2 1), .inl (κ 0, 6, .inl (fun _ => 0)))]) H := hP
  have hD : va_D A ([(imo, .inr (1, [.int 0, .int 0, .ref q1])), (q1, .inr (5, [.int 0, .int 0, .int 0, .int 0, .int 0, .ref (u2 0), .ref (u2 1)])), ((u2 0), .inl (κ 0, 6, .inl (fun _ => 0))), ((u2 1), .inl (κ 0, 6, .inl (fun _ => 0)))]) := hD
  exact hret (fun i => [q1, (u2 0), (u2 1)].getD i 0) _ _ _ _ hP hD hS dX1_init_15

set_option maxHeartbeats 8000000 in
set_option maxRecDepth 100000 in
theorem tX9_init (l : Launch) (D : va_G) (κ : Nat → ClassId) (moo : Nat) : krN l yX9_init wsX9_init { frames := 1, cells := 11, slots := 768, locals := 100 } D κ [.ref moo] ([(moo, .inr (9, [.null, .null, .int 0, .int 0, .null, .int 0, .int 0, .int 0, .int 0, .int 0, .null, .null, .int 0, .null, .null, .int 0, .null, .int 0, .null, .null, .null]))]) (fun u => [(moo, .inr (9, [.ref (u 0), .ref (u 1), .int 0, .int 0, .ref (u 2), .int 0, .int (-1), .int 0, .int 0, .int 0, .ref (u 3), .ref (u 4), .int 0, .ref (u 5), .ref (u 6), .int 0, .ref (u 7), .int 0, .ref (u 8), .ref (u 9), .ref (u 10)])), ((u 0), .inl (κ 0, 37, .inl (fun _ => 0))), ((u 1), .inl (κ 0, 17, .inl (fun _ => 0))), ((u 2), .inl (κ 0, 240, .inl (fun _ => 0))), ((u 3), .inl (κ 0, 37, .inl (fun _ => 0))), ((u 4), .inl (κ 0, 340, .inl (fun _ => 0))), ((u 5), .inl (κ 0, 17, .inl (fun _ => 0))), ((u 6), .inl (κ 0, 12, .inl (fun _ => 0))), ((u 7), .inl (κ 0, 30, .inl (fun _ => 0))), ((u 8), .inl (κ 1, 2, .inl (fun _ => 0))), ((u 9), .inl (κ 0, 34, .inl (fun _ => 0))), ((u 10), .inl (κ 0, 2, .inl (fun _ => 0)))]) 11 768 := by
  refine krN_of (cc := cX9_init) (maxL := 1) (by decide) rfl (Nat.le_of_ble_eq_true rfl) ?_
  intro p e s m args below meth c A Q ls hx hb hml hown hts hK hA hin hret hP hD hS hl
  have hin : meth.name = "<init>" := hin
  have hown : s.vm.findClass RX9 = some m.cls := hown
  have hl : lv_has ls 1 [(0, .ref moo)] := hl
  have iw9 : ∀ w ∈ u_ws RX9 TX9 21, w ∈ wsX9_init := (fun _ h => List.mem_cons_of_mem _ (List.mem_append_right _ h))
  have k0 : (Cond.methodLink RX9 1 objectInit).before args s = true := hts _ (List.mem_of_getElem? (i := 1) rfl)
  have k1 : (Cond.instanceMethod objectInit).before args s = true := hts _ (List.mem_of_getElem? (i := 2) rfl)
  have k2 : (Cond.code objectInit ⟨#[0xb1]⟩ 1 none).before args s = true := hts _ (List.mem_of_getElem? (i := 3) rfl)
  have k3 : (Cond.arrayClass .int).before args s = true := hts _ (List.mem_of_getElem? (i := 4) rfl)
  have k4 : (Cond.fieldLink RX9 7 "KingRansomModel" "told" "[I").before args s = true := hts _ (List.mem_of_getElem? (i := 5) rfl)
  have k5 : (Cond.fieldLink RX9 13 "KingRansomModel" "st" "[I").before args s = true := hts _ (List.mem_of_getElem? (i := 6) rfl)
  have k6 : (Cond.fieldLink RX9 16 "KingRansomModel" "text" "[I").before args s = true := hts _ (List.mem_of_getElem? (i := 7) rfl)
  have k7 : (Cond.fieldLink RX9 19 "KingRansomModel" "faultAt" "I").before args s = true := hts _ (List.mem_of_getElem? (i := 8) rfl)
  have k8 : (Cond.fieldLink RX9 23 "KingRansomModel" "read" "[I").before args s = true := hts _ (List.mem_of_getElem? (i := 9) rfl)
  have k9 : (Cond.fieldLink RX9 26 "KingRansomModel" "ahead" "[I").before args s = true := hts _ (List.mem_of_getElem? (i := 10) rfl)
  have k10 : (Cond.fieldLink RX9 29 "KingRansomModel" "aside" "[I").before args s = true := hts _ (List.mem_of_getElem? (i := 11) rfl)
  have k11 : (Cond.fieldLink RX9 32 "KingRansomModel" "weighings" "[I").before args s = true := hts _ (List.mem_of_getElem? (i := 12) rfl)
  have k12 : (Cond.fieldLink RX9 35 "KingRansomModel" "book" "[I").before args s = true := hts _ (List.mem_of_getElem? (i := 13) rfl)
  have k13 : (Cond.arrayClass .boolean).before args s = true := hts _ (List.mem_of_getElem? (i := 14) rfl)
  have k14 : (Cond.fieldLink RX9 38 "KingRansomModel" "isKept" "[Z").before args s = true := hts _ (List.mem_of_getElem? (i := 15) rfl)
  have k15 : (Cond.fieldLink RX9 42 "KingRansomModel" "kept" "[I").before args s = true := hts _ (List.mem_of_getElem? (i := 16) rfl)
  have k16 : (Cond.fieldLink RX9 45 "KingRansomModel" "seeds" "[I").before args s = true := hts _ (List.mem_of_getElem? (i := 17) rfl)
  refine lv_aload_n hx hb dX9_init_0 rfl (lv_at hl 0 rfl) ?_
  refine W.objInit hx hb hown k0 k1 k2 rfl (by rw [hml]; exact hl.1) rfl dX9_init_1 (Nat.le_of_ble_eq_true rfl) (Nat.le_of_ble_eq_true rfl) ?_
  refine W.eq (g2 := F0 m 4 ls []) rfl ?_
  refine lv_aload_n hx hb dX9_init_4 rfl (lv_at hl 0 rfl) ?_
  refine lv_bipush (v := 37) hx hb dX9_init_5 (by decide) ?_
  refine kr_newi (N := 37) hx hb hK k3 hP hD hS hA (by decide) (by decide) (Nat.le_of_ble_eq_true rfl) (Nat.le_of_ble_eq_true rfl) (Nat.le_of_ble_eq_true rfl) dX9_init_7 (fun q1 H hP hD hS => ?_)
  have hP : va_P D vwCl ([(moo, .inr (9, [.null, .null, .int 0, .int 0, .null, .int 0, .int 0, .int 0, .int 0, .int 0, .null, .null, .int 0, .null, .null, .int 0, .null, .int 0, .null, .null, .null])), (q1, .inl (κ 0, 37, .inl (fun _ => 0)))]) H := hP
  have hD : va_D A ([(moo, .inr (9, [.null, .null, .int 0, .int 0, .null, .int 0, .int 0, .int 0, .int 0, .int 0, .null, .null, .int 0, .null, .null, .int 0, .null, .int 0, .null, .null, .null])), (q1, .inl (κ 0, 37, .inl (fun _ => 0)))]) := hD
  refine va_putF (D := D) (ci := 9) (v := .ref q1) (ty := .array .int) (C := RX9) (T := TX9) (N := 21) hx hb hts iw9 tyX9 tyX9_ok nmX9 hown hK.1 hP hD hS 0 rfl rfl 0 (by decide) k4 (fun _ h9 => h9) rfl hin rfl (tyX9_ok 0 (by decide)) rfl rfl (Nat.le_of_ble_eq_true rfl) dX9_init_9 (fun H locs hP hD hS => ?_)
  have hP : va_P D vwCl ([(moo, .inr (9, [.ref q1, .null, .int 0, .int 0, .null, .int 0, .int 0, .int 0, .int 0, .int 0, .null, .null, .int 0, .null, .null, .int 0, .null, .int 0, .null, .null, .null])), (q1, .inl (κ 0, 37, .inl (fun _ => 0)))]) H := hP
  have hD : va_D A ([(moo, .inr (9, [.ref q1, .null, .int 0, .int 0, .null, .int 0, .int 0, .int 0, .int 0, .int 0, .null, .null, .int 0, .null, .null, .int 0, .null, .int 0, .null, .null, .null])), (q1, .inl (κ 0, 37, .inl (fun _ => 0)))]) := hD
  refine lv_aload_n hx hb dX9_init_12 rfl (lv_at hl 0 rfl) ?_
  refine lv_bipush (v := 17) hx hb dX9_init_13 (by decide) ?_
  refine kr_newi (N := 17) hx hb hK k3 hP hD hS hA (by decide) (by decide) (Nat.le_of_ble_eq_true rfl) (Nat.le_of_ble_eq_true rfl) (Nat.le_of_ble_eq_true rfl) dX9_init_15 (fun q2 H hP hD hS => ?_)
  have hP : va_P D vwCl ([(moo, .inr (9, [.ref q1, .null, .int 0, .int 0, .null, .int 0, .int 0, .int 0, .int 0, .int 0, .null, .null, .int 0, .null, .null, .int 0, .null, .int 0, .null, .null, .null])), (q1, .inl (κ 0, 37, .inl (fun _ => 0))), (q2, .inl (κ 0, 17, .inl (fun _ => 0)))]) H := hP
  have hD : va_D A ([(moo, .inr (9, [.ref q1, .null, .int 0, .int 0, .null, .int 0, .int 0, .int 0, .int 0, .int 0, .null, .null, .int 0, .null, .null, .int 0, .null, .int 0, .null, .null, .null])), (q1, .inl (κ 0, 37, .inl (fun _ => 0))), (q2, .inl (κ 0, 17, .inl (fun _ => 0)))]) := hD
  refine va_putF (D := D) (ci := 9) (v := .ref q2) (ty := .array .int) (C := RX9) (T := TX9) (N := 21) hx hb hts iw9 tyX9 tyX9_ok nmX9 hown hK.1 hP hD hS 0 rfl rfl 1 (by decide) k5 (fun _ h9 => h9) rfl hin rfl (tyX9_ok 1 (by decide)) rfl rfl (Nat.le_of_ble_eq_true rfl) dX9_init_17 (fun H locs hP hD hS => ?_)
  have hP : va_P D vwCl ([(moo, .inr (9, [.ref q1, .ref q2, .int 0, .int 0, .null, .int 0, .int 0, .int 0, .int 0, .int 0, .null, .null, .int 0, .null, .null, .int 0, .null, .int 0, .null, .null, .null])), (q1, .inl (κ 0, 37, .inl (fun _ => 0))), (q2, .inl (κ 0, 17, .inl (fun _ => 0)))]) H := hP
  have hD : va_D A ([(moo, .inr (9, [.ref q1, .ref q2, .int 0, .int 0, .null, .int 0, .int 0, .int 0, .int 0, .int 0, .null, .null, .int 0, .null, .null, .int 0, .null, .int 0, .null, .null, .null])), (q1, .inl (κ 0, 37, .inl (fun _ => 0))), (q2, .inl (κ 0, 17, .inl (fun _ => 0)))]) := hD
  refine lv_aload_n hx hb dX9_init_20 rfl (lv_at hl 0 rfl) ?_
  refine lv_sipush (v := 240) hx hb dX9_init_21 (by decide) ?_
  refine kr_newi (N := 240) hx hb hK k3 hP hD hS hA (by decide) (by decide) (Nat.le_of_ble_eq_true rfl) (Nat.le_of_ble_eq_true rfl) (Nat.le_of_ble_eq_true rfl) dX9_init_24 (fun q3 H hP hD hS => ?_)
  have hP : va_P D vwCl ([(moo, .inr (9, [.ref q1, .ref q2, .int 0, .int 0, .null, .int 0, .int 0, .int 0, .int 0, .int 0, .null, .null, .int 0, .null, .null, .int 0, .null, .int 0, .null, .null, .null])), (q1, .inl (κ 0, 37, .inl (fun _ => 0))), (q2, .inl (κ 0, 17, .inl (fun _ => 0))), (q3, .inl (κ 0, 240, .inl (fun _ => 0)))]) H := hP
  have hD : va_D A ([(moo, .inr (9, [.ref q1, .ref q2, .int 0, .int 0, .null, .int 0, .int 0, .int 0, .int 0, .int 0, .null, .null, .int 0, .null, .null, .int 0, .null, .int 0, .null, .null, .null])), (q1, .inl (κ 0, 37, .inl (fun _ => 0))), (q2, .inl (κ 0, 17, .inl (fun _ => 0))), (q3, .inl (κ 0, 240, .inl (fun _ => 0)))]) := hD
  refine va_putF (D := D) (ci := 9) (v := .ref q3) (ty := .array .int) (C := RX9) (T := TX9) (N := 21) hx hb hts iw9 tyX9 tyX9_ok nmX9 hown hK.1 hP hD hS 0 rfl rfl 4 (by decide) k6 (fun _ h9 => h9) rfl hin rfl (tyX9_ok 4 (by decide)) rfl rfl (Nat.le_of_ble_eq_true rfl) dX9_init_26 (fun H locs hP hD hS => ?_)
  have hP : va_P D vwCl ([(moo, .inr (9, [.ref q1, .ref q2, .int 0, .int 0, .ref q3, .int 0, .int 0, .int 0, .int 0, .int 0, .null, .null, .int 0, .null, .null, .int 0, .null, .int 0, .null, .null, .null])), (q1, .inl (κ 0, 37, .inl (fun _ => 0))), (q2, .inl (κ 0, 17, .inl (fun _ => 0))), (q3, .inl (κ 0, 240, .inl (fun _ => 0)))]) H := hP
  have hD : va_D A ([(moo, .inr (9, [.ref q1, .ref q2, .int 0, .int 0, .ref q3, .int 0, .int 0, .int 0, .int 0, .int 0, .null, .null, .int 0, .null, .null, .int 0, .null, .int 0, .null, .null, .null])), (q1, .inl (κ 0, 37, .inl (fun _ => 0))), (q2, .inl (κ 0, 17, .inl (fun _ => 0))), (q3, .inl (κ 0, 240, .inl (fun _ => 0)))]) := hD
  refine lv_aload_n hx hb dX9_init_29 rfl (lv_at hl 0 rfl) ?_
  refine lv_iconst (v := (-1)) hx hb dX9_init_30 (by decide) ?_
  refine va_put (D := D) (ci := 9) (v := .int (-1)) (ty := .int) (C := RX9) (T := TX9) (N := 21) hx hb hts iw9 tyX9 tyX9_ok nmX9 hown hK.1 hP hD hS 0 rfl rfl 6 (by decide) k7 (fun _ h9 => h9) rfl (tyX9_ok 6 (by decide)) rfl rfl (Nat.le_of_ble_eq_true rfl) dX9_init_31 (fun H locs hP hD hS => ?_)
  have hP : va_P D vwCl ([(moo, .inr (9, [.ref q1, .ref q2, .int 0, .int 0, .ref q3, .int 0, .int (-1), .int 0, .int 0, .int 0, .null, .null, .int 0, .null, .null, .int 0, .null, .int 0, .null, .null, .null])), (q1, .inl (κ 0, 37, .inl (fun _ => 0))), (q2, .inl (κ 0, 17, .inl (fun _ => 0))), (q3, .inl (κ 0, 240, .inl (fun _ => 0)))]) H := hP
  have hD : va_D A ([(moo, .inr (9, [.ref q1, .ref q2, .int 0, .int 0, .ref q3, .int 0, .int (-1), .int 0, .int 0, .int 0, .null, .null, .int 0, .null, .null, .int 0, .null, .int 0, .null, .null, .null])), (q1, .inl (κ 0, 37, .inl (fun _ => 0))), (q2, .inl (κ 0, 17, .inl (fun _ => 0))), (q3, .inl (κ 0, 240, .inl (fun _ => 0)))]) := hD
  refine lv_aload_n hx hb dX9_init_34 rfl (lv_at hl 0 rfl) ?_
  refine lv_bipush (v := 37) hx hb dX9_init_35 (by decide) ?_
  refine kr_newi (N := 37) hx hb hK k3 hP hD hS hA (by decide) (by decide) (Nat.le_of_ble_eq_true rfl) (Nat.le_of_ble_eq_true rfl) (Nat.le_of_ble_eq_true rfl) dX9_init_37 (fun q4 H hP hD hS => ?_)
  have hP : va_P D vwCl ([(moo, .inr (9, [.ref q1, .ref q2, .int 0, .int 0, .ref q3, .int 0, .int (-1), .int 0, .int 0, .int 0, .null, .null, .int 0, .null, .null, .int 0, .null, .int 0, .null, .null, .null])), (q1, .inl (κ 0, 37, .inl (fun _ => 0))), (q2, .inl (κ 0, 17, .inl (fun _ => 0))), (q3, .inl (κ 0, 240, .inl (fun _ => 0))), (q4, .inl (κ 0, 37, .inl (fun _ => 0)))]) H := hP
  have hD : va_D A ([(moo, .inr (9, [.ref q1, .ref q2, .int 0, .int 0, .ref q3, .int 0, .int (-1), .int 0, .int 0, .int 0, .null, .null, .int 0, .null, .null, .int 0, .null, .int 0, .null, .null, .null])), (q1, .inl (κ 0, 37, .inl (fun _ => 0))), (q2, .inl (κ 0, 17, .inl (fun _ => 0))), (q3, .inl (κ 0, 240, .inl (fun _ => 0))), (q4, .inl (κ 0, 37, .inl (fun _ => 0)))]) := hD
  refine va_putF (D := D) (ci := 9) (v := .ref q4) (ty := .array .int) (C := RX9) (T := TX9) (N := 21) hx hb hts iw9 tyX9 tyX9_ok nmX9 hown hK.1 hP hD hS 0 rfl rfl 10 (by decide) k8 (fun _ h9 => h9) rfl hin rfl (tyX9_ok 10 (by decide)) rfl rfl (Nat.le_of_ble_eq_true rfl) dX9_init_39 (fun H locs hP hD hS => ?_)
  have hP : va_P D vwCl ([(moo, .inr (9, [.ref q1, .ref q2, .int 0, .int 0, .ref q3, .int 0, .int (-1), .int 0, .int 0, .int 0, .ref q4, .null, .int 0, .null, .null, .int 0, .null, .int 0, .null, .null, .null])), (q1, .inl (κ 0, 37, .inl (fun _ => 0))), (q2, .inl (κ 0, 17, .inl (fun _ => 0))), (q3, .inl (κ 0, 240, .inl (fun _ => 0))), (q4, .inl (κ 0, 37, .inl (fun _ => 0)))]) H := hP
  have hD : va_D A ([(moo, .inr (9, [.ref q1, .ref q2, .int 0, .int 0, .ref q3, .int 0, .int (-1), .int 0, .int 0, .int 0, .ref q4, .null, .int 0, .null, .null, .int 0, .null, .int 0, .null, .null, .null])), (q1, .inl (κ 0, 37, .inl (fun _ => 0))), (q2, .inl (κ 0, 17, .inl (fun _ => 0))), (q3, .inl (κ 0, 240, .inl (fun _ => 0))), (q4, .inl (κ 0, 37, .inl (fun _ => 0)))]) := hD
  refine lv_aload_n hx hb dX9_init_42 rfl (lv_at hl 0 rfl) ?_
  refine lv_sipush (v := 340) hx hb dX9_init_43 (by decide) ?_
  refine kr_newi (N := 340) hx hb hK k3 hP hD hS hA (by decide) (by decide) (Nat.le_of_ble_eq_true rfl) (Nat.le_of_ble_eq_true rfl) (Nat.le_of_ble_eq_true rfl) dX9_init_46 (fun q5 H hP hD hS => ?_)
  have hP : va_P D vwCl ([(moo, .inr (9, [.ref q1, .ref q2, .int 0, .int 0, .ref q3, .int 0, .int (-1), .int 0, .int 0, .int 0, .ref q4, .null, .int 0, .null, .null, .int 0, .null, .int 0, .null, .null, .null])), (q1, .inl (κ 0, 37, .inl (fun _ => 0))), (q2, .inl (κ 0, 17, .inl (fun _ => 0))), (q3, .inl (κ 0, 240, .inl (fun _ => 0))), (q4, .inl (κ 0, 37, .inl (fun _ => 0))), (q5, .inl (κ 0, 340, .inl (fun _ => 0)))]) H := hP
  have hD : va_D A ([(moo, .inr (9, [.ref q1, .ref q2, .int 0, .int 0, .ref q3, .int 0, .int (-1), .int 0, .int 0, .int 0, .ref q4, .null, .int 0, .null, .null, .int 0, .null, .int 0, .null, .null, .null])), (q1, .inl (κ 0, 37, .inl (fun _ => 0))), (q2, .inl (κ 0, 17, .inl (fun _ => 0))), (q3, .inl (κ 0, 240, .inl (fun _ => 0))), (q4, .inl (κ 0, 37, .inl (fun _ => 0))), (q5, .inl (κ 0, 340, .inl (fun _ => 0)))]) := hD
  refine va_putF (D := D) (ci := 9) (v := .ref q5) (ty := .array .int) (C := RX9) (T := TX9) (N := 21) hx hb hts iw9 tyX9 tyX9_ok nmX9 hown hK.1 hP hD hS 0 rfl rfl 11 (by decide) k9 (fun _ h9 => h9) rfl hin rfl (tyX9_ok 11 (by decide)) rfl rfl (Nat.le_of_ble_eq_true rfl) dX9_init_48 (fun H locs hP hD hS => ?_)
  have hP : va_P D vwCl ([(moo, .inr (9, [.ref q1, .ref q2, .int 0, .int 0, .ref q3, .int 0, .int (-1), .int 0, .int 0, .int 0, .ref q4, .ref q5, .int 0, .null, .null, .int 0, .null, .int 0, .null, .null, .null])), (q1, .inl (κ 0, 37, .inl (fun _ => 0))), (q2, .inl (κ 0, 17, .inl (fun _ => 0))), (q3, .inl (κ 0, 240, .inl (fun _ => 0))), (q4, .inl (κ 0, 37, .inl (fun _ => 0))), (q5, .inl (κ 0, 340, .inl (fun _ => 0)))]) H := hP
  have hD : va_D A ([(moo, .inr (9, [.ref q1, .ref q2, .int 0, .int 0, .ref q3, .int 0, .int (-1), .int 0, .int 0, .int 0, .ref q4, .ref q5, .int 0, .null, .null, .int 0, .null, .int 0, .null, .null, .null])), (q1, .inl (κ 0, 37, .inl (fun _ => 0))), (q2, .inl (κ 0, 17, .inl (fun _ => 0))), (q3, .inl (κ 0, 240, .inl (fun _ => 0))), (q4, .inl (κ 0, 37, .inl (fun _ => 0))), (q5, .inl (κ 0, 340, .inl (fun _ => 0)))]) := hD
  refine lv_aload_n hx hb dX9_init_51 rfl (lv_at hl 0 rfl) ?_
  refine lv_bipush (v := 17) hx hb dX9_init_52 (by decide) ?_
  refine kr_newi (N := 17) hx hb hK k3 hP hD hS hA (by decide) (by decide) (Nat.le_of_ble_eq_true rfl) (Nat.le_of_ble_eq_true rfl) (Nat.le_of_ble_eq_true rfl) dX9_init_54 (fun q6 H hP hD hS => ?_)
  have hP : va_P D vwCl ([(moo, .inr (9, [.ref q1, .ref q2, .int 0, .int 0, .ref q3, .int 0, .int (-1), .int 0, .int 0, .int 0, .ref q4, .ref q5, .int 0, .null, .null, .int 0, .null, .int 0, .null, .null, .null])), (q1, .inl (κ 0, 37, .inl (fun _ => 0))), (q2, .inl (κ 0, 17, .inl (fun _ => 0))), (q3, .inl (κ 0, 240, .inl (fun _ => 0))), (q4, .inl (κ 0, 37, .inl (fun _ => 0))), (q5, .inl (κ 0, 340, .inl (fun _ => 0))), (q6, .inl (κ 0, 17, .inl (fun _ => 0)))]) H := hP
  have hD : va_D A ([(moo, .inr (9, [.ref q1, .ref q2, .int 0, .int 0, .ref q3, .int 0, .int (-1), .int 0, .int 0, .int 0, .ref q4, .ref q5, .int 0, .null, .null, .int 0, .null, .int 0, .null, .null, .null])), (q1, .inl (κ 0, 37, .inl (fun _ => 0))), (q2, .inl (κ 0, 17, .inl (fun _ => 0))), (q3, .inl (κ 0, 240, .inl (fun _ => 0))), (q4, .inl (κ 0, 37, .inl (fun _ => 0))), (q5, .inl (κ 0, 340, .inl (fun _ => 0))), (q6, .inl (κ 0, 17, .inl (fun _ => 0)))]) := hD
  refine va_putF (D := D) (ci := 9) (v := .ref q6) (ty := .array .int) (C := RX9) (T := TX9) (N := 21) hx hb hts iw9 tyX9 tyX9_ok nmX9 hown hK.1 hP hD hS 0 rfl rfl 13 (by decide) k10 (fun _ h9 => h9) rfl hin rfl (tyX9_ok 13 (by decide)) rfl rfl (Nat.le_of_ble_eq_true rfl) dX9_init_56 (fun H locs hP hD hS => ?_)
  have hP : va_P D vwCl ([(moo, .inr (9, [.ref q1, .ref q2, .int 0, .int 0, .ref q3, .int 0, .int (-1), .int 0, .int 0, .int 0, .ref q4, .ref q5, .int 0, .ref q6, .null, .int 0, .null, .int 0, .null, .null, .null])), (q1, .inl (κ 0, 37, .inl (fun _ => 0))), (q2, .inl (κ 0, 17, .inl (fun _ => 0))), (q3, .inl (κ 0, 240, .inl (fun _ => 0))), (q4, .inl (κ 0, 37, .inl (fun _ => 0))), (q5, .inl (κ 0, 340, .inl (fun _ => 0))), (q6, .inl (κ 0, 17, .inl (fun _ => 0)))]) H := hP
  have hD : va_D A ([(moo, .inr (9, [.ref q1, .ref q2, .int 0, .int 0, .ref q3, .int 0, .int (-1), .int 0, .int 0, .int 0, .ref q4, .ref q5, .int 0, .ref q6, .null, .int 0, .null, .int 0, .null, .null, .null])), (q1, .inl (κ 0, 37, .inl (fun _ => 0))), (q2, .inl (κ 0, 17, .inl (fun _ => 0))), (q3, .inl (κ 0, 240, .inl (fun _ => 0))), (q4, .inl (κ 0, 37, .inl (fun _ => 0))), (q5, .inl (κ 0, 340, .inl (fun _ => 0))), (q6, .inl (κ 0, 17, .inl (fun _ => 0)))]) := hD
  refine lv_aload_n hx hb dX9_init_59 rfl (lv_at hl 0 rfl) ?_
  refine lv_bipush (v := 12) hx hb dX9_init_60 (by decide) ?_
  refine kr_newi (N := 12) hx hb hK k3 hP hD hS hA (by decide) (by decide) (Nat.le_of_ble_eq_true rfl) (Nat.le_of_ble_eq_true rfl) (Nat.le_of_ble_eq_true rfl) dX9_init_62 (fun q7 H hP hD hS => ?_)
  have hP : va_P D vwCl ([(moo, .inr (9, [.ref q1, .ref q2, .int 0, .int 0, .ref q3, .int 0, .int (-1), .int 0, .int 0, .int 0, .ref q4, .ref q5, .int 0, .ref q6, .null, .int 0, .null, .int 0, .null, .null, .null])), (q1, .inl (κ 0, 37, .inl (fun _ => 0))), (q2, .inl (κ 0, 17, .inl (fun _ => 0))), (q3, .inl (κ 0, 240, .inl (fun _ => 0))), (q4, .inl (κ 0, 37, .inl (fun _ => 0))), (q5, .inl (κ 0, 340, .inl (fun _ => 0))), (q6, .inl (κ 0, 17, .inl (fun _ => 0))), (q7, .inl (κ 0, 12, .inl (fun _ => 0)))]) H := hP
  have hD : va_D A ([(moo, .inr (9, [.ref q1, .ref q2, .int 0, .int 0, .ref q3, .int 0, .int (-1), .int 0, .int 0, .int 0, .ref q4, .ref q5, .int 0, .ref q6, .null, .int 0, .null, .int 0, .null, .null, .null])), (q1, .inl (κ 0, 37, .inl (fun _ => 0))), (q2, .inl (κ 0, 17, .inl (fun _ => 0))), (q3, .inl (κ 0, 240, .inl (fun _ => 0))), (q4, .inl (κ 0, 37, .inl (fun _ => 0))), (q5, .inl (κ 0, 340, .inl (fun _ => 0))), (q6, .inl (κ 0, 17, .inl (fun _ => 0))), (q7, .inl (κ 0, 12, .inl (fun _ => 0)))]) := hD
  refine va_putF (D := D) (ci := 9) (v := .ref q7) (ty := .array .int) (C := RX9) (T := TX9) (N := 21) hx hb hts iw9 tyX9 tyX9_ok nmX9 hown hK.1 hP hD hS 0 rfl rfl 14 (by decide) k11 (fun _ h9 => h9) rfl hin rfl (tyX9_ok 14 (by decide)) rfl rfl (Nat.le_of_ble_eq_true rfl) dX9_init_64 (fun H locs hP hD hS => ?_)
  have hP : va_P D vwCl ([(moo, .inr (9, [.ref q1, .ref q2, .int 0, .int 0, .ref q3, .int 0, .int (-1), .int 0, .int 0, .int 0, .ref q4, .ref q5, .int 0, .ref q6, .ref q7, .int 0, .null, .int 0, .null, .null, .null])), (q1, .inl (κ 0, 37, .inl (fun _ => 0))), (q2, .inl (κ 0, 17, .inl (fun _ => 0))), (q3, .inl (κ 0, 240, .inl (fun _ => 0))), (q4, .inl (κ 0, 37, .inl (fun _ => 0))), (q5, .inl (κ 0, 340, .inl (fun _ => 0))), (q6, .inl (κ 0, 17, .inl (fun _ => 0))), (q7, .inl (κ 0, 12, .inl (fun _ => 0)))]) H := hP
  have hD : va_D A ([(moo, .inr (9, [.ref q1, .ref q2, .int 0, .int 0, .ref q3, .int 0, .int (-1), .int 0, .int 0, .int 0, .ref q4, .ref q5, .int 0, .ref q6, .ref q7, .int 0, .null, .int 0, .null, .null, .null])), (q1, .inl (κ 0, 37, .inl (fun _ => 0))), (q2, .inl (κ 0, 17, .inl (fun _ => 0))), (q3, .inl (κ 0, 240, .inl (fun _ => 0))), (q4, .inl (κ 0, 37, .inl (fun _ => 0))), (q5, .inl (κ 0, 340, .inl (fun _ => 0))), (q6, .inl (κ 0, 17, .inl (fun _ => 0))), (q7, .inl (κ 0, 12, .inl (fun _ => 0)))]) := hD
  refine lv_aload_n hx hb dX9_init_67 rfl (lv_at hl 0 rfl) ?_
  refine lv_bipush (v := 30) hx hb dX9_init_68 (by decide) ?_
  refine kr_newi (N := 30) hx hb hK k3 hP hD hS hA (by decide) (by decide) (Nat.le_of_ble_eq_true rfl) (Nat.le_of_ble_eq_true rfl) (Nat.le_of_ble_eq_true rfl) dX9_init_70 (fun q8 H hP hD hS => ?_)
  have hP : va_P D vwCl ([(moo, .inr (9, [.ref q1, .ref q2, .int 0, .int 0, .ref q3, .int 0, .int (-1), .int 0, .int 0, .int 0, .ref q4, .ref q5, .int 0, .ref q6, .ref q7, .int 0, .null, .int 0, .null, .null, .null])), (q1, .inl (κ 0, 37, .inl (fun _ => 0))), (q2, .inl (κ 0, 17, .inl (fun _ => 0))), (q3, .inl (κ 0, 240, .inl (fun _ => 0))), (q4, .inl (κ 0, 37, .inl (fun _ => 0))), (q5, .inl (κ 0, 340, .inl (fun _ => 0))), (q6, .inl (κ 0, 17, .inl (fun _ => 0))), (q7, .inl (κ 0, 12, .inl (fun _ => 0))), (q8, .inl (κ 0, 30, .inl (fun _ => 0)))]) H := hP
  have hD : va_D A ([(moo, .inr (9, [.ref q1, .ref q2, .int 0, .int 0, .ref q3, .int 0, .int (-1), .int 0, .int 0, .int 0, .ref q4, .ref q5, .int 0, .ref q6, .ref q7, .int 0, .null, .int 0, .null, .null, .null])), (q1, .inl (κ 0, 37, .inl (fun _ => 0))), (q2, .inl (κ 0, 17, .inl (fun _ => 0))), (q3, .inl (κ 0, 240, .inl (fun _ => 0))), (q4, .inl (κ 0, 37, .inl (fun _ => 0))), (q5, .inl (κ 0, 340, .inl (fun _ => 0))), (q6, .inl (κ 0, 17, .inl (fun _ => 0))), (q7, .inl (κ 0, 12, .inl (fun _ => 0))), (q8, .inl (κ 0, 30, .inl (fun _ => 0)))]) := hD
  refine va_putF (D := D) (ci := 9) (v := .ref q8) (ty := .array .int) (C := RX9) (T := TX9) (N := 21) hx hb hts iw9 tyX9 tyX9_ok nmX9 hown hK.1 hP hD hS 0 rfl rfl 16 (by decide) k12 (fun _ h9 => h9) rfl hin rfl (tyX9_ok 16 (by decide)) rfl rfl (Nat.le_of_ble_eq_true rfl) dX9_init_72 (fun H locs hP hD hS => ?_)
  have hP : va_P D vwCl ([(moo, .inr (9, [.ref q1, .ref q2, .int 0, .int 0, .ref q3, .int 0, .int (-1), .int 0, .int 0, .int 0, .ref q4, .ref q5, .int 0, .ref q6, .ref q7, .int 0, .ref q8, .int 0, .null, .null, .null])), (q1, .inl (κ 0, 37, .inl (fun _ => 0))), (q2, .inl (κ 0, 17, .inl (fun _ => 0))), (q3, .inl (κ 0, 240, .inl (fun _ => 0))), (q4, .inl (κ 0, 37, .inl (fun _ => 0))), (q5, .inl (κ 0, 340, .inl (fun _ => 0))), (q6, .inl (κ 0, 17, .inl (fun _ => 0))), (q7, .inl (κ 0, 12, .inl (fun _ => 0))), (q8, .inl (κ 0, 30, .inl (fun _ => 0)))]) H := hP
  have hD : va_D A ([(moo, .inr (9, [.ref q1, .ref q2, .int 0, .int 0, .ref q3, .int 0, .int (-1), .int 0, .int 0, .int 0, .ref q4, .ref q5, .int 0, .ref q6, .ref q7, .int 0, .ref q8, .int 0, .null, .null, .null])), (q1, .inl (κ 0, 37, .inl (fun _ => 0))), (q2, .inl (κ 0, 17, .inl (fun _ => 0))), (q3, .inl (κ 0, 240, .inl (fun _ => 0))), (q4, .inl (κ 0, 37, .inl (fun _ => 0))), (q5, .inl (κ 0, 340, .inl (fun _ => 0))), (q6, .inl (κ 0, 17, .inl (fun _ => 0))), (q7, .inl (κ 0, 12, .inl (fun _ => 0))), (q8, .inl (κ 0, 30, .inl (fun _ => 0)))]) := hD
  refine lv_aload_n hx hb dX9_init_75 rfl (lv_at hl 0 rfl) ?_
  refine lv_iconst (v := 2) hx hb dX9_init_76 (by decide) ?_
  refine kr_newz (N := 2) hx hb hK k13 hP hD hS hA (by decide) (by decide) (Nat.le_of_ble_eq_true rfl) (Nat.le_of_ble_eq_true rfl) (Nat.le_of_ble_eq_true rfl) dX9_init_77 (fun q9 H hP hD hS => ?_)
  have hP : va_P D vwCl ([(moo, .inr (9, [.ref q1, .ref q2, .int 0, .int 0, .ref q3, .int 0, .int (-1), .int 0, .int 0, .int 0, .ref q4, .ref q5, .int 0, .ref q6, .ref q7, .int 0, .ref q8, .int 0, .null, .null, .null])), (q1, .inl (κ 0, 37, .inl (fun _ => 0))), (q2, .inl (κ 0, 17, .inl (fun _ => 0))), (q3, .inl (κ 0, 240, .inl (fun _ => 0))), (q4, .inl (κ 0, 37, .inl (fun _ => 0))), (q5, .inl (κ 0, 340, .inl (fun _ => 0))), (q6, .inl (κ 0, 17, .inl (fun _ => 0))), (q7, .inl (κ 0, 12, .inl (fun _ => 0))), (q8, .inl (κ 0, 30, .inl (fun _ => 0))), (q9, .inl (κ 1, 2, .inl (fun _ => 0)))]) H := hP
  have hD : va_D A ([(moo, .inr (9, [.ref q1, .ref q2, .int 0, .int 0, .ref q3, .int 0, .int (-1), .int 0, .int 0, .int 0, .ref q4, .ref q5, .int 0, .ref q6, .ref q7, .int 0, .ref q8, .int 0, .null, .null, .null])), (q1, .inl (κ 0, 37, .inl (fun _ => 0))), (q2, .inl (κ 0, 17, .inl (fun _ => 0))), (q3, .inl (κ 0, 240, .inl (fun _ => 0))), (q4, .inl (κ 0, 37, .inl (fun _ => 0))), (q5, .inl (κ 0, 340, .inl (fun _ => 0))), (q6, .inl (κ 0, 17, .inl (fun _ => 0))), (q7, .inl (κ 0, 12, .inl (fun _ => 0))), (q8, .inl (κ 0, 30, .inl (fun _ => 0))), (q9, .inl (κ 1, 2, .inl (fun _ => 0)))]) := hD
  refine va_putF (D := D) (ci := 9) (v := .ref q9) (ty := .array .boolean) (C := RX9) (T := TX9) (N := 21) hx hb hts iw9 tyX9 tyX9_ok nmX9 hown hK.1 hP hD hS 0 rfl rfl 18 (by decide) k14 (fun _ h9 => h9) rfl hin rfl (tyX9_ok 18 (by decide)) rfl rfl (Nat.le_of_ble_eq_true rfl) dX9_init_79 (fun H locs hP hD hS => ?_)
  have hP : va_P D vwCl ([(moo, .inr (9, [.ref q1, .ref q2, .int 0, .int 0, .ref q3, .int 0, .int (-1), .int 0, .int 0, .int 0, .ref q4, .ref q5, .int 0, .ref q6, .ref q7, .int 0, .ref q8, .int 0, .ref q9, .null, .null])), (q1, .inl (κ 0, 37, .inl (fun _ => 0))), (q2, .inl (κ 0, 17, .inl (fun _ => 0))), (q3, .inl (κ 0, 240, .inl (fun _ => 0))), (q4, .inl (κ 0, 37, .inl (fun _ => 0))), (q5, .inl (κ 0, 340, .inl (fun _ => 0))), (q6, .inl (κ 0, 17, .inl (fun _ => 0))), (q7, .inl (κ 0, 12, .inl (fun _ => 0))), (q8, .inl (κ 0, 30, .inl (fun _ => 0))), (q9, .inl (κ 1, 2, .inl (fun _ => 0)))]) H := hP
  have hD : va_D A ([(moo, .inr (9, [.ref q1, .ref q2, .int 0, .int 0, .ref q3, .int 0, .int (-1), .int 0, .int 0, .int 0, .ref q4, .ref q5, .int 0, .ref q6, .ref q7, .int 0, .ref q8, .int 0, .ref q9, .null, .null])), (q1, .inl (κ 0, 37, .inl (fun _ => 0))), (q2, .inl (κ 0, 17, .inl (fun _ => 0))), (q3, .inl (κ 0, 240, .inl (fun _ => 0))), (q4, .inl (κ 0, 37, .inl (fun _ => 0))), (q5, .inl (κ 0, 340, .inl (fun _ => 0))), (q6, .inl (κ 0, 17, .inl (fun _ => 0))), (q7, .inl (κ 0, 12, .inl (fun _ => 0))), (q8, .inl (κ 0, 30, .inl (fun _ => 0))), (q9, .inl (κ 1, 2, .inl (fun _ => 0)))]) := hD
  refine lv_aload_n hx hb dX9_init_82 rfl (lv_at hl 0 rfl) ?_
  refine lv_bipush (v := 34) hx hb dX9_init_83 (by decide) ?_
  refine kr_newi (N := 34) hx hb hK k3 hP hD hS hA (by decide) (by decide) (Nat.le_of_ble_eq_true rfl) (Nat.le_of_ble_eq_true rfl) (Nat.le_of_ble_eq_true rfl) dX9_init_85 (fun q10 H hP hD hS => ?_)
  have hP : va_P D vwCl ([(moo, .inr (9, [.ref q1, .ref q2, .int 0, .int 0, .ref q3, .int 0, .int (-1), .int 0, .int 0, .int 0, .ref q4, .ref q5, .int 0, .ref q6, .ref q7, .int 0, .ref q8, .int 0, .ref q9, .null, .null])), (q1, .inl (κ 0, 37, .inl (fun _ => 0))), (q2, .inl (κ 0, 17, .inl (fun _ => 0))), (q3, .inl (κ 0, 240, .inl (fun _ => 0))), (q4, .inl (κ 0, 37, .inl (fun _ => 0))), (q5, .inl (κ 0, 340, .inl (fun _ => 0))), (q6, .inl (κ 0, 17, .inl (fun _ => 0))), (q7, .inl (κ 0, 12, .inl (fun _ => 0))), (q8, .inl (κ 0, 30, .inl (fun _ => 0))), (q9, .inl (κ 1, 2, .inl (fun _ => 0))), (q10, .inl (κ 0, 34, .inl (fun _ => 0)))]) H := hP
  have hD : va_D A ([(moo, .inr (9, [.ref q1, .ref q2, .int 0, .int 0, .ref q3, .int 0, .int (-1), .int 0, .int 0, .int 0, .ref q4, .ref q5, .int 0, .ref q6, .ref q7, .int 0, .ref q8, .int 0, .ref q9, .null, .null])), (q1, .inl (κ 0, 37, .inl (fun _ => 0))), (q2, .inl (κ 0, 17, .inl (fun _ => 0))), (q3, .inl (κ 0, 240, .inl (fun _ => 0))), (q4, .inl (κ 0, 37, .inl (fun _ => 0))), (q5, .inl (κ 0, 340, .inl (fun _ => 0))), (q6, .inl (κ 0, 17, .inl (fun _ => 0))), (q7, .inl (κ 0, 12, .inl (fun _ => 0))), (q8, .inl (κ 0, 30, .inl (fun _ => 0))), (q9, .inl (κ 1, 2, .inl (fun _ => 0))), (q10, .inl (κ 0, 34, .inl (fun _ => 0)))]) := hD
  refine va_putF (D := D) (ci := 9) (v := .ref q10) (ty := .array .int) (C := RX9) (T := TX9) (N := 21) hx hb hts iw9 tyX9 tyX9_ok nmX9 hown hK.1 hP hD hS 0 rfl rfl 19 (by decide) k15 (fun _ h9 => h9) rfl hin rfl (tyX9_ok 19 (by decide)) rfl rfl (Nat.le_of_ble_eq_true rfl) dX9_init_87 (fun H locs hP hD hS => ?_)
  have hP : va_P D vwCl ([(moo, .inr (9, [.ref q1, .ref q2, .int 0, .int 0, .ref q3, .int 0, .int (-1), .int 0, .int 0, .int 0, .ref q4, .ref q5, .int 0, .ref q6, .ref q7, .int 0, .ref q8, .int 0, .ref q9, .ref q10, .null])), (q1, .inl (κ 0, 37, .inl (fun _ => 0))), (q2, .inl (κ 0, 17, .inl (fun _ => 0))), (q3, .inl (κ 0, 240, .inl (fun _ => 0))), (q4, .inl (κ 0, 37, .inl (fun _ => 0))), (q5, .inl (κ 0, 340, .inl (fun _ => 0))), (q6, .inl (κ 0, 17, .inl (fun _ => 0))), (q7, .inl (κ 0, 12, .inl (fun _ => 0))), (q8, .inl (κ 0, 30, .inl (fun _ => 0))), (q9, .inl (κ 1, 2, .inl (fun _ => 0))), (q10, .inl (κ 0, 34, .inl (fun _ => 0)))]) H := hP
  have hD : va_D A ([(moo, .inr (9, [.ref q1, .ref q2, .int 0, .int 0, .ref q3, .int 0, .int (-1), .int 0, .int 0, .int 0, .ref q4, .ref q5, .int 0, .ref q6, .ref q7, .int 0, .ref q8, .int 0, .ref q9, .ref q10, .null])), (q1, .inl (κ 0, 37, .inl (fun _ => 0))), (q2, .inl (κ 0, 17, .inl (fun _ => 0))), (q3, .inl (κ 0, 240, .inl (fun _ => 0))), (q4, .inl (κ 0, 37, .inl (fun _ => 0))), (q5, .inl (κ 0, 340, .inl (fun _ => 0))), (q6, .inl (κ 0, 17, .inl (fun _ => 0))), (q7, .inl (κ 0, 12, .inl (fun _ => 0))), (q8, .inl (κ 0, 30, .inl (fun _ => 0))), (q9, .inl (κ 1, 2, .inl (fun _ => 0))), (q10, .inl (κ 0, 34, .inl (fun _ => 0)))]) := hD
  refine lv_aload_n hx hb dX9_init_90 rfl (lv_at hl 0 rfl) ?_
  refine lv_iconst (v := 2) hx hb dX9_init_91 (by decide) ?_
  refine kr_newi (N := 2) hx hb hK k3 hP hD hS hA (by decide) (by decide) (Nat.le_of_ble_eq_true rfl) (Nat.le_of_ble_eq_true rfl) (Nat.le_of_ble_eq_true rfl) dX9_init_92 (fun q11 H hP hD hS => ?_)
  have hP : va_P D vwCl ([(moo, .inr (9, [.ref q1, .ref q2, .int 0, .int 0, .ref q3, .int 0, .int (-1), .int 0, .int 0, .int 0, .ref q4, .ref q5, .int 0, .ref q6, .ref q7, .int 0, .ref q8, .int 0, .ref q9, .ref q10, .null])), (q1, .inl (κ 0, 37, .inl (fun _ => 0))), (q2, .inl (κ 0, 17, .inl (fun _ => 0))), (q3, .inl (κ 0, 240, .inl (fun _ => 0))), (q4, .inl (κ 0, 37, .inl (fun _ => 0))), (q5, .inl (κ 0, 340, .inl (fun _ => 0))), (q6, .inl (κ 0, 17, .inl (fun _ => 0))), (q7, .inl (κ 0, 12, .inl (fun _ => 0))), (q8, .inl (κ 0, 30, .inl (fun _ => 0))), (q9, .inl (κ 1, 2, .inl (fun _ => 0))), (q10, .inl (κ 0, 34, .inl (fun _ => 0))), (q11, .inl (κ 0, 2, .inl (fun _ => 0)))]) H := hP
  have hD : va_D A ([(moo, .inr (9, [.ref q1, .ref q2, .int 0, .int 0, .ref q3, .int 0, .int (-1), .int 0, .int 0, .int 0, .ref q4, .ref q5, .int 0, .ref q6, .ref q7, .int 0, .ref q8, .int 0, .ref q9, .ref q10, .null])), (q1, .inl (κ 0, 37, .inl (fun _ => 0))), (q2, .inl (κ 0, 17, .inl (fun _ => 0))), (q3, .inl (κ 0, 240, .inl (fun _ => 0))), (q4, .inl (κ 0, 37, .inl (fun _ => 0))), (q5, .inl (κ 0, 340, .inl (fun _ => 0))), (q6, .inl (κ 0, 17, .inl (fun _ => 0))), (q7, .inl (κ 0, 12, .inl (fun _ => 0))), (q8, .inl (κ 0, 30, .inl (fun _ => 0))), (q9, .inl (κ 1, 2, .inl (fun _ => 0))), (q10, .inl (κ 0, 34, .inl (fun _ => 0))), (q11, .inl (κ 0, 2, .inl (fun _ => 0)))]) := hD
  refine va_putF (D := D) (ci := 9) (v := .ref q11) (ty := .array .int) (C := RX9) (T := TX9) (N := 21) hx hb hts iw9 tyX9 tyX9_ok nmX9 hown hK.1 hP hD hS 0 rfl rfl 20 (by decide) k16 (fun _ h9 => h9) rfl hin rfl (tyX9_ok 20 (by decide)) rfl rfl (Nat.le_of_ble_eq_true rfl) dX9_init_94 (fun H locs hP hD hS => ?_)
  have hP : va_P D vwCl ([(moo, .inr (9, [.ref q1, .ref q2, .int 0, .int 0, .ref q3, .int 0, .int (-1), .int 0, .int 0, .int 0, .ref q4, .ref q5, .int 0, .ref q6, .ref q7, .int 0, .ref q8, .int 0, .ref q9, .ref q10, .ref q11])), (q1, .inl (κ 0, 37, .inl (fun _ => 0))), (q2, .inl (κ 0, 17, .inl (fun _ => 0))), (q3, .inl (κ 0, 240, .inl (fun _ => 0))), (q4, .inl (κ 0, 37, .inl (fun _ => 0))), (q5, .inl (κ 0, 340, .inl (fun _ => 0))), (q6, .inl (κ 0, 17, .inl (fun _ => 0))), (q7, .inl (κ 0, 12, .inl (fun _ => 0))), (q8, .inl (κ 0, 30, .inl (fun _ => 0))), (q9, .inl (κ 1, 2, .inl (fun _ => 0))), (q10, .inl (κ 0, 34, .inl (fun _ => 0))), (q11, .inl (κ 0, 2, .inl (fun _ => 0)))]) H := hP
  have hD : va_D A ([(moo, .inr (9, [.ref q1, .ref q2, .int 0, .int 0, .ref q3, .int 0, .int (-1), .int 0, .int 0, .int 0, .ref q4, .ref q5, .int 0, .ref q6, .ref q7, .int 0, .ref q8, .int 0, .ref q9, .ref q10, .ref q11])), (q1, .inl (κ 0, 37, .inl (fun _ => 0))), (q2, .inl (κ 0, 17, .inl (fun _ => 0))), (q3, .inl (κ 0, 240, .inl (fun _ => 0))), (q4, .inl (κ 0, 37, .inl (fun _ => 0))), (q5, .inl (κ 0, 340, .inl (fun _ => 0))), (q6, .inl (κ 0, 17, .inl (fun _ => 0))), (q7, .inl (κ 0, 12, .inl (fun _ => 0))), (q8, .inl (κ 0, 30, .inl (fun _ => 0))), (q9, .inl (κ 1, 2, .inl (fun _ => 0))), (q10, .inl (κ 0, 34, .inl (fun _ => 0))), (q11, .inl (κ 0, 2, .inl (fun _ => 0)))]) := hD
  exact hret (fun i => [q1, q2, q3, q4, q5, q6, q7, q8, q9, q10, q11].getD i 0) _ _ _ _ hP hD hS dX9_init_97
