/-! ===== the law: its loop, its start ===== -/
set_option maxHeartbeats 8000000 in
set_option maxRecDepth 100000 in
theorem lw_head {p : Program} {l : Launch} {e : Env} {s : State} {m : MethodId} {below : List Frame} {meth : Method} {c : Code} {b L : Nat} {xs : Nat → Int32} {Q : State → Prop} {kro moo i k : Nat} {H : Heap} {locs : List Loc} {ls : Array Slot} (hL : L ≤ 384) (C0 : lw_At p s m meth c b L xs) (h0 : i ≤ 390) (hi : i + 6 ≤ L) (hS : va_S (fun q : Nat => s.heap.size ≤ q) s.heap H locs) (hl : lv_has ls 4 [(0, .ref b), (1, .ref kro), (2, .ref moo), (3, .int (nI i))]) (ek : nI k = xs (nI i).toNatClampNeg &&& 31) (kk : W p l e room_1 s m #[Value.ref b] below meth c H locs 115 1757 Q (F0 m 33 ls [.int (nI k)])) : W p l e room_1 s m #[Value.ref b] below meth c H locs 115 1757 Q (F0 m 18 ls []) := by
  obtain ⟨hx, hb, hr, hml, hown, hts0, hX, hbl, hlocks, hgv⟩ := id C0
  have hbA : ¬ (fun q : Nat => s.heap.size ≤ q) b := Nat.not_le.mpr hbl
  have h_0 : vp_in (nI i) L := vp_in_nI (by omega) (by omega)
  refine lv_iload_n hx hb dL_law_18 rfl (lv_at hl 3 rfl) ?_
  refine lv_aload_n hx hb dL_law_19 rfl (lv_at hl 0 rfl) ?_
  refine va_slen hx hb hX hbl hbA hS dL_law_20 ?_
  refine lv_bipush (v := 6) hx hb dL_law_21 (by decide) ?_
  refine lv_isub hx hb dL_law_23 ?_
  refine lv_icmp_gt (tgt := 964) hx hb dL_law_24 (by decide) (fun c1 => absurd c1 (lw_less h0 hL hi)) (fun _ => ?_)
  refine lv_aload_n hx hb dL_law_27 rfl (lv_at hl 0 rfl) ?_
  refine lv_iload_n hx hb dL_law_28 rfl (lv_at hl 3 rfl) ?_
  refine va_sld hx hb hX hbl hbA hS h_0 dL_law_29 ?_
  refine lv_bipush (v := 31) hx hb dL_law_30 (by decide) ?_
  refine lv_iand hx hb dL_law_32 ?_
  refine kr_tope ek ?_
  exact kk
set_option maxHeartbeats 8000000 in
set_option maxRecDepth 100000 in
theorem law_loop {p : Program} {l : Launch} {e : Env} {s : State} {m : MethodId} {below : List Frame} {meth : Method} {c : Code} {b L : Nat} {xs : Nat → Int32} {D : va_G} {κ : Nat → ClassId} {kro moo : Nat} (hL : L ≤ 384) (C0 : lw_At p s m meth c b L xs) (hK : krK D κ s) : ∀ (n i : Nat), i ≤ 390 → 391 ≤ i + n → LAll D κ (fun q : Nat => s.heap.size ≤ q) kro moo (LG p l e s m below meth c b (lw_Z below #[Value.ref b] s) kro moo i 18) := by
  obtain ⟨hx, hb, hr, hml, hown, hts0, hX, hbl, hlocks, hgv⟩ := id C0
  have hbA : ¬ (fun q : Nat => s.heap.size ≤ q) b := Nat.not_le.mpr hbl
  intro n
  induction n with
  | zero =>
    intro i h1 h2
    exact absurd h2 (by omega)
  | succ n ih =>
    intro i hi hn
    by_cases c0 : nI L - 6 < nI i
    · refine LAll_of (fun H locs ls hS hl => ?_)
      refine lv_iload_n hx hb dL_law_18 rfl (lv_at hl 3 rfl) ?_
      refine lv_aload_n hx hb dL_law_19 rfl (lv_at hl 0 rfl) ?_
      refine va_slen hx hb hX hbl hbA hS dL_law_20 ?_
      refine lv_bipush (v := 6) hx hb dL_law_21 (by decide) ?_
      refine lv_isub hx hb dL_law_23 ?_
      refine lv_icmp_gt (tgt := 964) hx hb dL_law_24 (by decide) (fun c1 => ?_) (fun c1 => absurd c0 c1)
      refine lv_iconst (v := 1) hx hb dL_law_964 (by decide) ?_
      refine va_forget (fun q hq => hS.2.2 q hq) ?_
      refine W.widen (k := 600000) (n := 7302250) (Nat.le_of_ble_eq_true rfl) (Nat.le_of_ble_eq_true rfl) ?_
      exact lw_ret hx hb hr hlocks dL_law_965
    · have hm : i + 6 ≤ L := lw_more hi hL c0
      have kk : LAll D κ (fun q : Nat => s.heap.size ≤ q) kro moo (LG p l e s m below meth c b (lw_Z below #[Value.ref b] s) kro moo i 958) := by
        refine LAll_mono (fun H hg locs ls hS hl => ?_) (ih (i + 6) (by omega) (by omega))
        refine lv_iinc (v := nI (i + 6)) (lv' := [(3, .int (nI (i + 6))), (0, .ref b), (1, .ref kro), (2, .ref moo)]) hx hb dL_law_958 hl (k := 3) rfl (nI_add i 6) (by decide) rfl (fun ls hl => ?_)
        refine lv_goto (tgt := 18) hx hb dL_law_961 (by decide) ?_
        exact hg locs ls hS (lv_sub hl [1, 2, 3, 0] rfl)
      obtain ⟨k, hk, ek⟩ := lw_and31 (xs (nI i).toNatClampNeg)
      rcases lw_k32 k hk with rfl | rfl | rfl | rfl | rfl | rfl | rfl | rfl | rfl | rfl | rfl | rfl | rfl | rfl | rfl | rfl | rfl | rfl | rfl | rfl | rfl | rfl | rfl | rfl | rfl | rfl | rfl | rfl | rfl | rfl | rfl | rfl
      · exact LAll_mono (fun H hg locs ls hS hl => lw_head hL C0 hi hm hS hl ek (lv_tableIn (off := 143) (tgt := 176) hx hb dL_law_33 (by decide) (by decide) rfl (by decide) (hg locs ls hS hl))) (cs_feed hL C0 hK hm kk)
      · exact LAll_mono (fun H hg locs ls hS hl => lw_head hL C0 hi hm hS hl ek (lv_tableIn (off := 166) (tgt := 199) hx hb dL_law_33 (by decide) (by decide) rfl (by decide) (hg locs ls hS hl))) (cs_ransom hL C0 hK hm kk)
      · exact LAll_mono (fun H hg locs ls hS hl => lw_head hL C0 hi hm hS hl ek (lv_tableIn (off := 179) (tgt := 212) hx hb dL_law_33 (by decide) (by decide) rfl (by decide) (hg locs ls hS hl))) (cs_fault hL C0 hK hm kk)
      · exact LAll_mono (fun H hg locs ls hS hl => lw_head hL C0 hi hm hS hl ek (lv_tableIn (off := 192) (tgt := 225) hx hb dL_law_33 (by decide) (by decide) rfl (by decide) (hg locs ls hS hl))) (cs_told hL C0 hK hm kk)
      · exact LAll_mono (fun H hg locs ls hS hl => lw_head hL C0 hi hm hS hl ek (lv_tableIn (off := 215) (tgt := 248) hx hb dL_law_33 (by decide) (by decide) rfl (by decide) (hg locs ls hS hl))) (cs_payer hL C0 hK hm kk)
      · exact LAll_mono (fun H hg locs ls hS hl => lw_head hL C0 hi hm hS hl ek (lv_tableIn (off := 248) (tgt := 281) hx hb dL_law_33 (by decide) (by decide) rfl (by decide) (hg locs ls hS hl))) (cs_bid hL C0 hK hm kk)
      · exact LAll_mono (fun H hg locs ls hS hl => lw_head hL C0 hi hm hS hl ek (lv_tableIn (off := 271) (tgt := 304) hx hb dL_law_33 (by decide) (by decide) rfl (by decide) (hg locs ls hS hl))) (cs_rate hL C0 hK hm kk)
      · exact LAll_mono (fun H hg locs ls hS hl => lw_head hL C0 hi hm hS hl ek (lv_tableIn (off := 304) (tgt := 337) hx hb dL_law_33 (by decide) (by decide) rfl (by decide) (hg locs ls hS hl))) (cs_month hL C0 hK hm kk)
      · exact LAll_mono (fun H hg locs ls hS hl => lw_head hL C0 hi hm hS hl ek (lv_tableIn (off := 327) (tgt := 360) hx hb dL_law_33 (by decide) (by decide) rfl (by decide) (hg locs ls hS hl))) (cs_raise hL C0 hK hm kk)
      · exact LAll_mono (fun H hg locs ls hS hl => lw_head hL C0 hi hm hS hl ek (lv_tableIn (off := 350) (tgt := 383) hx hb dL_law_33 (by decide) (by decide) rfl (by decide) (hg locs ls hS hl))) (cs_hostage hL C0 hK hm kk)
      · exact LAll_mono (fun H hg locs ls hS hl => lw_head hL C0 hi hm hS hl ek (lv_tableIn (off := 399) (tgt := 432) hx hb dL_law_33 (by decide) (by decide) rfl (by decide) (hg locs ls hS hl))) (cs_free hL C0 hK hm kk)
      · exact LAll_mono (fun H hg locs ls hS hl => lw_head hL C0 hi hm hS hl ek (lv_tableIn (off := 412) (tgt := 445) hx hb dL_law_33 (by decide) (by decide) rfl (by decide) (hg locs ls hS hl))) (cs_dies hL C0 hK hm kk)
      · exact LAll_mono (fun H hg locs ls hS hl => lw_head hL C0 hi hm hS hl ek (lv_tableIn (off := 425) (tgt := 458) hx hb dL_law_33 (by decide) (by decide) rfl (by decide) (hg locs ls hS hl))) (cs_drift hL C0 hK hm kk)
      · exact LAll_mono (fun H hg locs ls hS hl => lw_head hL C0 hi hm hS hl ek (lv_tableIn (off := 448) (tgt := 481) hx hb dL_law_33 (by decide) (by decide) rfl (by decide) (hg locs ls hS hl))) (cs_undo hL C0 hK hm kk)
      · exact LAll_mono (fun H hg locs ls hS hl => lw_head hL C0 hi hm hS hl ek (lv_tableIn (off := 461) (tgt := 494) hx hb dL_law_33 (by decide) (by decide) rfl (by decide) (hg locs ls hS hl))) (cs_brings hL C0 hK hm kk)
      · exact LAll_mono (fun H hg locs ls hS hl => lw_head hL C0 hi hm hS hl ek (lv_tableIn (off := 484) (tgt := 517) hx hb dL_law_33 (by decide) (by decide) rfl (by decide) (hg locs ls hS hl))) (cs_leastRate hL C0 hK hm kk)
      · exact LAll_mono (fun H hg locs ls hS hl => lw_head hL C0 hi hm hS hl ek (lv_tableIn (off := 507) (tgt := 540) hx hb dL_law_33 (by decide) (by decide) rfl (by decide) (hg locs ls hS hl))) (cs_rateOfMost hL C0 hK hm kk)
      · exact LAll_mono (fun H hg locs ls hS hl => lw_head hL C0 hi hm hS hl ek (lv_tableIn (off := 520) (tgt := 553) hx hb dL_law_33 (by decide) (by decide) rfl (by decide) (hg locs ls hS hl))) (cs_spread hL C0 hK hm kk)
      · exact LAll_mono (fun H hg locs ls hS hl => lw_head hL C0 hi hm hS hl ek (lv_tableIn (off := 553) (tgt := 586) hx hb dL_law_33 (by decide) (by decide) rfl (by decide) (hg locs ls hS hl))) (cs_sell hL C0 hK hm kk)
      · exact LAll_mono (fun H hg locs ls hS hl => lw_head hL C0 hi hm hS hl ek (lv_tableIn (off := 586) (tgt := 619) hx hb dL_law_33 (by decide) (by decide) rfl (by decide) (hg locs ls hS hl))) (cs_homeOrder hL C0 hK hm kk)
      · exact LAll_mono (fun H hg locs ls hS hl => lw_head hL C0 hi hm hS hl ek (lv_tableIn (off := 609) (tgt := 642) hx hb dL_law_33 (by decide) (by decide) rfl (by decide) (hg locs ls hS hl))) (cs_letters hL C0 hK hm kk)
      · exact LAll_mono (fun H hg locs ls hS hl => lw_head hL C0 hi hm hS hl ek (lv_tableIn (off := 672) (tgt := 705) hx hb dL_law_33 (by decide) (by decide) rfl (by decide) (hg locs ls hS hl))) (cs_spared hL C0 hK hm kk)
      · exact LAll_mono (fun H hg locs ls hS hl => lw_head hL C0 hi hm hS hl ek (lv_tableIn (off := 705) (tgt := 738) hx hb dL_law_33 (by decide) (by decide) rfl (by decide) (hg locs ls hS hl))) (cs_lives hL C0 hK hm kk)
      · exact LAll_mono (fun H hg locs ls hS hl => lw_head hL C0 hi hm hS hl ek (lv_tableIn (off := 728) (tgt := 761) hx hb dL_law_33 (by decide) (by decide) rfl (by decide) (hg locs ls hS hl))) (cs_monthsTo hL C0 hK hm kk)
      · exact LAll_mono (fun H hg locs ls hS hl => lw_head hL C0 hi hm hS hl ek (lv_tableIn (off := 741) (tgt := 774) hx hb dL_law_33 (by decide) (by decide) rfl (by decide) (hg locs ls hS hl))) (cs_weigh hL C0 hK hm kk)
      · exact LAll_mono (fun H hg locs ls hS hl => lw_head hL C0 hi hm hS hl ek (lv_tableIn (off := 774) (tgt := 807) hx hb dL_law_33 (by decide) (by decide) rfl (by decide) (hg locs ls hS hl))) (cs_isShort hL C0 hK hm kk)
      · exact LAll_mono (fun H hg locs ls hS hl => lw_head hL C0 hi hm hS hl ek (lv_tableIn (off := 797) (tgt := 830) hx hb dL_law_33 (by decide) (by decide) rfl (by decide) (hg locs ls hS hl))) (cs_write hL C0 hK hm kk)
      · exact LAll_mono (fun H hg locs ls hS hl => lw_head hL C0 hi hm hS hl ek (lv_tableIn (off := 830) (tgt := 863) hx hb dL_law_33 (by decide) (by decide) rfl (by decide) (hg locs ls hS hl))) (cs_tear hL C0 hK hm kk)
      · exact LAll_mono (fun H hg locs ls hS hl => lw_head hL C0 hi hm hS hl ek (lv_tableIn (off := 843) (tgt := 876) hx hb dL_law_33 (by decide) (by decide) rfl (by decide) (hg locs ls hS hl))) (cs_judge hL C0 hK hm kk)
      · exact LAll_mono (fun H hg locs ls hS hl => lw_head hL C0 hi hm hS hl ek (lv_tableIn (off := 856) (tgt := 889) hx hb dL_law_33 (by decide) (by decide) rfl (by decide) (hg locs ls hS hl))) (cs_seed hL C0 hK hm kk)
      · exact LAll_mono (fun H hg locs ls hS hl => lw_head hL C0 hi hm hS hl ek (lv_tableIn (off := 879) (tgt := 912) hx hb dL_law_33 (by decide) (by decide) rfl (by decide) (hg locs ls hS hl))) (cs_keep hL C0 hK hm kk)
      · exact LAll_mono (fun H hg locs ls hS hl => lw_head hL C0 hi hm hS hl ek (lv_tableIn (off := 902) (tgt := 935) hx hb dL_law_33 (by decide) (by decide) rfl (by decide) (hg locs ls hS hl))) (cs_goBack hL C0 hK hm kk)
