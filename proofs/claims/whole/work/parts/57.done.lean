/-! ===== rate, raise, hostage, free, dies, undo ===== -/
theorem op_rate {N nP nB nH nG : Nat} {kr_drawn : Int32} {tx_signs : Nat → Int32} {tx_length : Int32} {tx_place : Int32} {tl_stands : Int32} {tl_death : Int32} {tl_payers : Int32} {tl_bids : Int32} {tl_hostages : Int32} {tl_bags : Int32} {tl_bagMarks : Int32} {tl_shy : Nat → Int32} {tl_bidOf : Nat → Int32} {tl_daysOf : Nat → Int32} {nw_price : Int32} {nw_months : Int32} {nw_chest : Int32} {nw_given : Int32} {nw_fate : Int32} {nw_goods : Nat → Int32} {nw_rates : Nat → Int32} {pa_next : Int32} {pa_count : Int32} {ps : Nat → krS} {i0_held : Int32} {i0_drawn : Int32} {i0s_price : Int32} {i0s_months : Int32} {i0s_chest : Int32} {i0s_given : Int32} {i0s_fate : Int32} {i0s_goods : Nat → Int32} {i0s_rates : Nat → Int32} {i1_held : Int32} {i1_drawn : Int32} {i1s_price : Int32} {i1s_months : Int32} {i1s_chest : Int32} {i1s_given : Int32} {i1s_fate : Int32} {i1s_goods : Nat → Int32} {i1s_rates : Nat → Int32} {sc_sets : Nat → Int32} {sc_weights : Nat → Int32} {sc_count : Int32} {bk_whose : Nat → Int32} {bk_goods : Nat → Int32} {bk_count : Int32} {mo_told : Nat → Int32} {mo_st : Nat → Int32} {mo_isThere : Int32} {mo_seed : Int32} {mo_text : Nat → Int32} {mo_typed : Int32} {mo_faultAt : Int32} {mo_ahead : Nat → Int32} {mo_undoMany : Int32} {mo_weighings : Nat → Int32} {mo_weighed : Int32} {mo_book : Nat → Int32} {mo_entries : Int32} {mo_isKept : Nat → Int32} {mo_kept : Nat → Int32} {mo_seeds : Nat → Int32} (hN : 20000 ≤ N) (h : Rel nP nB nH nG kr_drawn tx_signs tx_length tx_place tl_stands tl_death tl_payers tl_bids tl_hostages tl_bags tl_bagMarks tl_shy tl_bidOf tl_daysOf nw_price nw_months nw_chest nw_given nw_fate nw_goods nw_rates pa_next pa_count ps i0_held i0_drawn i0s_price i0s_months i0s_chest i0s_given i0s_fate i0s_goods i0s_rates i1_held i1_drawn i1s_price i1s_months i1s_chest i1s_given i1s_fate i1s_goods i1s_rates sc_sets sc_weights sc_count bk_whose bk_goods bk_count mo_told mo_st mo_isThere mo_seed mo_text mo_typed mo_faultAt mo_ahead mo_undoMany mo_weighings mo_weighed mo_book mo_entries mo_isKept mo_kept mo_seeds) (x1 : Int32) (x2 : Int32) : ∃ (r : Int32) (z_nw_rates : Nat → Int32) (z_pa_next : Int32) (z_pa_count : Int32) (z_ps : Nat → krS) (y_mo_st : Nat → Int32) (y_mo_ahead : Nat → Int32) (y_mo_undoMany : Int32), pX8_rate N x1 x2 tl_payers nw_price nw_months nw_chest nw_given nw_fate nw_goods nw_rates pa_next pa_count ps = some (r, z_nw_rates, z_pa_next, z_pa_count, z_ps) ∧ pX9_rate N x1 x2 mo_told mo_st mo_ahead mo_undoMany = some (r, y_mo_st, y_mo_ahead, y_mo_undoMany) ∧ Rel nP nB nH nG kr_drawn tx_signs tx_length tx_place tl_stands tl_death tl_payers tl_bids tl_hostages tl_bags tl_bagMarks tl_shy tl_bidOf tl_daysOf nw_price nw_months nw_chest nw_given nw_fate nw_goods z_nw_rates z_pa_next z_pa_count z_ps i0_held i0_drawn i0s_price i0s_months i0s_chest i0s_given i0s_fate i0s_goods i0s_rates i1_held i1_drawn i1s_price i1s_months i1s_chest i1s_given i1s_fate i1s_goods i1s_rates sc_sets sc_weights sc_count bk_whose bk_goods bk_count mo_told y_mo_st mo_isThere mo_seed mo_text mo_typed mo_faultAt y_mo_ahead y_mo_undoMany mo_weighings mo_weighed mo_book mo_entries mo_isKept mo_kept mo_seeds := by
  obtain ⟨h1, h2, h3, h4, h5, h6, h7, h8, h9⟩ := h
  obtain ⟨a2, b2, hP⟩ := h2.2.2.2.1
  subst a2
  unfold pX8_rate pX9_rate
  rw [kb1_t (isPayer8 x1 (n := nP) (by omega)), kb1_t (isPayer9 x1 b2), kb1_t (isRate8 x2), kb1_t (rate9 x2)]
  by_cases hx : ∃ j : Nat, j < nP ∧ x1 = nI j
  · rw [bI_t ((in_pred (by omega)).mpr hx), if_neg (show ¬ (1 : Int32) = 0 by decide), if_neg (show ¬ (1 : Int32) = 0 by decide)]
    obtain ⟨j, hj, rfl⟩ := hx
    by_cases hr : 0 ≤ x2 ∧ x2 ≤ 100
    · rw [bI_t hr, if_neg (show ¬ (1 : Int32) = 0 by decide), if_neg (show ¬ (1 : Int32) = 0 by decide)]
      obtain ⟨r2, hr2, rfl⟩ := i_of_le (n := 100) (by decide) hr.1 hr.2
      obtain ⟨zn, zc, zp, ya, ym, p1, p2, p3⟩ := push_note hN hP h4 h3
      have e6 : (6 : Int32) + nI j = nI (6 + j) := nI_k 6 j
      obtain ⟨a1, s2, s3, s4, s5, s6, gg, hgg, s7⟩ := h3
      obtain ⟨g1, g2, -⟩ := a1 j hj
      dsimp only at g1 g2 s2 s3 s4 s5 s6
      simp only [kl]
      rw [kb3_t p1, kb2_t p2, e6, if_neg (gI (n := 6) (by omega) (by decide)), if_neg (gI (n := 17) (by omega) (by decide)), nI_clamp (by omega), nI_clamp (by omega), g2]
      refine ⟨_, _, _, _, _, _, _, _, rfl, rfl, h1, h2, ⟨fun i hi => ?_, ?_, ?_, ?_, ?_, ?_, gg, hgg, ?_⟩, p3, h5, h6, h7, h8, h9⟩
      · dsimp only
        obtain ⟨k1, k2, q, r, hq, hr3, k3, k4⟩ := a1 i hi
        dsimp only at k1 k2
        rw [pk_un (show i ≠ 6 + j by omega)]
        by_cases hij : i = j
        · subst hij
          rw [pk_us, pk_us]
          exact ⟨k1, rfl, q, r2, hq, hr2, k3, rfl⟩
        · rw [pk_un hij, pk_un (show 6 + i ≠ 6 + j by omega)]
          exact ⟨k1, k2, q, r, hq, hr3, k3, k4⟩
      · dsimp only; rw [pk_un (by omega)]; exact s2
      · dsimp only; rw [pk_un (by omega)]; exact s3
      · dsimp only; rw [pk_un (by omega)]; exact s4
      · dsimp only; rw [pk_un (by omega)]; exact s5
      · dsimp only; rw [pk_un (by omega)]; exact s6
      · rw [pk_un (by omega)]; exact s7
    · rw [bI_f hr, if_pos rfl, if_pos rfl]
      exact ⟨_, _, _, _, _, _, _, _, rfl, rfl, h1, h2, h3, h4, h5, h6, h7, h8, h9⟩
  · rw [bI_f (fun z => hx ((in_pred (by omega)).mp z)), if_pos rfl, if_pos rfl]
    exact ⟨_, _, _, _, _, _, _, _, rfl, rfl, h1, h2, h3, h4, h5, h6, h7, h8, h9⟩
/-- a state with one of its five numbers otherwise -/
theorem rS_set {nP nH : Nat} (hP : nP ≤ 6) {p m c g f p2 c2 f2 : Int32} {go ra st st2 : Nat → Int32} (h : rS nP nH (p, m, c, g, f, go, ra) st) (e : ∀ k, k < 12 → st2 k = st k) (e12 : c2 = st2 12) (e13 : st2 13 = st 13) (e14 : p2 = st2 14) (e15 : st2 15 = st 15) (e16 : f2 = st2 16) : rS nP nH (p2, m, c2, g, f2, go, ra) st2 := by
  obtain ⟨a1, s2, s3, s4, s5, s6, gg, hgg, s7⟩ := h
  refine ⟨fun j hj => ?_, e12, by rw [e13]; exact s3, e14, by rw [e15]; exact s5, e16, gg, hgg, by rw [e15]; exact s7⟩
  rw [e j (by omega), e (6 + j) (by omega)]
  exact a1 j hj
theorem op_raise {N nP nB nH nG : Nat} {kr_drawn : Int32} {tx_signs : Nat → Int32} {tx_length : Int32} {tx_place : Int32} {tl_stands : Int32} {tl_death : Int32} {tl_payers : Int32} {tl_bids : Int32} {tl_hostages : Int32} {tl_bags : Int32} {tl_bagMarks : Int32} {tl_shy : Nat → Int32} {tl_bidOf : Nat → Int32} {tl_daysOf : Nat → Int32} {nw_price : Int32} {nw_months : Int32} {nw_chest : Int32} {nw_given : Int32} {nw_fate : Int32} {nw_goods : Nat → Int32} {nw_rates : Nat → Int32} {pa_next : Int32} {pa_count : Int32} {ps : Nat → krS} {i0_held : Int32} {i0_drawn : Int32} {i0s_price : Int32} {i0s_months : Int32} {i0s_chest : Int32} {i0s_given : Int32} {i0s_fate : Int32} {i0s_goods : Nat → Int32} {i0s_rates : Nat → Int32} {i1_held : Int32} {i1_drawn : Int32} {i1s_price : Int32} {i1s_months : Int32} {i1s_chest : Int32} {i1s_given : Int32} {i1s_fate : Int32} {i1s_goods : Nat → Int32} {i1s_rates : Nat → Int32} {sc_sets : Nat → Int32} {sc_weights : Nat → Int32} {sc_count : Int32} {bk_whose : Nat → Int32} {bk_goods : Nat → Int32} {bk_count : Int32} {mo_told : Nat → Int32} {mo_st : Nat → Int32} {mo_isThere : Int32} {mo_seed : Int32} {mo_text : Nat → Int32} {mo_typed : Int32} {mo_faultAt : Int32} {mo_ahead : Nat → Int32} {mo_undoMany : Int32} {mo_weighings : Nat → Int32} {mo_weighed : Int32} {mo_book : Nat → Int32} {mo_entries : Int32} {mo_isKept : Nat → Int32} {mo_kept : Nat → Int32} {mo_seeds : Nat → Int32} (hN : 20000 ≤ N) (h : Rel nP nB nH nG kr_drawn tx_signs tx_length tx_place tl_stands tl_death tl_payers tl_bids tl_hostages tl_bags tl_bagMarks tl_shy tl_bidOf tl_daysOf nw_price nw_months nw_chest nw_given nw_fate nw_goods nw_rates pa_next pa_count ps i0_held i0_drawn i0s_price i0s_months i0s_chest i0s_given i0s_fate i0s_goods i0s_rates i1_held i1_drawn i1s_price i1s_months i1s_chest i1s_given i1s_fate i1s_goods i1s_rates sc_sets sc_weights sc_count bk_whose bk_goods bk_count mo_told mo_st mo_isThere mo_seed mo_text mo_typed mo_faultAt mo_ahead mo_undoMany mo_weighings mo_weighed mo_book mo_entries mo_isKept mo_kept mo_seeds) (x1 : Int32) : ∃ (r : Int32) (z_nw_price : Int32) (z_pa_next : Int32) (z_pa_count : Int32) (z_ps : Nat → krS) (y_mo_st : Nat → Int32) (y_mo_ahead : Nat → Int32) (y_mo_undoMany : Int32), pX8_raise N x1 tl_stands nw_price nw_months nw_chest nw_given nw_fate nw_goods nw_rates pa_next pa_count ps = some (r, z_nw_price, z_pa_next, z_pa_count, z_ps) ∧ pX9_raise N x1 mo_st mo_isThere mo_ahead mo_undoMany = some (r, y_mo_st, y_mo_ahead, y_mo_undoMany) ∧ Rel nP nB nH nG kr_drawn tx_signs tx_length tx_place tl_stands tl_death tl_payers tl_bids tl_hostages tl_bags tl_bagMarks tl_shy tl_bidOf tl_daysOf z_nw_price nw_months nw_chest nw_given nw_fate nw_goods nw_rates z_pa_next z_pa_count z_ps i0_held i0_drawn i0s_price i0s_months i0s_chest i0s_given i0s_fate i0s_goods i0s_rates i1_held i1_drawn i1s_price i1s_months i1s_chest i1s_given i1s_fate i1s_goods i1s_rates sc_sets sc_weights sc_count bk_whose bk_goods bk_count mo_told y_mo_st mo_isThere mo_seed mo_text mo_typed mo_faultAt y_mo_ahead y_mo_undoMany mo_weighings mo_weighed mo_book mo_entries mo_isKept mo_kept mo_seeds := by
  obtain ⟨h1, h2, h3, h4, h5, h6, h7, h8, h9⟩ := h
  have hP := h2.2.2.2.1.2.2
  have e14 : nw_price = mo_st 14 := h3.2.2.2.1
  have e16 : nw_fate = mo_st 16 := h3.2.2.2.2.2.1
  have same : Rel nP nB nH nG kr_drawn tx_signs tx_length tx_place tl_stands tl_death tl_payers tl_bids tl_hostages tl_bags tl_bagMarks tl_shy tl_bidOf tl_daysOf nw_price nw_months nw_chest nw_given nw_fate nw_goods nw_rates pa_next pa_count ps i0_held i0_drawn i0s_price i0s_months i0s_chest i0s_given i0s_fate i0s_goods i0s_rates i1_held i1_drawn i1s_price i1s_months i1s_chest i1s_given i1s_fate i1s_goods i1s_rates sc_sets sc_weights sc_count bk_whose bk_goods bk_count mo_told mo_st mo_isThere mo_seed mo_text mo_typed mo_faultAt mo_ahead mo_undoMany mo_weighings mo_weighed mo_book mo_entries mo_isKept mo_kept mo_seeds := ⟨h1, h2, h3, h4, h5, h6, h7, h8, h9⟩
  unfold pX8_raise pX9_raise
  rw [kb1_t (in_k x1 1 999 (by decide) (by decide)), kept_eq h2.1 e16]
  by_cases h0 : x1 < 1
  · rw [if_pos h0, bI_f (fun z => i_nlt.mpr z.1 h0), if_pos rfl]
    exact ⟨_, _, _, _, _, _, _, _, rfl, rfl, same⟩
  rw [if_neg h0]
  by_cases hh : x1 ≤ 999
  · rw [if_pos hh, bI_t ⟨i_nlt.mp h0, hh⟩, if_neg (show ¬ (1 : Int32) = 0 by decide)]
    rcases kept_01 tl_stands nw_fate with hk | hk
    · rw [kb1_t hk, kb1_t hk, if_pos rfl, if_pos rfl]
      exact ⟨_, _, _, _, _, _, _, _, rfl, rfl, same⟩
    · rw [kb1_t hk, kb1_t hk, if_neg (show ¬ (1 : Int32) = 0 by decide), if_neg (show ¬ (1 : Int32) = 0 by decide)]
      obtain ⟨zn, zc, zp, ya, ym, p1, p2, p3⟩ := push_note hN hP h4 h3
      simp only [kl]
      rw [kb3_t p1, kb2_t p2, ← e14]
      unfold pX9_raise_L65
      rw [if_neg (show ¬ ((14 : Int32) < 0 ∨ 17 ≤ (14 : Int32).toNatClampNeg) by decide), if_neg (show ¬ ((14 : Int32) < 0 ∨ 17 ≤ (14 : Int32).toNatClampNeg) by decide), show (14 : Int32).toNatClampNeg = 14 by decide, pk_us, pk_us]
      have fin : ∀ v : Int32, rS nP nH (v, nw_months, nw_chest, nw_given, nw_fate, nw_goods, nw_rates) (upd mo_st 14 v) := fun v =>
        rS_set hP h3 (fun k hk => pk_un (by omega)) (by rw [pk_un (by decide)]; exact h3.2.1) (pk_un (by decide)) (pk_us).symm (pk_un (by decide)) (by rw [pk_un (by decide)]; exact e16)
      by_cases hc : nw_price + x1 < 9999
      · rw [if_pos hc, if_pos (i_le_of_lt hc)]
        exact ⟨_, _, _, _, _, _, _, _, rfl, rfl, h1, h2, fin _, p3, h5, h6, h7, h8, h9⟩
      · rw [if_neg hc]
        by_cases hd : nw_price + x1 ≤ 9999
        · rw [if_pos hd, i_asymm hd (i_nlt.mp hc)]
          exact ⟨_, _, _, _, _, _, _, _, rfl, rfl, h1, h2, fin _, p3, h5, h6, h7, h8, h9⟩
        · rw [if_neg hd]
          exact ⟨_, _, _, _, _, _, _, _, rfl, rfl, h1, h2, fin _, p3, h5, h6, h7, h8, h9⟩
  · rw [if_neg hh, bI_f (fun z => hh z.2), if_pos rfl]
    exact ⟨_, _, _, _, _, _, _, _, rfl, rfl, same⟩
def hostOk (n g j : Nat) : Bool := decide ((nI g >>> (nI j &&& 31)) &&& 1 = if (nI g &&& ((1 : Int32) <<< (nI j &&& 31))) = 0 then 0 else 1) && decide ((nI g ||| ((1 : Int32) <<< (nI j &&& 31))).toNatClampNeg < 2 ^ n) && decide (nI g ||| ((1 : Int32) <<< (nI j &&& 31)) = nI (nI g ||| ((1 : Int32) <<< (nI j &&& 31))).toNatClampNeg) && decide ((nI g &&& (((1 : Int32) <<< (nI j &&& 31)) ^^^ (-1))).toNatClampNeg < 2 ^ n) && decide (nI g &&& (((1 : Int32) <<< (nI j &&& 31)) ^^^ (-1)) = nI (nI g &&& (((1 : Int32) <<< (nI j &&& 31)) ^^^ (-1))).toNatClampNeg)
theorem host_all : (List.range 7).all (fun n => (List.range (2 ^ n)).all (fun g => (List.range n).all (fun j => hostOk n g j))) = true := by decide +kernel
theorem host_bits {n g j : Nat} (hn : n < 7) (hg : g < 2 ^ n) (hj : j < n) :
    ((nI g &&& ((1 : Int32) <<< (nI j &&& 31))) = 0 → (nI g >>> (nI j &&& 31)) &&& 1 = 0) ∧ (¬ (nI g &&& ((1 : Int32) <<< (nI j &&& 31))) = 0 → (nI g >>> (nI j &&& 31)) &&& 1 = 1) ∧
    ((nI g ||| ((1 : Int32) <<< (nI j &&& 31))).toNatClampNeg < 2 ^ n ∧ nI g ||| ((1 : Int32) <<< (nI j &&& 31)) = nI (nI g ||| ((1 : Int32) <<< (nI j &&& 31))).toNatClampNeg) ∧
    ((nI g &&& (((1 : Int32) <<< (nI j &&& 31)) ^^^ (-1))).toNatClampNeg < 2 ^ n ∧ nI g &&& (((1 : Int32) <<< (nI j &&& 31)) ^^^ (-1)) = nI (nI g &&& (((1 : Int32) <<< (nI j &&& 31)) ^^^ (-1))).toNatClampNeg) := by
  have h1 := List.all_eq_true.mp host_all n (List.mem_range.mpr hn)
  have h2 := List.all_eq_true.mp h1 g (List.mem_range.mpr hg)
  have h3 := List.all_eq_true.mp h2 j (List.mem_range.mpr hj)
  unfold hostOk at h3
  simp only [Bool.and_eq_true, decide_eq_true_eq] at h3
  obtain ⟨⟨⟨⟨a1, a2⟩, a3⟩, a4⟩, a5⟩ := h3
  refine ⟨fun h => ?_, fun h => ?_, ⟨a2, a3⟩, ⟨a4, a5⟩⟩
  · rw [a1, if_pos h]
  · rw [a1, if_neg h]
theorem op_hostage {N nP nB nH nG : Nat} {kr_drawn : Int32} {tx_signs : Nat → Int32} {tx_length : Int32} {tx_place : Int32} {tl_stands : Int32} {tl_death : Int32} {tl_payers : Int32} {tl_bids : Int32} {tl_hostages : Int32} {tl_bags : Int32} {tl_bagMarks : Int32} {tl_shy : Nat → Int32} {tl_bidOf : Nat → Int32} {tl_daysOf : Nat → Int32} {nw_price : Int32} {nw_months : Int32} {nw_chest : Int32} {nw_given : Int32} {nw_fate : Int32} {nw_goods : Nat → Int32} {nw_rates : Nat → Int32} {pa_next : Int32} {pa_count : Int32} {ps : Nat → krS} {i0_held : Int32} {i0_drawn : Int32} {i0s_price : Int32} {i0s_months : Int32} {i0s_chest : Int32} {i0s_given : Int32} {i0s_fate : Int32} {i0s_goods : Nat → Int32} {i0s_rates : Nat → Int32} {i1_held : Int32} {i1_drawn : Int32} {i1s_price : Int32} {i1s_months : Int32} {i1s_chest : Int32} {i1s_given : Int32} {i1s_fate : Int32} {i1s_goods : Nat → Int32} {i1s_rates : Nat → Int32} {sc_sets : Nat → Int32} {sc_weights : Nat → Int32} {sc_count : Int32} {bk_whose : Nat → Int32} {bk_goods : Nat → Int32} {bk_count : Int32} {mo_told : Nat → Int32} {mo_st : Nat → Int32} {mo_isThere : Int32} {mo_seed : Int32} {mo_text : Nat → Int32} {mo_typed : Int32} {mo_faultAt : Int32} {mo_ahead : Nat → Int32} {mo_undoMany : Int32} {mo_weighings : Nat → Int32} {mo_weighed : Int32} {mo_book : Nat → Int32} {mo_entries : Int32} {mo_isKept : Nat → Int32} {mo_kept : Nat → Int32} {mo_seeds : Nat → Int32} (hN : 20000 ≤ N) (h : Rel nP nB nH nG kr_drawn tx_signs tx_length tx_place tl_stands tl_death tl_payers tl_bids tl_hostages tl_bags tl_bagMarks tl_shy tl_bidOf tl_daysOf nw_price nw_months nw_chest nw_given nw_fate nw_goods nw_rates pa_next pa_count ps i0_held i0_drawn i0s_price i0s_months i0s_chest i0s_given i0s_fate i0s_goods i0s_rates i1_held i1_drawn i1s_price i1s_months i1s_chest i1s_given i1s_fate i1s_goods i1s_rates sc_sets sc_weights sc_count bk_whose bk_goods bk_count mo_told mo_st mo_isThere mo_seed mo_text mo_typed mo_faultAt mo_ahead mo_undoMany mo_weighings mo_weighed mo_book mo_entries mo_isKept mo_kept mo_seeds) (x1 : Int32) (x2 : Int32) : ∃ (r : Int32) (z_nw_given : Int32) (z_pa_next : Int32) (z_pa_count : Int32) (z_ps : Nat → krS) (y_mo_st : Nat → Int32) (y_mo_ahead : Nat → Int32) (y_mo_undoMany : Int32), pX8_hostage N x1 x2 tl_hostages nw_price nw_months nw_chest nw_given nw_fate nw_goods nw_rates pa_next pa_count ps = some (r, z_nw_given, z_pa_next, z_pa_count, z_ps) ∧ pX9_hostage N x1 x2 mo_told mo_st mo_ahead mo_undoMany = some (r, y_mo_st, y_mo_ahead, y_mo_undoMany) ∧ Rel nP nB nH nG kr_drawn tx_signs tx_length tx_place tl_stands tl_death tl_payers tl_bids tl_hostages tl_bags tl_bagMarks tl_shy tl_bidOf tl_daysOf nw_price nw_months nw_chest z_nw_given nw_fate nw_goods nw_rates z_pa_next z_pa_count z_ps i0_held i0_drawn i0s_price i0s_months i0s_chest i0s_given i0s_fate i0s_goods i0s_rates i1_held i1_drawn i1s_price i1s_months i1s_chest i1s_given i1s_fate i1s_goods i1s_rates sc_sets sc_weights sc_count bk_whose bk_goods bk_count mo_told y_mo_st mo_isThere mo_seed mo_text mo_typed mo_faultAt y_mo_ahead y_mo_undoMany mo_weighings mo_weighed mo_book mo_entries mo_isKept mo_kept mo_seeds := by
  obtain ⟨h1, h2, h3, h4, h5, h6, h7, h8, h9⟩ := h
  have hP := h2.2.2.2.1.2.2
  obtain ⟨a4, b4, hH⟩ := h2.2.2.2.2.2.1
  subst a4
  unfold pX8_hostage pX9_hostage
  rw [b4, kb1_t (in_m x1 0 (nI nH - 1) (by decide))]
  by_cases hx : ∃ j : Nat, j < nH ∧ x1 = nI j
  · rw [bI_t ((in_pred (by omega)).mpr hx), if_neg (show ¬ (1 : Int32) = 0 by decide)]
    obtain ⟨j, hj, rfl⟩ := hx
    rw [if_neg (nI_pos (by omega)), if_pos (nI_lt hj (by omega))]
    obtain ⟨zn, zc, zp, ya, ym, p1, p2, p3⟩ := push_note hN hP h4 h3
    obtain ⟨a1, s2, s3, s4, s5, s6, gg, hgg, s7⟩ := h3
    dsimp only at s2 s3 s4 s5 s6
    obtain ⟨k1, k2, ⟨k3, k4⟩, k5, k6⟩ := host_bits (n := nH) (by omega) hgg hj
    have fin : ∀ v : Int32, (∃ q : Nat, q < 2 ^ nH ∧ v = nI q) → rS nP nH (nw_price, nw_months, nw_chest, v, nw_fate, nw_goods, nw_rates) (upd mo_st 15 v) := by
      intro v ⟨q, hq, hv⟩
      refine ⟨fun i hi => ?_, by rw [pk_un (by decide)]; exact s2, by rw [pk_un (by decide)]; exact s3, by rw [pk_un (by decide)]; exact s4, (pk_us).symm, by rw [pk_un (by decide)]; exact s6, q, hq, by rw [pk_us]; exact hv⟩
      rw [pk_un (show i ≠ 15 by omega), pk_un (show 6 + i ≠ 15 by omega)]
      exact a1 i hi
    simp only [kl]
    rw [kb3_t p1, kb2_t p2, s5, s7]
    unfold pX8_hostage_L50 pX8_hostage_L83 pX9_hostage_L74
    rw [if_neg (show ¬ ((15 : Int32) < 0 ∨ 17 ≤ (15 : Int32).toNatClampNeg) by decide), if_neg (show ¬ ((15 : Int32) < 0 ∨ 17 ≤ (15 : Int32).toNatClampNeg) by decide), show (15 : Int32).toNatClampNeg = 15 by decide]
    by_cases hb : (nI gg &&& ((1 : Int32) <<< (nI j &&& 31))) = 0
    · rw [if_pos hb, k1 hb]
      by_cases h0 : x2 = 0
      · rw [if_pos h0, if_pos h0]
        exact ⟨_, _, _, _, _, _, _, _, rfl, rfl, h1, h2, fin _ ⟨_, k5, k6⟩, p3, h5, h6, h7, h8, h9⟩
      · rw [if_neg h0, if_neg h0]
        exact ⟨_, _, _, _, _, _, _, _, rfl, rfl, h1, h2, fin _ ⟨_, k3, k4⟩, p3, h5, h6, h7, h8, h9⟩
    · rw [if_neg hb, k2 hb]
      by_cases h0 : x2 = 0
      · rw [if_pos h0, if_pos h0]
        exact ⟨_, _, _, _, _, _, _, _, rfl, rfl, h1, h2, fin _ ⟨_, k5, k6⟩, p3, h5, h6, h7, h8, h9⟩
      · rw [if_neg h0, if_neg h0]
        exact ⟨_, _, _, _, _, _, _, _, rfl, rfl, h1, h2, fin _ ⟨_, k3, k4⟩, p3, h5, h6, h7, h8, h9⟩
  · rw [bI_f (fun z => hx ((in_pred (by omega)).mp z)), if_pos rfl]
    rcases i_out (by omega) hx with g1 | ⟨g1, g2⟩
    · rw [if_pos g1]; exact ⟨_, _, _, _, _, _, _, _, rfl, rfl, h1, h2, h3, h4, h5, h6, h7, h8, h9⟩
    · rw [if_neg g1, if_neg (i_nlt.mpr g2)]; exact ⟨_, _, _, _, _, _, _, _, rfl, rfl, h1, h2, h3, h4, h5, h6, h7, h8, h9⟩
theorem g64 {n g : Nat} (hn : n ≤ 6) (hg : g < 2 ^ n) : g < 64 := Nat.lt_of_lt_of_le hg (Nat.pow_le_pow_right (n := 2) (by decide) hn)
theorem op_free {N nP nB nH nG : Nat} {kr_drawn : Int32} {tx_signs : Nat → Int32} {tx_length : Int32} {tx_place : Int32} {tl_stands : Int32} {tl_death : Int32} {tl_payers : Int32} {tl_bids : Int32} {tl_hostages : Int32} {tl_bags : Int32} {tl_bagMarks : Int32} {tl_shy : Nat → Int32} {tl_bidOf : Nat → Int32} {tl_daysOf : Nat → Int32} {nw_price : Int32} {nw_months : Int32} {nw_chest : Int32} {nw_given : Int32} {nw_fate : Int32} {nw_goods : Nat → Int32} {nw_rates : Nat → Int32} {pa_next : Int32} {pa_count : Int32} {ps : Nat → krS} {i0_held : Int32} {i0_drawn : Int32} {i0s_price : Int32} {i0s_months : Int32} {i0s_chest : Int32} {i0s_given : Int32} {i0s_fate : Int32} {i0s_goods : Nat → Int32} {i0s_rates : Nat → Int32} {i1_held : Int32} {i1_drawn : Int32} {i1s_price : Int32} {i1s_months : Int32} {i1s_chest : Int32} {i1s_given : Int32} {i1s_fate : Int32} {i1s_goods : Nat → Int32} {i1s_rates : Nat → Int32} {sc_sets : Nat → Int32} {sc_weights : Nat → Int32} {sc_count : Int32} {bk_whose : Nat → Int32} {bk_goods : Nat → Int32} {bk_count : Int32} {mo_told : Nat → Int32} {mo_st : Nat → Int32} {mo_isThere : Int32} {mo_seed : Int32} {mo_text : Nat → Int32} {mo_typed : Int32} {mo_faultAt : Int32} {mo_ahead : Nat → Int32} {mo_undoMany : Int32} {mo_weighings : Nat → Int32} {mo_weighed : Int32} {mo_book : Nat → Int32} {mo_entries : Int32} {mo_isKept : Nat → Int32} {mo_kept : Nat → Int32} {mo_seeds : Nat → Int32} (hN : 20000 ≤ N) (h : Rel nP nB nH nG kr_drawn tx_signs tx_length tx_place tl_stands tl_death tl_payers tl_bids tl_hostages tl_bags tl_bagMarks tl_shy tl_bidOf tl_daysOf nw_price nw_months nw_chest nw_given nw_fate nw_goods nw_rates pa_next pa_count ps i0_held i0_drawn i0s_price i0s_months i0s_chest i0s_given i0s_fate i0s_goods i0s_rates i1_held i1_drawn i1s_price i1s_months i1s_chest i1s_given i1s_fate i1s_goods i1s_rates sc_sets sc_weights sc_count bk_whose bk_goods bk_count mo_told mo_st mo_isThere mo_seed mo_text mo_typed mo_faultAt mo_ahead mo_undoMany mo_weighings mo_weighed mo_book mo_entries mo_isKept mo_kept mo_seeds) : ∃ (r : Int32) (z_nw_chest : Int32) (z_nw_fate : Int32) (z_pa_next : Int32) (z_pa_count : Int32) (z_ps : Nat → krS) (y_mo_st : Nat → Int32) (y_mo_ahead : Nat → Int32) (y_mo_undoMany : Int32), pX8_free N tl_stands nw_price nw_months nw_chest nw_given nw_fate nw_goods nw_rates pa_next pa_count ps = some (r, z_nw_chest, z_nw_fate, z_pa_next, z_pa_count, z_ps) ∧ pX9_free N mo_st mo_isThere mo_ahead mo_undoMany = some (r, y_mo_st, y_mo_ahead, y_mo_undoMany) ∧ Rel nP nB nH nG kr_drawn tx_signs tx_length tx_place tl_stands tl_death tl_payers tl_bids tl_hostages tl_bags tl_bagMarks tl_shy tl_bidOf tl_daysOf nw_price nw_months z_nw_chest nw_given z_nw_fate nw_goods nw_rates z_pa_next z_pa_count z_ps i0_held i0_drawn i0s_price i0s_months i0s_chest i0s_given i0s_fate i0s_goods i0s_rates i1_held i1_drawn i1s_price i1s_months i1s_chest i1s_given i1s_fate i1s_goods i1s_rates sc_sets sc_weights sc_count bk_whose bk_goods bk_count mo_told y_mo_st mo_isThere mo_seed mo_text mo_typed mo_faultAt y_mo_ahead y_mo_undoMany mo_weighings mo_weighed mo_book mo_entries mo_isKept mo_kept mo_seeds := by
  obtain ⟨h1, h2, h3, h4, h5, h6, h7, h8, h9⟩ := h
  have hP := h2.2.2.2.1.2.2
  have hH := h2.2.2.2.2.2.1.2.2
  have e12 : nw_chest = mo_st 12 := h3.2.1
  have e14 : nw_price = mo_st 14 := h3.2.2.2.1
  have e15 : nw_given = mo_st 15 := h3.2.2.2.2.1
  have e16 : nw_fate = mo_st 16 := h3.2.2.2.2.2.1
  obtain ⟨gg, hgg, s7⟩ := h3.2.2.2.2.2.2
  obtain ⟨x, c1, c2⟩ := cost_eq hN (g64 hH hgg) e14 e15 s7
  have same : Rel nP nB nH nG kr_drawn tx_signs tx_length tx_place tl_stands tl_death tl_payers tl_bids tl_hostages tl_bags tl_bagMarks tl_shy tl_bidOf tl_daysOf nw_price nw_months nw_chest nw_given nw_fate nw_goods nw_rates pa_next pa_count ps i0_held i0_drawn i0s_price i0s_months i0s_chest i0s_given i0s_fate i0s_goods i0s_rates i1_held i1_drawn i1s_price i1s_months i1s_chest i1s_given i1s_fate i1s_goods i1s_rates sc_sets sc_weights sc_count bk_whose bk_goods bk_count mo_told mo_st mo_isThere mo_seed mo_text mo_typed mo_faultAt mo_ahead mo_undoMany mo_weighings mo_weighed mo_book mo_entries mo_isKept mo_kept mo_seeds := ⟨h1, h2, h3, h4, h5, h6, h7, h8, h9⟩
  unfold pX8_free pX9_free
  rw [kept_eq h2.1 e16]
  rcases kept_01 tl_stands nw_fate with hk | hk
  · rw [kb1_t hk, kb1_t hk, if_pos rfl, if_pos rfl]
    exact ⟨_, _, _, _, _, _, _, _, _, rfl, rfl, same⟩
  · rw [kb1_t hk, kb1_t hk, if_neg (show ¬ (1 : Int32) = 0 by decide), if_neg (show ¬ (1 : Int32) = 0 by decide), kb1_t c1, kb1_t c2, ← e12]
    by_cases hc : x ≤ nw_chest
    · rw [if_pos hc, if_pos hc]
      obtain ⟨zn, zc, zp, ya, ym, p1, p2, p3⟩ := push_note hN hP h4 h3
      rw [kb3_t p1, kb2_t p2, kb1_t c1, kb1_t c2, pk_un (show (12 : Nat) ≠ 16 by decide), pk_us]
      refine ⟨_, _, _, _, _, _, _, _, _, rfl, rfl, h1, h2, ?_, p3, h5, h6, h7, h8, h9⟩
      exact rS_set hP h3 (fun k hk => by rw [pk_un (by omega), pk_un (by omega)]) (by rw [pk_un (by decide), pk_us]) (by rw [pk_un (by decide), pk_un (by decide)]) (by rw [pk_un (by decide), pk_un (by decide)]; exact e14) (by rw [pk_un (by decide), pk_un (by decide)]) (pk_us).symm
    · rw [if_neg hc, if_neg hc]
      exact ⟨_, _, _, _, _, _, _, _, _, rfl, rfl, same⟩
theorem op_dies {N nP nB nH nG : Nat} {kr_drawn : Int32} {tx_signs : Nat → Int32} {tx_length : Int32} {tx_place : Int32} {tl_stands : Int32} {tl_death : Int32} {tl_payers : Int32} {tl_bids : Int32} {tl_hostages : Int32} {tl_bags : Int32} {tl_bagMarks : Int32} {tl_shy : Nat → Int32} {tl_bidOf : Nat → Int32} {tl_daysOf : Nat → Int32} {nw_price : Int32} {nw_months : Int32} {nw_chest : Int32} {nw_given : Int32} {nw_fate : Int32} {nw_goods : Nat → Int32} {nw_rates : Nat → Int32} {pa_next : Int32} {pa_count : Int32} {ps : Nat → krS} {i0_held : Int32} {i0_drawn : Int32} {i0s_price : Int32} {i0s_months : Int32} {i0s_chest : Int32} {i0s_given : Int32} {i0s_fate : Int32} {i0s_goods : Nat → Int32} {i0s_rates : Nat → Int32} {i1_held : Int32} {i1_drawn : Int32} {i1s_price : Int32} {i1s_months : Int32} {i1s_chest : Int32} {i1s_given : Int32} {i1s_fate : Int32} {i1s_goods : Nat → Int32} {i1s_rates : Nat → Int32} {sc_sets : Nat → Int32} {sc_weights : Nat → Int32} {sc_count : Int32} {bk_whose : Nat → Int32} {bk_goods : Nat → Int32} {bk_count : Int32} {mo_told : Nat → Int32} {mo_st : Nat → Int32} {mo_isThere : Int32} {mo_seed : Int32} {mo_text : Nat → Int32} {mo_typed : Int32} {mo_faultAt : Int32} {mo_ahead : Nat → Int32} {mo_undoMany : Int32} {mo_weighings : Nat → Int32} {mo_weighed : Int32} {mo_book : Nat → Int32} {mo_entries : Int32} {mo_isKept : Nat → Int32} {mo_kept : Nat → Int32} {mo_seeds : Nat → Int32} (hN : 20000 ≤ N) (h : Rel nP nB nH nG kr_drawn tx_signs tx_length tx_place tl_stands tl_death tl_payers tl_bids tl_hostages tl_bags tl_bagMarks tl_shy tl_bidOf tl_daysOf nw_price nw_months nw_chest nw_given nw_fate nw_goods nw_rates pa_next pa_count ps i0_held i0_drawn i0s_price i0s_months i0s_chest i0s_given i0s_fate i0s_goods i0s_rates i1_held i1_drawn i1s_price i1s_months i1s_chest i1s_given i1s_fate i1s_goods i1s_rates sc_sets sc_weights sc_count bk_whose bk_goods bk_count mo_told mo_st mo_isThere mo_seed mo_text mo_typed mo_faultAt mo_ahead mo_undoMany mo_weighings mo_weighed mo_book mo_entries mo_isKept mo_kept mo_seeds) : ∃ (r : Int32) (z_nw_fate : Int32) (z_pa_next : Int32) (z_pa_count : Int32) (z_ps : Nat → krS) (y_mo_st : Nat → Int32) (y_mo_ahead : Nat → Int32) (y_mo_undoMany : Int32), pX8_dies N tl_stands nw_price nw_months nw_chest nw_given nw_fate nw_goods nw_rates pa_next pa_count ps = some (r, z_nw_fate, z_pa_next, z_pa_count, z_ps) ∧ pX9_dies N mo_st mo_isThere mo_ahead mo_undoMany = some (r, y_mo_st, y_mo_ahead, y_mo_undoMany) ∧ Rel nP nB nH nG kr_drawn tx_signs tx_length tx_place tl_stands tl_death tl_payers tl_bids tl_hostages tl_bags tl_bagMarks tl_shy tl_bidOf tl_daysOf nw_price nw_months nw_chest nw_given z_nw_fate nw_goods nw_rates z_pa_next z_pa_count z_ps i0_held i0_drawn i0s_price i0s_months i0s_chest i0s_given i0s_fate i0s_goods i0s_rates i1_held i1_drawn i1s_price i1s_months i1s_chest i1s_given i1s_fate i1s_goods i1s_rates sc_sets sc_weights sc_count bk_whose bk_goods bk_count mo_told y_mo_st mo_isThere mo_seed mo_text mo_typed mo_faultAt y_mo_ahead y_mo_undoMany mo_weighings mo_weighed mo_book mo_entries mo_isKept mo_kept mo_seeds := by
  obtain ⟨h1, h2, h3, h4, h5, h6, h7, h8, h9⟩ := h
  have hP := h2.2.2.2.1.2.2
  have e13 : nw_months = mo_st 13 := h3.2.2.1
  have e16 : nw_fate = mo_st 16 := h3.2.2.2.2.2.1
  unfold pX8_dies pX9_dies
  rw [kept_eq h2.1 e16]
  rcases kept_01 tl_stands nw_fate with hk | hk
  · rw [kb1_t hk, kb1_t hk, if_pos rfl, if_pos rfl]
    exact ⟨_, _, _, _, _, _, _, _, rfl, rfl, h1, h2, h3, h4, h5, h6, h7, h8, h9⟩
  · obtain ⟨zn, zc, zp, ya, ym, p1, p2, p3⟩ := push_note hN hP h4 h3
    rw [kb1_t hk, kb1_t hk, if_neg (show ¬ (1 : Int32) = 0 by decide), if_neg (show ¬ (1 : Int32) = 0 by decide), kb3_t p1, kb2_t p2, pk_un (show (13 : Nat) ≠ 16 by decide), ← e13]
    refine ⟨_, _, _, _, _, _, _, _, rfl, rfl, h1, h2, ?_, p3, h5, h6, h7, h8, h9⟩
    exact rS_set hP h3 (fun k hk => pk_un (by omega)) (by rw [pk_un (by decide)]; exact h3.2.1) (pk_un (by decide)) (by rw [pk_un (by decide)]; exact h3.2.2.2.1) (pk_un (by decide)) (pk_us).symm
theorem op_undo {N nP nB nH nG : Nat} {kr_drawn : Int32} {tx_signs : Nat → Int32} {tx_length : Int32} {tx_place : Int32} {tl_stands : Int32} {tl_death : Int32} {tl_payers : Int32} {tl_bids : Int32} {tl_hostages : Int32} {tl_bags : Int32} {tl_bagMarks : Int32} {tl_shy : Nat → Int32} {tl_bidOf : Nat → Int32} {tl_daysOf : Nat → Int32} {nw_price : Int32} {nw_months : Int32} {nw_chest : Int32} {nw_given : Int32} {nw_fate : Int32} {nw_goods : Nat → Int32} {nw_rates : Nat → Int32} {pa_next : Int32} {pa_count : Int32} {ps : Nat → krS} {i0_held : Int32} {i0_drawn : Int32} {i0s_price : Int32} {i0s_months : Int32} {i0s_chest : Int32} {i0s_given : Int32} {i0s_fate : Int32} {i0s_goods : Nat → Int32} {i0s_rates : Nat → Int32} {i1_held : Int32} {i1_drawn : Int32} {i1s_price : Int32} {i1s_months : Int32} {i1s_chest : Int32} {i1s_given : Int32} {i1s_fate : Int32} {i1s_goods : Nat → Int32} {i1s_rates : Nat → Int32} {sc_sets : Nat → Int32} {sc_weights : Nat → Int32} {sc_count : Int32} {bk_whose : Nat → Int32} {bk_goods : Nat → Int32} {bk_count : Int32} {mo_told : Nat → Int32} {mo_st : Nat → Int32} {mo_isThere : Int32} {mo_seed : Int32} {mo_text : Nat → Int32} {mo_typed : Int32} {mo_faultAt : Int32} {mo_ahead : Nat → Int32} {mo_undoMany : Int32} {mo_weighings : Nat → Int32} {mo_weighed : Int32} {mo_book : Nat → Int32} {mo_entries : Int32} {mo_isKept : Nat → Int32} {mo_kept : Nat → Int32} {mo_seeds : Nat → Int32} (hN : 20000 ≤ N) (h : Rel nP nB nH nG kr_drawn tx_signs tx_length tx_place tl_stands tl_death tl_payers tl_bids tl_hostages tl_bags tl_bagMarks tl_shy tl_bidOf tl_daysOf nw_price nw_months nw_chest nw_given nw_fate nw_goods nw_rates pa_next pa_count ps i0_held i0_drawn i0s_price i0s_months i0s_chest i0s_given i0s_fate i0s_goods i0s_rates i1_held i1_drawn i1s_price i1s_months i1s_chest i1s_given i1s_fate i1s_goods i1s_rates sc_sets sc_weights sc_count bk_whose bk_goods bk_count mo_told mo_st mo_isThere mo_seed mo_text mo_typed mo_faultAt mo_ahead mo_undoMany mo_weighings mo_weighed mo_book mo_entries mo_isKept mo_kept mo_seeds) : ∃ (r : Int32) (z_nw_price : Int32) (z_nw_months : Int32) (z_nw_chest : Int32) (z_nw_given : Int32) (z_nw_fate : Int32) (z_nw_goods : Nat → Int32) (z_nw_rates : Nat → Int32) (z_pa_next : Int32) (z_pa_count : Int32) (y_mo_st : Nat → Int32) (y_mo_undoMany : Int32), pX8_undo N nw_price nw_months nw_chest nw_given nw_fate nw_goods nw_rates pa_next pa_count ps = some (r, z_nw_price, z_nw_months, z_nw_chest, z_nw_given, z_nw_fate, z_nw_goods, z_nw_rates, z_pa_next, z_pa_count) ∧ pX9_undo N mo_st mo_ahead mo_undoMany = some (r, y_mo_st, y_mo_undoMany) ∧ Rel nP nB nH nG kr_drawn tx_signs tx_length tx_place tl_stands tl_death tl_payers tl_bids tl_hostages tl_bags tl_bagMarks tl_shy tl_bidOf tl_daysOf z_nw_price z_nw_months z_nw_chest z_nw_given z_nw_fate z_nw_goods z_nw_rates z_pa_next z_pa_count ps i0_held i0_drawn i0s_price i0s_months i0s_chest i0s_given i0s_fate i0s_goods i0s_rates i1_held i1_drawn i1s_price i1s_months i1s_chest i1s_given i1s_fate i1s_goods i1s_rates sc_sets sc_weights sc_count bk_whose bk_goods bk_count mo_told y_mo_st mo_isThere mo_seed mo_text mo_typed mo_faultAt mo_ahead y_mo_undoMany mo_weighings mo_weighed mo_book mo_entries mo_isKept mo_kept mo_seeds := by
  obtain ⟨h1, h2, h3, ⟨a, c, ha, hc, e1, e2, e3, hr⟩, h5, h6, h7, h8, h9⟩ := h
  have hP := h2.2.2.2.1.2.2
  subst e1 e2 e3
  unfold pX8_undo pX9_undo pX2_pop
  rcases Nat.eq_zero_or_pos c with h0 | h0
  · subst h0
    rw [if_pos (show nI 0 = 0 from rfl), if_pos (show nI 0 = 0 from rfl), kb10_e, if_pos rfl]
    exact ⟨_, _, _, _, _, _, _, _, _, _, _, _, rfl, rfl, h1, h2, h3, ⟨a, 0, ha, hc, rfl, rfl, rfl, hr⟩, h5, h6, h7, h8, h9⟩
  · obtain ⟨c, rfl⟩ : ∃ q, c = q + 1 := ⟨c - 1, by omega⟩
    have hne : ¬ nI (c + 1) = 0 := nI_ne0 (by omega) (by omega)
    have ey : nI a + 20 - 1 - (nI a + 20 - 1) / 20 * 20 = nI ((a + 19) % 20) := by
      have e : nI a + 20 - 1 = nI (a + 19) := by rw [show nI a + (20 : Int32) = nI (a + 19 + 1) from nI_add a 20]; exact nI_pred _
      rw [e]; exact pk_rem (d := 20) (by omega) (by decide) (by decide)
    simp only [kl]
    rw [if_neg hne, if_neg hne, ey, if_neg (gI (n := 20) (by omega) (by decide)), nI_clamp (by omega), nI_pred]
    obtain ⟨go2, ra2, b1, b2⟩ := become_eq hN nw_goods nw_rates (ps ((a + 19) % 20)).1 (ps ((a + 19) % 20)).2.1 (ps ((a + 19) % 20)).2.2.1 (ps ((a + 19) % 20)).2.2.2.1 (ps ((a + 19) % 20)).2.2.2.2.1 (ps ((a + 19) % 20)).2.2.2.2.2.1 (ps ((a + 19) % 20)).2.2.2.2.2.2
    obtain ⟨s2, u1, u2⟩ := undo_loop (ahead := mo_ahead) (c := c) (by omega) 17 0 (by omega) N (by omega) mo_st
    have u1 : pX9_undo_L22 mo_ahead N 0 mo_st (nI c) = some (nI c, s2, nI c) := u1
    rw [kb7_t' b1, kb10_e, if_neg (show ¬ (1 : Int32) = 0 by decide), u1]
    have hlast := hr c (by omega)
    have ei : (a + 20 - (c + 1) + c) % 20 = (a + 19) % 20 := by omega
    rw [ei] at hlast
    have hlast2 := rS_congr (g := s2) hlast hP (fun k hk => by rw [u2 k, if_pos (by omega)])
    refine ⟨_, _, _, _, _, _, _, _, _, _, _, _, rfl, rfl, h1, h2, rS_rows hlast2 hP b2, ⟨(a + 19) % 20, c, by omega, by omega, rfl, rfl, rfl, fun i hi => ?_⟩, h5, h6, h7, h8, h9⟩
    have e5 : ((a + 19) % 20 + 20 - c + i) % 20 = (a + 20 - (c + 1) + i) % 20 := by omega
    rw [e5]
    exact hr i (by omega)
