/-! ===== sell, letters, lives, weigh, write, judge ===== -/
theorem addm1 (i : Nat) : nI i + (-1) = nI i - 1 := by
  cases i with
  | zero => decide
  | succ i => rw [pk_m1, nI_pred]
theorem fuel {n k : Nat} (h : k < n) : ∃ q, n = q + 1 := ⟨n - 1, by omega⟩
theorem sell_sim (x1 x2 de : Int32) (h0 : ¬ x1 < 0) {nB : Nat} (hB : nB ≤ 9) {bo told : Nat → Int32} (h1 : told 1 = de) (hb : ∀ j, j < nB → bo j = told (19 + j)) : ∀ (i : Nat), i ≤ nB → ∀ (n m : Nat), i < n → i < m → ∀ (w t : Int32), ∃ x, pX8_sell_L44 x1 x2 de bo n w t (nI i - 1) = some x ∧ pX9_sell_L46 x1 x2 told m w t (nI i - 1) = some x := by
  intro i
  induction i with
  | zero =>
    intro hi n m hn hm w t
    obtain ⟨n, rfl⟩ := fuel hn
    obtain ⟨m, rfl⟩ := fuel hm
    have hlt : nI 0 - 1 < x1 := by
      have h2 := i_nlt.mp h0
      rw [fa_le] at h2
      rw [fa_lt]
      have e1 : (nI 0 - 1 : Int32).toInt = -1 := by decide
      have e2 : (0 : Int32).toInt = 0 := by decide
      rw [e1]; rw [e2] at h2; omega
    rw [pX8_sell_L44, pX9_sell_L46, if_pos hlt, if_pos hlt]
    by_cases hx : x2 = 0
    · rw [if_pos hx]; exact ⟨_, rfl, rfl⟩
    · rw [if_neg hx]; exact ⟨_, rfl, rfl⟩
  | succ i ih =>
    intro hi n m hn hm w t
    obtain ⟨n, rfl⟩ := fuel hn
    obtain ⟨m, rfl⟩ := fuel hm
    rw [nI_pred, pX8_sell_L44, pX9_sell_L46]
    by_cases hlt : nI i < x1
    · rw [if_pos hlt, if_pos hlt]
      by_cases hx : x2 = 0
      · rw [if_pos hx]; exact ⟨_, rfl, rfl⟩
      · rw [if_neg hx]; exact ⟨_, rfl, rfl⟩
    · have e19 : (19 : Int32) + nI i = nI (19 + i) := nI_k 19 i
      simp only [kl]
      rw [if_neg hlt, if_neg hlt, if_neg (gI (n := 9) (by omega) (by decide)), e19, if_neg (gI (n := 37) (by omega) (by decide)), nI_clamp (by omega), nI_clamp (by omega), h1, hb i (by omega)]
      unfold pX9_sell_L88 pX9_sell_L110 pX9_sell_L123 pX8_sell_L90
      rw [e19, if_neg (gI (n := 37) (by omega) (by decide)), if_neg (gI (n := 37) (by omega) (by decide)), nI_clamp (by omega), if_pos rfl, if_pos rfl, if_neg (show ¬ (1 : Int32) = 0 by decide), if_neg (show ¬ (1 : Int32) = 0 by decide), addm1]
      by_cases hc : told (19 + i) < w * (100 - de) / 100
      · rw [if_pos hc, if_pos hc, if_pos hc]
        exact ih (by omega) n m (by omega) (by omega) _ _
      · rw [if_neg hc, if_neg hc, if_neg hc]
        exact ih (by omega) n m (by omega) (by omega) _ _
theorem op_sell {N nP nB nH nG : Nat} {kr_drawn : Int32} {tx_signs : Nat → Int32} {tx_length : Int32} {tx_place : Int32} {tl_stands : Int32} {tl_death : Int32} {tl_payers : Int32} {tl_bids : Int32} {tl_hostages : Int32} {tl_bags : Int32} {tl_bagMarks : Int32} {tl_shy : Nat → Int32} {tl_bidOf : Nat → Int32} {tl_daysOf : Nat → Int32} {nw_price : Int32} {nw_months : Int32} {nw_chest : Int32} {nw_given : Int32} {nw_fate : Int32} {nw_goods : Nat → Int32} {nw_rates : Nat → Int32} {pa_next : Int32} {pa_count : Int32} {ps : Nat → krS} {i0_held : Int32} {i0_drawn : Int32} {i0s_price : Int32} {i0s_months : Int32} {i0s_chest : Int32} {i0s_given : Int32} {i0s_fate : Int32} {i0s_goods : Nat → Int32} {i0s_rates : Nat → Int32} {i1_held : Int32} {i1_drawn : Int32} {i1s_price : Int32} {i1s_months : Int32} {i1s_chest : Int32} {i1s_given : Int32} {i1s_fate : Int32} {i1s_goods : Nat → Int32} {i1s_rates : Nat → Int32} {sc_sets : Nat → Int32} {sc_weights : Nat → Int32} {sc_count : Int32} {bk_whose : Nat → Int32} {bk_goods : Nat → Int32} {bk_count : Int32} {mo_told : Nat → Int32} {mo_st : Nat → Int32} {mo_isThere : Int32} {mo_seed : Int32} {mo_text : Nat → Int32} {mo_typed : Int32} {mo_faultAt : Int32} {mo_ahead : Nat → Int32} {mo_undoMany : Int32} {mo_weighings : Nat → Int32} {mo_weighed : Int32} {mo_book : Nat → Int32} {mo_entries : Int32} {mo_isKept : Nat → Int32} {mo_kept : Nat → Int32} {mo_seeds : Nat → Int32} (hN : 20000 ≤ N) (h : Rel nP nB nH nG kr_drawn tx_signs tx_length tx_place tl_stands tl_death tl_payers tl_bids tl_hostages tl_bags tl_bagMarks tl_shy tl_bidOf tl_daysOf nw_price nw_months nw_chest nw_given nw_fate nw_goods nw_rates pa_next pa_count ps i0_held i0_drawn i0s_price i0s_months i0s_chest i0s_given i0s_fate i0s_goods i0s_rates i1_held i1_drawn i1s_price i1s_months i1s_chest i1s_given i1s_fate i1s_goods i1s_rates sc_sets sc_weights sc_count bk_whose bk_goods bk_count mo_told mo_st mo_isThere mo_seed mo_text mo_typed mo_faultAt mo_ahead mo_undoMany mo_weighings mo_weighed mo_book mo_entries mo_isKept mo_kept mo_seeds) (x1 : Int32) (x2 : Int32) : ∃ (r : Int32), pX8_sell N x1 x2 tl_death tl_bids tl_bidOf nw_price = some (r) ∧ pX9_sell N x1 x2 mo_told mo_st = some (r) ∧ Rel nP nB nH nG kr_drawn tx_signs tx_length tx_place tl_stands tl_death tl_payers tl_bids tl_hostages tl_bags tl_bagMarks tl_shy tl_bidOf tl_daysOf nw_price nw_months nw_chest nw_given nw_fate nw_goods nw_rates pa_next pa_count ps i0_held i0_drawn i0s_price i0s_months i0s_chest i0s_given i0s_fate i0s_goods i0s_rates i1_held i1_drawn i1s_price i1s_months i1s_chest i1s_given i1s_fate i1s_goods i1s_rates sc_sets sc_weights sc_count bk_whose bk_goods bk_count mo_told mo_st mo_isThere mo_seed mo_text mo_typed mo_faultAt mo_ahead mo_undoMany mo_weighings mo_weighed mo_book mo_entries mo_isKept mo_kept mo_seeds := by
  have hh := h
  obtain ⟨-, ⟨-, -, h1, -, ⟨a3, b3, hB⟩, -, -, -, -, hb, -⟩, ⟨-, -, -, e14, -⟩, -⟩ := h
  subst a3
  dsimp only at e14
  unfold pX8_sell pX9_sell
  rw [kb1_t (in_k x1 0 9 (by decide) (by decide)), kb1_t (in_k x2 0 1 (by decide) (by decide)), b3, ← e14]
  by_cases h0 : x1 < 0
  · rw [if_pos h0, bI_f (fun z => i_nlt.mpr z.1 h0), if_pos rfl]; exact ⟨_, rfl, rfl, hh⟩
  rw [if_neg h0]
  by_cases h9 : 9 < x1
  · rw [if_pos h9, bI_f (fun z => i_nlt.mpr z.2 h9), if_pos rfl]; exact ⟨_, rfl, rfl, hh⟩
  rw [if_neg h9, bI_t ⟨i_nlt.mp h0, i_nlt.mp h9⟩, if_neg (show ¬ (1 : Int32) = 0 by decide)]
  by_cases g0 : x2 < 0
  · rw [if_pos g0, bI_f (fun z => i_nlt.mpr z.1 g0), if_pos rfl]; exact ⟨_, rfl, rfl, hh⟩
  rw [if_neg g0]
  by_cases g1 : x2 ≤ 1
  · rw [if_pos g1, bI_t ⟨i_nlt.mp g0, g1⟩, if_neg (show ¬ (1 : Int32) = 0 by decide)]
    obtain ⟨x, c1, c2⟩ := sell_sim x1 x2 tl_death h0 hB h1 hb nB (Nat.le_refl _) N N (by omega) (by omega) nw_price (-1)
    exact ⟨x, c1, c2, hh⟩
  · rw [if_neg g1, bI_f (fun z => g1 z.2), if_pos rfl]; exact ⟨_, rfl, rfl, hh⟩
/-- what is answered of the two parts -/
def lfin (a b : Int64) : Option Int32 := if (lg_cmp (a + b) 0) = 0 then some 0 else if (a + b) = 0 then none else some (((a * 1000000) / (a + b)).toInt32)
theorem lcmp0 (x : Int64) : lg_cmp x 0 = 0 ↔ x = 0 := by
  unfold lg_cmp
  by_cases h1 : x > 0
  · rw [if_pos h1]
    refine ⟨fun h => absurd h (by decide), fun h => ?_⟩
    subst h
    exact absurd h1 (by decide)
  · rw [if_neg h1]
    by_cases h2 : x = 0
    · rw [if_pos h2]; exact ⟨fun _ => h2, fun _ => rfl⟩
    · rw [if_neg h2]; exact ⟨fun h => absurd h (by decide), fun h => absurd h h2⟩
theorem lfin_some (a b : Int64) : ∃ r, lfin a b = some r := by
  unfold lfin
  by_cases h : a + b = 0
  · rw [if_pos ((lcmp0 _).mpr h)]; exact ⟨_, rfl⟩
  · rw [if_neg (fun z => h ((lcmp0 _).mp z)), if_neg h]; exact ⟨_, rfl⟩
theorem let_sim (x2 x3 x5 : Int32) (nn : Nat) (hn9 : nn ≤ 9) : ∀ (k i : Nat), i + k = nn → ∀ (n1 n2 m : Nat), k < n1 → k < n2 → k < m → ∀ (u v : Int64), ∃ a b, pX8_behindLetters_L15 x2 (nI nn) x5 n1 u (nI i) = some a ∧ pX8_behindLetters_L15 x3 (nI nn) x5 n2 v (nI i) = some b ∧ pX9_letters_L95 x2 x3 (nI nn) x5 m u v (nI i) = lfin a b := by
  intro k
  induction k with
  | zero =>
    intro i hi n1 n2 m h1 h2 h3 u v
    obtain ⟨n1, rfl⟩ := fuel h1
    obtain ⟨n2, rfl⟩ := fuel h2
    obtain ⟨m, rfl⟩ := fuel h3
    have hle : nI nn ≤ nI i := nI_le (by omega) (by omega)
    refine ⟨u, v, ?_, ?_, ?_⟩
    · rw [pX8_behindLetters_L15, if_pos hle]
    · rw [pX8_behindLetters_L15, if_pos hle]
    · rw [pX9_letters_L95, if_pos hle]; rfl
  | succ k ih =>
    intro i hi n1 n2 m h1 h2 h3 u v
    obtain ⟨n1, rfl⟩ := fuel h1
    obtain ⟨n2, rfl⟩ := fuel h2
    obtain ⟨m, rfl⟩ := fuel h3
    have hle : ¬ nI nn ≤ nI i := nI_ge (by omega) (by omega)
    rw [pX8_behindLetters_L15, pX8_behindLetters_L15, pX9_letters_L95, if_neg hle, if_neg hle, if_neg hle]
    unfold pX8_behindLetters_L37 pX9_letters_L119 pX9_letters_L144
    rw [nI_1]
    by_cases hc : x5 ≤ nI i
    · simp only [if_pos hc]
      exact ih (i + 1) (by omega) n1 n2 m (by omega) (by omega) (by omega) _ _
    · simp only [if_neg hc]
      exact ih (i + 1) (by omega) n1 n2 m (by omega) (by omega) (by omega) _ _
theorem op_letters {N nP nB nH nG : Nat} {kr_drawn : Int32} {tx_signs : Nat → Int32} {tx_length : Int32} {tx_place : Int32} {tl_stands : Int32} {tl_death : Int32} {tl_payers : Int32} {tl_bids : Int32} {tl_hostages : Int32} {tl_bags : Int32} {tl_bagMarks : Int32} {tl_shy : Nat → Int32} {tl_bidOf : Nat → Int32} {tl_daysOf : Nat → Int32} {nw_price : Int32} {nw_months : Int32} {nw_chest : Int32} {nw_given : Int32} {nw_fate : Int32} {nw_goods : Nat → Int32} {nw_rates : Nat → Int32} {pa_next : Int32} {pa_count : Int32} {ps : Nat → krS} {i0_held : Int32} {i0_drawn : Int32} {i0s_price : Int32} {i0s_months : Int32} {i0s_chest : Int32} {i0s_given : Int32} {i0s_fate : Int32} {i0s_goods : Nat → Int32} {i0s_rates : Nat → Int32} {i1_held : Int32} {i1_drawn : Int32} {i1s_price : Int32} {i1s_months : Int32} {i1s_chest : Int32} {i1s_given : Int32} {i1s_fate : Int32} {i1s_goods : Nat → Int32} {i1s_rates : Nat → Int32} {sc_sets : Nat → Int32} {sc_weights : Nat → Int32} {sc_count : Int32} {bk_whose : Nat → Int32} {bk_goods : Nat → Int32} {bk_count : Int32} {mo_told : Nat → Int32} {mo_st : Nat → Int32} {mo_isThere : Int32} {mo_seed : Int32} {mo_text : Nat → Int32} {mo_typed : Int32} {mo_faultAt : Int32} {mo_ahead : Nat → Int32} {mo_undoMany : Int32} {mo_weighings : Nat → Int32} {mo_weighed : Int32} {mo_book : Nat → Int32} {mo_entries : Int32} {mo_isKept : Nat → Int32} {mo_kept : Nat → Int32} {mo_seeds : Nat → Int32} (hN : 20000 ≤ N) (h : Rel nP nB nH nG kr_drawn tx_signs tx_length tx_place tl_stands tl_death tl_payers tl_bids tl_hostages tl_bags tl_bagMarks tl_shy tl_bidOf tl_daysOf nw_price nw_months nw_chest nw_given nw_fate nw_goods nw_rates pa_next pa_count ps i0_held i0_drawn i0s_price i0s_months i0s_chest i0s_given i0s_fate i0s_goods i0s_rates i1_held i1_drawn i1s_price i1s_months i1s_chest i1s_given i1s_fate i1s_goods i1s_rates sc_sets sc_weights sc_count bk_whose bk_goods bk_count mo_told mo_st mo_isThere mo_seed mo_text mo_typed mo_faultAt mo_ahead mo_undoMany mo_weighings mo_weighed mo_book mo_entries mo_isKept mo_kept mo_seeds) (x1 : Int32) (x2 : Int32) (x3 : Int32) (x4 : Int32) (x5 : Int32) : ∃ (r : Int32), pX8_letters N x1 x2 x3 x4 x5 = some (r) ∧ pX9_letters N x1 x2 x3 x4 x5 = some (r) ∧ Rel nP nB nH nG kr_drawn tx_signs tx_length tx_place tl_stands tl_death tl_payers tl_bids tl_hostages tl_bags tl_bagMarks tl_shy tl_bidOf tl_daysOf nw_price nw_months nw_chest nw_given nw_fate nw_goods nw_rates pa_next pa_count ps i0_held i0_drawn i0s_price i0s_months i0s_chest i0s_given i0s_fate i0s_goods i0s_rates i1_held i1_drawn i1s_price i1s_months i1s_chest i1s_given i1s_fate i1s_goods i1s_rates sc_sets sc_weights sc_count bk_whose bk_goods bk_count mo_told mo_st mo_isThere mo_seed mo_text mo_typed mo_faultAt mo_ahead mo_undoMany mo_weighings mo_weighed mo_book mo_entries mo_isKept mo_kept mo_seeds := by
  unfold pX8_letters pX9_letters
  rw [kb1_t (isPercent8 x1), kb1_t (isPercent8 x2), kb1_t (isPercent8 x3), kb1_t (rate9 x1), kb1_t (rate9 x2), kb1_t (rate9 x3), kb1_t (in_k x4 0 9 (by decide) (by decide)), kb1_t (in_m x5 0 x4 (by decide))]
  by_cases h1 : bI (0 ≤ x1 ∧ x1 ≤ 100) = 0
  · simp only [if_pos h1]; exact ⟨_, rfl, rfl, h⟩
  simp only [if_neg h1]
  by_cases h2 : bI (0 ≤ x2 ∧ x2 ≤ 100) = 0
  · simp only [if_pos h2]; exact ⟨_, rfl, rfl, h⟩
  simp only [if_neg h2]
  by_cases h3 : bI (0 ≤ x3 ∧ x3 ≤ 100) = 0
  · simp only [if_pos h3]; exact ⟨_, rfl, rfl, h⟩
  simp only [if_neg h3]
  by_cases h4 : x4 < 0
  · rw [if_pos h4, bI_f (fun z => i_nlt.mpr z.1 h4), if_pos rfl]; exact ⟨_, rfl, rfl, h⟩
  rw [if_neg h4]
  by_cases h5 : 9 < x4
  · rw [if_pos h5, bI_f (fun z => i_nlt.mpr z.2 h5), if_pos rfl]; exact ⟨_, rfl, rfl, h⟩
  rw [if_neg h5, bI_t ⟨i_nlt.mp h4, i_nlt.mp h5⟩, if_neg (show ¬ (1 : Int32) = 0 by decide)]
  by_cases h6 : x5 < 0
  · rw [if_pos h6, bI_f (fun z => i_nlt.mpr z.1 h6), if_pos rfl]; exact ⟨_, rfl, rfl, h⟩
  rw [if_neg h6]
  by_cases h7 : x5 ≤ x4
  · rw [if_pos h7, bI_t ⟨i_nlt.mp h6, h7⟩, if_neg (show ¬ (1 : Int32) = 0 by decide)]
    obtain ⟨nn, hnn, rfl⟩ := i_of_le (n := 9) (by decide) (i_nlt.mp h4) (i_nlt.mp h5)
    unfold pX8_behindLetters
    simp only [kl]
    obtain ⟨a, b, c1, c2, c3⟩ := let_sim x2 x3 x5 nn hnn nn 0 (by omega) N N N (by omega) (by omega) (by omega) (1000000000 * x1.toInt64 / 100) (1000000000 * (100 - x1).toInt64 / 100)
    have c1 : pX8_behindLetters_L15 x2 (nI nn) x5 N (1000000000 * x1.toInt64 / 100) 0 = some a := c1
    have c2 : pX8_behindLetters_L15 x3 (nI nn) x5 N (1000000000 * (100 - x1).toInt64 / 100) 0 = some b := c2
    have c3 : pX9_letters_L95 x2 x3 (nI nn) x5 N (1000000000 * x1.toInt64 / 100) (1000000000 * (100 - x1).toInt64 / 100) 0 = lfin a b := c3
    obtain ⟨r, hr⟩ := lfin_some a b
    rw [kb1_t c1, kb1_t c2, c3]
    exact ⟨r, hr, hr, h⟩
  · rw [if_neg h7, bI_f (fun z => h7 z.2), if_pos rfl]; exact ⟨_, rfl, rfl, h⟩
theorem lives_sim (de : Int32) {told : Nat → Int32} (h1 : told 1 = de) (nn : Nat) (hn : nn ≤ 60) : ∀ (k i : Nat), i + k = nn → ∀ (n m : Nat), k < n → k < m → ∀ (w : Int32), ∃ x, pX8_lives_L18 (nI nn) de n w (nI i) = some x ∧ pX9_lives_L20 (nI nn) told m w (nI i) = some x := by
  intro k
  induction k with
  | zero =>
    intro i hi n m hn hm w
    obtain ⟨n, rfl⟩ := fuel hn
    obtain ⟨m, rfl⟩ := fuel hm
    have hle : nI nn ≤ nI i := nI_le (by omega) (by omega)
    rw [pX8_lives_L18, pX9_lives_L20, if_pos hle, if_pos hle]
    exact ⟨_, rfl, rfl⟩
  | succ k ih =>
    intro i hi n m hn hm w
    obtain ⟨n, rfl⟩ := fuel hn
    obtain ⟨m, rfl⟩ := fuel hm
    have hle : ¬ nI nn ≤ nI i := nI_ge (by omega) (by omega)
    rw [pX8_lives_L18, pX9_lives_L20, if_neg hle, if_neg hle, nI_1, h1]
    exact ih (i + 1) (by omega) n m (by omega) (by omega) _
theorem op_lives {N nP nB nH nG : Nat} {kr_drawn : Int32} {tx_signs : Nat → Int32} {tx_length : Int32} {tx_place : Int32} {tl_stands : Int32} {tl_death : Int32} {tl_payers : Int32} {tl_bids : Int32} {tl_hostages : Int32} {tl_bags : Int32} {tl_bagMarks : Int32} {tl_shy : Nat → Int32} {tl_bidOf : Nat → Int32} {tl_daysOf : Nat → Int32} {nw_price : Int32} {nw_months : Int32} {nw_chest : Int32} {nw_given : Int32} {nw_fate : Int32} {nw_goods : Nat → Int32} {nw_rates : Nat → Int32} {pa_next : Int32} {pa_count : Int32} {ps : Nat → krS} {i0_held : Int32} {i0_drawn : Int32} {i0s_price : Int32} {i0s_months : Int32} {i0s_chest : Int32} {i0s_given : Int32} {i0s_fate : Int32} {i0s_goods : Nat → Int32} {i0s_rates : Nat → Int32} {i1_held : Int32} {i1_drawn : Int32} {i1s_price : Int32} {i1s_months : Int32} {i1s_chest : Int32} {i1s_given : Int32} {i1s_fate : Int32} {i1s_goods : Nat → Int32} {i1s_rates : Nat → Int32} {sc_sets : Nat → Int32} {sc_weights : Nat → Int32} {sc_count : Int32} {bk_whose : Nat → Int32} {bk_goods : Nat → Int32} {bk_count : Int32} {mo_told : Nat → Int32} {mo_st : Nat → Int32} {mo_isThere : Int32} {mo_seed : Int32} {mo_text : Nat → Int32} {mo_typed : Int32} {mo_faultAt : Int32} {mo_ahead : Nat → Int32} {mo_undoMany : Int32} {mo_weighings : Nat → Int32} {mo_weighed : Int32} {mo_book : Nat → Int32} {mo_entries : Int32} {mo_isKept : Nat → Int32} {mo_kept : Nat → Int32} {mo_seeds : Nat → Int32} (hN : 20000 ≤ N) (h : Rel nP nB nH nG kr_drawn tx_signs tx_length tx_place tl_stands tl_death tl_payers tl_bids tl_hostages tl_bags tl_bagMarks tl_shy tl_bidOf tl_daysOf nw_price nw_months nw_chest nw_given nw_fate nw_goods nw_rates pa_next pa_count ps i0_held i0_drawn i0s_price i0s_months i0s_chest i0s_given i0s_fate i0s_goods i0s_rates i1_held i1_drawn i1s_price i1s_months i1s_chest i1s_given i1s_fate i1s_goods i1s_rates sc_sets sc_weights sc_count bk_whose bk_goods bk_count mo_told mo_st mo_isThere mo_seed mo_text mo_typed mo_faultAt mo_ahead mo_undoMany mo_weighings mo_weighed mo_book mo_entries mo_isKept mo_kept mo_seeds) (x1 : Int32) : ∃ (r : Int32), pX8_lives N x1 tl_death = some (r) ∧ pX9_lives N x1 mo_told = some (r) ∧ Rel nP nB nH nG kr_drawn tx_signs tx_length tx_place tl_stands tl_death tl_payers tl_bids tl_hostages tl_bags tl_bagMarks tl_shy tl_bidOf tl_daysOf nw_price nw_months nw_chest nw_given nw_fate nw_goods nw_rates pa_next pa_count ps i0_held i0_drawn i0s_price i0s_months i0s_chest i0s_given i0s_fate i0s_goods i0s_rates i1_held i1_drawn i1s_price i1s_months i1s_chest i1s_given i1s_fate i1s_goods i1s_rates sc_sets sc_weights sc_count bk_whose bk_goods bk_count mo_told mo_st mo_isThere mo_seed mo_text mo_typed mo_faultAt mo_ahead mo_undoMany mo_weighings mo_weighed mo_book mo_entries mo_isKept mo_kept mo_seeds := by
  have h1 := h.2.1.2.2.1
  unfold pX8_lives pX9_lives
  rw [kb1_t (in_k x1 0 60 (by decide) (by decide))]
  by_cases h0 : x1 < 0
  · rw [if_pos h0, bI_f (fun z => i_nlt.mpr z.1 h0), if_pos rfl]; exact ⟨_, rfl, rfl, h⟩
  rw [if_neg h0]
  by_cases h9 : x1 ≤ 60
  · rw [if_pos h9, bI_t ⟨i_nlt.mp h0, h9⟩, if_neg (show ¬ (1 : Int32) = 0 by decide)]
    obtain ⟨nn, hnn, rfl⟩ := i_of_le (n := 60) (by decide) (i_nlt.mp h0) h9
    obtain ⟨x, c1, c2⟩ := lives_sim tl_death h1 nn hnn nn 0 (by omega) N N (by omega) (by omega) 1000000
    exact ⟨x, c1, c2, h⟩
  · rw [if_neg h9, bI_f (fun z => h9 z.2), if_pos rfl]; exact ⟨_, rfl, rfl, h⟩
theorem shl1 : ∀ n, n < 9 → (1 : Int32) <<< (nI n &&& 31) = nI (2 ^ n) := by decide +kernel
theorem pow_le {n : Nat} (h : n ≤ 8) : 2 ^ n ≤ 256 ∧ 0 < 2 ^ n := ⟨Nat.pow_le_pow_right (by decide) h, Nat.two_pow_pos n⟩
theorem op_weigh {N nP nB nH nG : Nat} {kr_drawn : Int32} {tx_signs : Nat → Int32} {tx_length : Int32} {tx_place : Int32} {tl_stands : Int32} {tl_death : Int32} {tl_payers : Int32} {tl_bids : Int32} {tl_hostages : Int32} {tl_bags : Int32} {tl_bagMarks : Int32} {tl_shy : Nat → Int32} {tl_bidOf : Nat → Int32} {tl_daysOf : Nat → Int32} {nw_price : Int32} {nw_months : Int32} {nw_chest : Int32} {nw_given : Int32} {nw_fate : Int32} {nw_goods : Nat → Int32} {nw_rates : Nat → Int32} {pa_next : Int32} {pa_count : Int32} {ps : Nat → krS} {i0_held : Int32} {i0_drawn : Int32} {i0s_price : Int32} {i0s_months : Int32} {i0s_chest : Int32} {i0s_given : Int32} {i0s_fate : Int32} {i0s_goods : Nat → Int32} {i0s_rates : Nat → Int32} {i1_held : Int32} {i1_drawn : Int32} {i1s_price : Int32} {i1s_months : Int32} {i1s_chest : Int32} {i1s_given : Int32} {i1s_fate : Int32} {i1s_goods : Nat → Int32} {i1s_rates : Nat → Int32} {sc_sets : Nat → Int32} {sc_weights : Nat → Int32} {sc_count : Int32} {bk_whose : Nat → Int32} {bk_goods : Nat → Int32} {bk_count : Int32} {mo_told : Nat → Int32} {mo_st : Nat → Int32} {mo_isThere : Int32} {mo_seed : Int32} {mo_text : Nat → Int32} {mo_typed : Int32} {mo_faultAt : Int32} {mo_ahead : Nat → Int32} {mo_undoMany : Int32} {mo_weighings : Nat → Int32} {mo_weighed : Int32} {mo_book : Nat → Int32} {mo_entries : Int32} {mo_isKept : Nat → Int32} {mo_kept : Nat → Int32} {mo_seeds : Nat → Int32} (hN : 20000 ≤ N) (h : Rel nP nB nH nG kr_drawn tx_signs tx_length tx_place tl_stands tl_death tl_payers tl_bids tl_hostages tl_bags tl_bagMarks tl_shy tl_bidOf tl_daysOf nw_price nw_months nw_chest nw_given nw_fate nw_goods nw_rates pa_next pa_count ps i0_held i0_drawn i0s_price i0s_months i0s_chest i0s_given i0s_fate i0s_goods i0s_rates i1_held i1_drawn i1s_price i1s_months i1s_chest i1s_given i1s_fate i1s_goods i1s_rates sc_sets sc_weights sc_count bk_whose bk_goods bk_count mo_told mo_st mo_isThere mo_seed mo_text mo_typed mo_faultAt mo_ahead mo_undoMany mo_weighings mo_weighed mo_book mo_entries mo_isKept mo_kept mo_seeds) (x1 : Int32) (x2 : Int32) : ∃ (r : Int32) (z_sc_sets : Nat → Int32) (z_sc_weights : Nat → Int32) (z_sc_count : Int32) (y_mo_weighings : Nat → Int32) (y_mo_weighed : Int32), pX8_weigh x1 x2 tl_bags sc_sets sc_weights sc_count = some (r, z_sc_sets, z_sc_weights, z_sc_count) ∧ pX9_weigh x1 x2 mo_told mo_weighings mo_weighed = some (r, y_mo_weighings, y_mo_weighed) ∧ Rel nP nB nH nG kr_drawn tx_signs tx_length tx_place tl_stands tl_death tl_payers tl_bids tl_hostages tl_bags tl_bagMarks tl_shy tl_bidOf tl_daysOf nw_price nw_months nw_chest nw_given nw_fate nw_goods nw_rates pa_next pa_count ps i0_held i0_drawn i0s_price i0s_months i0s_chest i0s_given i0s_fate i0s_goods i0s_rates i1_held i1_drawn i1s_price i1s_months i1s_chest i1s_given i1s_fate i1s_goods i1s_rates z_sc_sets z_sc_weights z_sc_count bk_whose bk_goods bk_count mo_told mo_st mo_isThere mo_seed mo_text mo_typed mo_faultAt mo_ahead mo_undoMany y_mo_weighings y_mo_weighed mo_book mo_entries mo_isKept mo_kept mo_seeds := by
  obtain ⟨h1, h2, h3, h4, h5, h6, ⟨c, hc, e1, e2, hs⟩, h8, h9⟩ := h
  have hG := h2.2.2.2.2.2.2.1
  obtain ⟨a5, b5, hG⟩ := hG
  subst e1 e2 a5
  have hp := pow_le hG
  have hsh := shl1 nG (by omega)
  have hrel : ∀ (s w s2 : Nat → Int32) (x y : Int32), rSc nG s w x s2 y → Rel nP nB nH nG kr_drawn tx_signs tx_length tx_place tl_stands tl_death tl_payers tl_bids tl_hostages (nI nG) tl_bagMarks tl_shy tl_bidOf tl_daysOf nw_price nw_months nw_chest nw_given nw_fate nw_goods nw_rates pa_next pa_count ps i0_held i0_drawn i0s_price i0s_months i0s_chest i0s_given i0s_fate i0s_goods i0s_rates i1_held i1_drawn i1s_price i1s_months i1s_chest i1s_given i1s_fate i1s_goods i1s_rates s w x bk_whose bk_goods bk_count mo_told mo_st mo_isThere mo_seed mo_text mo_typed mo_faultAt mo_ahead mo_undoMany s2 y mo_book mo_entries mo_isKept mo_kept mo_seeds := fun s w s2 x y z => ⟨h1, h2, h3, h4, h5, h6, z, h8, h9⟩
  have same := hrel _ _ _ _ _ ⟨c, hc, rfl, rfl, hs⟩
  unfold pX8_weigh pX9_weigh
  rw [b5, hsh, kb1_t (in_m x1 0 (nI (2 ^ nG) - 1) (by decide)), kb1_t (in_k x2 0 999 (by decide) (by decide))]
  by_cases hx : ∃ j : Nat, j < 2 ^ nG ∧ x1 = nI j
  · rw [bI_t ((in_pred (by omega)).mpr hx), if_neg (show ¬ (1 : Int32) = 0 by decide)]
    obtain ⟨j, hj, rfl⟩ := hx
    rw [if_neg (nI_pos (by omega)), if_pos (nI_lt hj (by omega))]
    by_cases g0 : x2 < 0
    · rw [if_pos g0, bI_f (fun z => i_nlt.mpr z.1 g0), if_pos rfl]; exact ⟨_, _, _, _, _, _, rfl, rfl, same⟩
    rw [if_neg g0]
    by_cases g1 : x2 ≤ 999
    · rw [if_pos g1, bI_t ⟨i_nlt.mp g0, g1⟩, if_neg (show ¬ (1 : Int32) = 0 by decide)]
      unfold pX3_add
      rcases Nat.lt_or_ge c 6 with hlt | hge
      · have e2 : (2 : Int32) * nI c = nI (2 * c) := nI_mk 2 c
        rw [if_pos (show nI c < 6 from nI_lt hlt (by decide)), if_neg (gI hlt (by decide)), if_neg (show ¬ nI c = 6 from fun e => by have := nI_inj (b := 6) (by omega) (by decide) e; omega), e2, nI_1 (2 * c), nI_1 c, if_neg (gI (n := 12) (by omega) (by decide)), if_neg (gI (n := 12) (by omega) (by decide)), nI_clamp (by omega), nI_clamp (by omega), nI_clamp (by omega), kb4_e, if_neg (show ¬ (1 : Int32) = 0 by decide)]
        refine ⟨_, _, _, _, _, _, rfl, rfl, hrel _ _ _ _ _ ⟨c + 1, by omega, rfl, rfl, fun i hi => ?_⟩⟩
        by_cases hic : i = c
        · subst hic
          rw [pk_us, pk_us, pk_us, pk_un (by omega), pk_us]
          exact ⟨rfl, rfl, j, hj, rfl⟩
        · rw [pk_un hic, pk_un hic, pk_un (by omega), pk_un (by omega), pk_un (by omega), pk_un (by omega)]
          exact hs i (by omega)
      · have e : c = 6 := by omega
        subst e
        rw [if_neg (show ¬ nI 6 < 6 by decide), kb4_e, if_pos rfl, if_pos (show nI 6 = 6 by decide)]
        exact ⟨_, _, _, _, _, _, rfl, rfl, same⟩
    · rw [if_neg g1, bI_f (fun z => g1 z.2), if_pos rfl]; exact ⟨_, _, _, _, _, _, rfl, rfl, same⟩
  · rw [bI_f (fun z => hx ((in_pred (by omega)).mp z)), if_pos rfl]
    rcases i_out (by omega) hx with g1 | ⟨g1, g2⟩
    · rw [if_pos g1]; exact ⟨_, _, _, _, _, _, rfl, rfl, same⟩
    · rw [if_neg g1, if_neg (i_nlt.mpr g2)]; exact ⟨_, _, _, _, _, _, rfl, rfl, same⟩
theorem op_write {N nP nB nH nG : Nat} {kr_drawn : Int32} {tx_signs : Nat → Int32} {tx_length : Int32} {tx_place : Int32} {tl_stands : Int32} {tl_death : Int32} {tl_payers : Int32} {tl_bids : Int32} {tl_hostages : Int32} {tl_bags : Int32} {tl_bagMarks : Int32} {tl_shy : Nat → Int32} {tl_bidOf : Nat → Int32} {tl_daysOf : Nat → Int32} {nw_price : Int32} {nw_months : Int32} {nw_chest : Int32} {nw_given : Int32} {nw_fate : Int32} {nw_goods : Nat → Int32} {nw_rates : Nat → Int32} {pa_next : Int32} {pa_count : Int32} {ps : Nat → krS} {i0_held : Int32} {i0_drawn : Int32} {i0s_price : Int32} {i0s_months : Int32} {i0s_chest : Int32} {i0s_given : Int32} {i0s_fate : Int32} {i0s_goods : Nat → Int32} {i0s_rates : Nat → Int32} {i1_held : Int32} {i1_drawn : Int32} {i1s_price : Int32} {i1s_months : Int32} {i1s_chest : Int32} {i1s_given : Int32} {i1s_fate : Int32} {i1s_goods : Nat → Int32} {i1s_rates : Nat → Int32} {sc_sets : Nat → Int32} {sc_weights : Nat → Int32} {sc_count : Int32} {bk_whose : Nat → Int32} {bk_goods : Nat → Int32} {bk_count : Int32} {mo_told : Nat → Int32} {mo_st : Nat → Int32} {mo_isThere : Int32} {mo_seed : Int32} {mo_text : Nat → Int32} {mo_typed : Int32} {mo_faultAt : Int32} {mo_ahead : Nat → Int32} {mo_undoMany : Int32} {mo_weighings : Nat → Int32} {mo_weighed : Int32} {mo_book : Nat → Int32} {mo_entries : Int32} {mo_isKept : Nat → Int32} {mo_kept : Nat → Int32} {mo_seeds : Nat → Int32} (hN : 20000 ≤ N) (h : Rel nP nB nH nG kr_drawn tx_signs tx_length tx_place tl_stands tl_death tl_payers tl_bids tl_hostages tl_bags tl_bagMarks tl_shy tl_bidOf tl_daysOf nw_price nw_months nw_chest nw_given nw_fate nw_goods nw_rates pa_next pa_count ps i0_held i0_drawn i0s_price i0s_months i0s_chest i0s_given i0s_fate i0s_goods i0s_rates i1_held i1_drawn i1s_price i1s_months i1s_chest i1s_given i1s_fate i1s_goods i1s_rates sc_sets sc_weights sc_count bk_whose bk_goods bk_count mo_told mo_st mo_isThere mo_seed mo_text mo_typed mo_faultAt mo_ahead mo_undoMany mo_weighings mo_weighed mo_book mo_entries mo_isKept mo_kept mo_seeds) (x1 : Int32) (x2 : Int32) : ∃ (r : Int32) (z_bk_whose : Nat → Int32) (z_bk_goods : Nat → Int32) (z_bk_count : Int32) (y_mo_book : Nat → Int32) (y_mo_entries : Int32), pX8_write x1 x2 tl_payers bk_whose bk_goods bk_count = some (r, z_bk_whose, z_bk_goods, z_bk_count) ∧ pX9_write x1 x2 mo_told mo_book mo_entries = some (r, y_mo_book, y_mo_entries) ∧ Rel nP nB nH nG kr_drawn tx_signs tx_length tx_place tl_stands tl_death tl_payers tl_bids tl_hostages tl_bags tl_bagMarks tl_shy tl_bidOf tl_daysOf nw_price nw_months nw_chest nw_given nw_fate nw_goods nw_rates pa_next pa_count ps i0_held i0_drawn i0s_price i0s_months i0s_chest i0s_given i0s_fate i0s_goods i0s_rates i1_held i1_drawn i1s_price i1s_months i1s_chest i1s_given i1s_fate i1s_goods i1s_rates sc_sets sc_weights sc_count z_bk_whose z_bk_goods z_bk_count mo_told mo_st mo_isThere mo_seed mo_text mo_typed mo_faultAt mo_ahead mo_undoMany mo_weighings mo_weighed y_mo_book y_mo_entries mo_isKept mo_kept mo_seeds := by
  obtain ⟨h1, h2, h3, h4, h5, h6, h7, ⟨c, hc, e1, e2, hs⟩, h9⟩ := h
  obtain ⟨a2, b2, hP⟩ := h2.2.2.2.1
  subst e1 e2 a2
  have hrel : ∀ (s w s2 : Nat → Int32) (x y : Int32), rBk nP s w x s2 y → Rel nP nB nH nG kr_drawn tx_signs tx_length tx_place tl_stands tl_death (nI nP) tl_bids tl_hostages tl_bags tl_bagMarks tl_shy tl_bidOf tl_daysOf nw_price nw_months nw_chest nw_given nw_fate nw_goods nw_rates pa_next pa_count ps i0_held i0_drawn i0s_price i0s_months i0s_chest i0s_given i0s_fate i0s_goods i0s_rates i1_held i1_drawn i1s_price i1s_months i1s_chest i1s_given i1s_fate i1s_goods i1s_rates sc_sets sc_weights sc_count s w x mo_told mo_st mo_isThere mo_seed mo_text mo_typed mo_faultAt mo_ahead mo_undoMany mo_weighings mo_weighed s2 y mo_isKept mo_kept mo_seeds := fun s w s2 x y z => ⟨h1, h2, h3, h4, h5, h6, h7, z, h9⟩
  have same := hrel _ _ _ _ _ ⟨c, hc, rfl, rfl, hs⟩
  unfold pX8_write pX9_write
  rw [kb1_t (isPayer8 x1 (n := nP) (by omega)), kb1_t (isPayer9 x1 b2), kb1_t (in_k x2 0 999 (by decide) (by decide))]
  by_cases hx : ∃ j : Nat, j < nP ∧ x1 = nI j
  · rw [bI_t ((in_pred (by omega)).mpr hx), if_neg (show ¬ (1 : Int32) = 0 by decide), if_neg (show ¬ (1 : Int32) = 0 by decide)]
    obtain ⟨j, hj, rfl⟩ := hx
    by_cases g0 : x2 < 0
    · rw [if_pos g0, bI_f (fun z => i_nlt.mpr z.1 g0), if_pos rfl]; exact ⟨_, _, _, _, _, _, rfl, rfl, same⟩
    rw [if_neg g0]
    by_cases g1 : x2 ≤ 999
    · rw [if_pos g1, bI_t ⟨i_nlt.mp g0, g1⟩, if_neg (show ¬ (1 : Int32) = 0 by decide)]
      unfold pX0_add
      rcases Nat.lt_or_ge c 15 with hlt | hge
      · have e2 : (2 : Int32) * nI c = nI (2 * c) := nI_mk 2 c
        rw [if_pos (show nI c < 15 from nI_lt hlt (by decide)), if_neg (gI hlt (by decide)), if_neg (show ¬ nI c = 15 from fun e => by have := nI_inj (b := 15) (by omega) (by decide) e; omega), e2, nI_1 (2 * c), nI_1 c, if_neg (gI (n := 30) (by omega) (by decide)), if_neg (gI (n := 30) (by omega) (by decide)), nI_clamp (by omega), nI_clamp (by omega), nI_clamp (by omega), kb4_e, if_neg (show ¬ (1 : Int32) = 0 by decide)]
        refine ⟨_, _, _, _, _, _, rfl, rfl, hrel _ _ _ _ _ ⟨c + 1, by omega, rfl, rfl, fun i hi => ?_⟩⟩
        by_cases hic : i = c
        · subst hic
          rw [pk_us, pk_us, pk_us, pk_un (by omega), pk_us]
          exact ⟨rfl, rfl, j, hj, rfl⟩
        · rw [pk_un hic, pk_un hic, pk_un (by omega), pk_un (by omega), pk_un (by omega), pk_un (by omega)]
          exact hs i (by omega)
      · have e : c = 15 := by omega
        subst e
        rw [if_neg (show ¬ nI 15 < 15 by decide), kb4_e, if_pos rfl, if_pos (show nI 15 = 15 by decide)]
        exact ⟨_, _, _, _, _, _, rfl, rfl, same⟩
    · rw [if_neg g1, bI_f (fun z => g1 z.2), if_pos rfl]; exact ⟨_, _, _, _, _, _, rfl, rfl, same⟩
  · rw [bI_f (fun z => hx ((in_pred (by omega)).mp z)), if_pos rfl, if_pos rfl]
    exact ⟨_, _, _, _, _, _, rfl, rfl, same⟩
theorem judge_sim {c nP : Nat} (hc : c ≤ 15) (hP : nP ≤ 6) {wh gd bk go st : Nat → Int32} (hs : ∀ j, j < c → wh j = bk (2 * j) ∧ gd j = bk (2 * j + 1) ∧ ∃ q : Nat, q < nP ∧ bk (2 * j) = nI q) (hg : ∀ j, j < nP → go j = st j) : ∀ (k i : Nat), i + k = c → ∀ (n m : Nat), k < n → k < m → ∃ x, pX0_firstWrong_L2 wh gd (nI c) go n (nI i) = some x ∧ pX9_judge_L2 st bk (nI c) m (nI i) = some x := by
  intro k
  induction k with
  | zero =>
    intro i hi n m hn hm
    obtain ⟨n, rfl⟩ := fuel hn
    obtain ⟨m, rfl⟩ := fuel hm
    have hle : nI c ≤ nI i := nI_le (by omega) (by omega)
    rw [pX0_firstWrong_L2, pX9_judge_L2, if_pos hle, if_pos hle]
    exact ⟨_, rfl, rfl⟩
  | succ k ih =>
    intro i hi n m hn hm
    obtain ⟨n, rfl⟩ := fuel hn
    obtain ⟨m, rfl⟩ := fuel hm
    have hle : ¬ nI c ≤ nI i := nI_ge (by omega) (by omega)
    obtain ⟨s1, s2, q, hq, s3⟩ := hs i (by omega)
    have e2 : (2 : Int32) * nI i = nI (2 * i) := nI_mk 2 i
    rw [pX0_firstWrong_L2, pX9_judge_L2, if_neg hle, if_neg hle, e2, nI_1, nI_1, if_neg (gI (n := 15) (by omega) (by decide)), if_neg (gI (n := 30) (by omega) (by decide)), if_neg (gI (n := 30) (by omega) (by decide)), nI_clamp (by omega), nI_clamp (by omega), nI_clamp (by omega), s1, s2, s3, zadd, if_neg (gI (n := 6) (by omega) (by decide)), if_neg (gI (n := 17) (by omega) (by decide)), nI_clamp (by omega), hg q hq]
    by_cases hc2 : st q = bk (2 * i + 1)
    · rw [if_pos hc2, if_pos hc2]
      exact ih (i + 1) (by omega) n m (by omega) (by omega)
    · rw [if_neg hc2, if_neg hc2]
      exact ⟨_, rfl, rfl⟩
theorem op_judge {N nP nB nH nG : Nat} {kr_drawn : Int32} {tx_signs : Nat → Int32} {tx_length : Int32} {tx_place : Int32} {tl_stands : Int32} {tl_death : Int32} {tl_payers : Int32} {tl_bids : Int32} {tl_hostages : Int32} {tl_bags : Int32} {tl_bagMarks : Int32} {tl_shy : Nat → Int32} {tl_bidOf : Nat → Int32} {tl_daysOf : Nat → Int32} {nw_price : Int32} {nw_months : Int32} {nw_chest : Int32} {nw_given : Int32} {nw_fate : Int32} {nw_goods : Nat → Int32} {nw_rates : Nat → Int32} {pa_next : Int32} {pa_count : Int32} {ps : Nat → krS} {i0_held : Int32} {i0_drawn : Int32} {i0s_price : Int32} {i0s_months : Int32} {i0s_chest : Int32} {i0s_given : Int32} {i0s_fate : Int32} {i0s_goods : Nat → Int32} {i0s_rates : Nat → Int32} {i1_held : Int32} {i1_drawn : Int32} {i1s_price : Int32} {i1s_months : Int32} {i1s_chest : Int32} {i1s_given : Int32} {i1s_fate : Int32} {i1s_goods : Nat → Int32} {i1s_rates : Nat → Int32} {sc_sets : Nat → Int32} {sc_weights : Nat → Int32} {sc_count : Int32} {bk_whose : Nat → Int32} {bk_goods : Nat → Int32} {bk_count : Int32} {mo_told : Nat → Int32} {mo_st : Nat → Int32} {mo_isThere : Int32} {mo_seed : Int32} {mo_text : Nat → Int32} {mo_typed : Int32} {mo_faultAt : Int32} {mo_ahead : Nat → Int32} {mo_undoMany : Int32} {mo_weighings : Nat → Int32} {mo_weighed : Int32} {mo_book : Nat → Int32} {mo_entries : Int32} {mo_isKept : Nat → Int32} {mo_kept : Nat → Int32} {mo_seeds : Nat → Int32} (hN : 20000 ≤ N) (h : Rel nP nB nH nG kr_drawn tx_signs tx_length tx_place tl_stands tl_death tl_payers tl_bids tl_hostages tl_bags tl_bagMarks tl_shy tl_bidOf tl_daysOf nw_price nw_months nw_chest nw_given nw_fate nw_goods nw_rates pa_next pa_count ps i0_held i0_drawn i0s_price i0s_months i0s_chest i0s_given i0s_fate i0s_goods i0s_rates i1_held i1_drawn i1s_price i1s_months i1s_chest i1s_given i1s_fate i1s_goods i1s_rates sc_sets sc_weights sc_count bk_whose bk_goods bk_count mo_told mo_st mo_isThere mo_seed mo_text mo_typed mo_faultAt mo_ahead mo_undoMany mo_weighings mo_weighed mo_book mo_entries mo_isKept mo_kept mo_seeds) : ∃ (r : Int32), pX8_judge N nw_goods bk_whose bk_goods bk_count = some (r) ∧ pX9_judge N mo_st mo_book mo_entries = some (r) ∧ Rel nP nB nH nG kr_drawn tx_signs tx_length tx_place tl_stands tl_death tl_payers tl_bids tl_hostages tl_bags tl_bagMarks tl_shy tl_bidOf tl_daysOf nw_price nw_months nw_chest nw_given nw_fate nw_goods nw_rates pa_next pa_count ps i0_held i0_drawn i0s_price i0s_months i0s_chest i0s_given i0s_fate i0s_goods i0s_rates i1_held i1_drawn i1s_price i1s_months i1s_chest i1s_given i1s_fate i1s_goods i1s_rates sc_sets sc_weights sc_count bk_whose bk_goods bk_count mo_told mo_st mo_isThere mo_seed mo_text mo_typed mo_faultAt mo_ahead mo_undoMany mo_weighings mo_weighed mo_book mo_entries mo_isKept mo_kept mo_seeds := by
  have hh := h
  obtain ⟨-, h2, h3, -, -, -, -, ⟨c, hc, e1, e2, hs⟩, -⟩ := h
  have hP := h2.2.2.2.1.2.2
  subst e1 e2
  obtain ⟨x, c1, c2⟩ := judge_sim (go := nw_goods) (st := mo_st) hc hP hs (fun j hj => (h3.1 j hj).1) c 0 (by omega) N N (by omega) (by omega)
  unfold pX8_judge pX9_judge pX0_firstWrong
  have c1 : pX0_firstWrong_L2 bk_whose bk_goods (nI c) nw_goods N 0 = some x := c1
  rw [kb1_t c1]
  exact ⟨x, rfl, c2, hh⟩
