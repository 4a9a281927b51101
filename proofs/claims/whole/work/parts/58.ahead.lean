/-! ===== months to, spared, images ===== -/
theorem aside_loop {N : Nat} {told st : Nat → Int32} : ∀ (k i : Nat), i + k = 17 → ∀ (n : Nat), k < n → ∀ (a : Nat → Int32), ∃ a2, pX9_monthsTo_L12 N told st n (nI i) a = pX9_monthsTo_L38 N told N 0 st a2 ∧ ∀ j, a2 j = if i ≤ j ∧ j < 17 then st j else a j := by
  intro k
  induction k with
  | zero =>
    intro i hi n hn a
    obtain ⟨n, rfl⟩ := fuel hn
    have e : i = 17 := by omega
    subst e
    refine ⟨a, ?_, fun j => by rw [if_neg (by omega)]⟩
    rw [pX9_monthsTo_L12, if_pos (by decide)]
  | succ k ih =>
    intro i hi n hn a
    obtain ⟨n, rfl⟩ := fuel hn
    have hle : ¬ (17 : Int32) ≤ nI i := nI_ge (b := 17) (by omega) (by decide)
    rw [pX9_monthsTo_L12, if_neg hle, if_neg (gI (n := 17) (by omega) (by decide)), nI_clamp (by omega), nI_1]
    obtain ⟨a2, h1, h2⟩ := ih (i + 1) (by omega) n (by omega) (upd a i (st i))
    refine ⟨a2, h1, fun j => ?_⟩
    rw [h2 j]
    by_cases hj : j = i
    · subst hj
      rw [if_neg (by omega), if_pos (by omega), pk_us]
    · by_cases hr : i + 1 ≤ j ∧ j < 17
      · rw [if_pos hr, if_pos (by omega)]
      · rw [if_neg hr, if_neg (by omega), pk_un hj]
theorem back_loop {v1 v2 : Int32} {a : Nat → Int32} : ∀ (k i : Nat), i + k = 17 → ∀ (n : Nat), k < n → ∀ (st : Nat → Int32), ∃ s2, pX9_monthsTo_L90 n v1 v2 (nI i) st a = some (if v2 = 0 then -1 else v1, s2, a) ∧ ∀ j, s2 j = if i ≤ j ∧ j < 17 then a j else st j := by
  intro k
  induction k with
  | zero =>
    intro i hi n hn st
    obtain ⟨n, rfl⟩ := fuel hn
    have e : i = 17 := by omega
    subst e
    refine ⟨st, ?_, fun j => by rw [if_neg (by omega)]⟩
    rw [pX9_monthsTo_L90, if_pos (by decide)]
    by_cases h : v2 = 0
    · rw [if_pos h, if_pos h]
    · rw [if_neg h, if_neg h]
  | succ k ih =>
    intro i hi n hn st
    obtain ⟨n, rfl⟩ := fuel hn
    have hle : ¬ (17 : Int32) ≤ nI i := nI_ge (b := 17) (by omega) (by decide)
    rw [pX9_monthsTo_L90, if_neg hle, if_neg (gI (n := 17) (by omega) (by decide)), nI_clamp (by omega), nI_1]
    obtain ⟨a2, h1, h2⟩ := ih (i + 1) (by omega) n (by omega) (upd st i (a i))
    refine ⟨a2, h1, fun j => ?_⟩
    rw [h2 j]
    by_cases hj : j = i
    · subst hj
      rw [if_neg (by omega), if_pos (by omega), pk_us]
    · by_cases hr : i + 1 ≤ j ∧ j < 17
      · rw [if_pos hr, if_pos (by omega)]
      · rw [if_neg hr, if_neg (by omega), pk_un hj]
theorem mt_loop {N nP nH : Nat} (hN : 20000 ≤ N) (hP : nP ≤ 6) (hH : nH ≤ 6) {p g f x : Int32} {ra shy told a : Nat → Int32} (h2 : told 2 = nI nP) (hsh : ∀ j, j < nP → shy j = told (13 + j) ∧ ∃ q : Nat, q ≤ 9 ∧ told (13 + j) = nI q) (hx : pX5_cost p g = some x) : ∀ (k t : Nat), t + k = 99 → ∀ (n n2 : Nat), k + 1 < n → k < n2 → ∀ (m c : Int32) (go st : Nat → Int32), rS nP nH (p, m, c, g, f, go, ra) st → ∃ (r m2 c2 : Int32) (go2 st2 : Nat → Int32), pX8_monthsTo_L31 N (nI nP) shy n x (nI t) p m c g f go ra = some (r, p, m2, c2, g, f, go2, ra) ∧ pX9_monthsTo_L38 N told n2 (nI t) st a = some (r, st2, a) ∧ ∀ j, j < 17 → st2 j = a j := by
  have cost : ∀ (m c : Int32) (go st : Nat → Int32), rS nP nH (p, m, c, g, f, go, ra) st → pX9_cost N st = some x := by
    intro m c go st h
    obtain ⟨gg, hgg, s7⟩ := h.2.2.2.2.2.2
    obtain ⟨y, c1, c2⟩ := cost_eq hN (g64 hH hgg) h.2.2.2.1 h.2.2.2.2.1 s7
    rw [hx] at c1
    cases c1
    exact c2
  have stop : ∀ (v1 : Int32) (m c : Int32) (go st : Nat → Int32), rS nP nH (p, m, c, g, f, go, ra) st → ∃ st2, pX9_monthsTo_L68 N v1 st a = some (if c < x then -1 else v1, st2, a) ∧ ∀ j, j < 17 → st2 j = a j := by
    intro v1 m c go st h
    have e12 : c = st 12 := h.2.1
    unfold pX9_monthsTo_L68 pX9_monthsTo_L87
    rw [kb1_t (cost m c go st h), ← e12]
    by_cases hc : c < x
    · obtain ⟨s2, b1, b2⟩ := back_loop (v1 := v1) (v2 := 0) (a := a) 17 0 (by omega) N (by omega) st
      refine ⟨s2, ?_, fun j hj => by rw [b2 j, if_pos (by omega)]⟩
      rw [if_pos hc, if_pos hc]
      exact b1
    · obtain ⟨s2, b1, b2⟩ := back_loop (v1 := v1) (v2 := 1) (a := a) 17 0 (by omega) N (by omega) st
      refine ⟨s2, ?_, fun j hj => by rw [b2 j, if_pos (by omega)]⟩
      rw [if_neg hc, if_neg hc]
      exact b1
  intro k
  induction k with
  | zero =>
    intro t ht n n2 hn hn2 m c go st h
    obtain ⟨n, rfl⟩ := fuel hn
    obtain ⟨n2, rfl⟩ := fuel hn2
    have e : t = 99 := by omega
    subst e
    obtain ⟨st2, s1, s2⟩ := stop (nI 99) m c go st h
    rw [pX8_monthsTo_L31, pX9_monthsTo_L38, if_neg (show ¬ (99 : Int32) < nI 99 by decide), if_pos (show (99 : Int32) ≤ nI 99 by decide), s1]
    by_cases hc : c < x
    · rw [if_pos hc, if_pos hc]
      obtain ⟨m2, c2, go2, st3, e1, -, -⟩ := month1 hN hP h2 hsh h
      obtain ⟨n, rfl⟩ := fuel (show 0 < n by omega)
      rw [kb3_t e1, nI_1, pX8_monthsTo_L31, if_pos (show (99 : Int32) < nI (99 + 1) by decide)]
      exact ⟨_, _, _, _, _, rfl, rfl, s2⟩
    · rw [if_neg hc, if_neg hc]
      exact ⟨_, _, _, _, _, rfl, rfl, s2⟩
  | succ k ih =>
    intro t ht n n2 hn hn2 m c go st h
    obtain ⟨n, rfl⟩ := fuel hn
    obtain ⟨n2, rfl⟩ := fuel hn2
    have e12 : c = st 12 := h.2.1
    rw [pX8_monthsTo_L31, pX9_monthsTo_L38, if_neg (show ¬ (99 : Int32) < nI t from nI_nlt (a := 99) (by omega) (by decide)), if_neg (show ¬ (99 : Int32) ≤ nI t from nI_ge (b := 99) (by omega) (by decide)), kb1_t (cost m c go st h), ← e12]
    by_cases hc : c < x
    · rw [if_pos hc, if_neg (fun z => i_nlt.mpr z hc)]
      obtain ⟨m2, c2, go2, st3, e1, e2, e3⟩ := month1 hN hP h2 hsh h
      rw [kb3_t e1, kb1_t e2, nI_1]
      exact ih (t + 1) (by omega) n n2 (by omega) (by omega) m2 c2 go2 st3 e3
    · rw [if_neg hc, if_pos (i_nlt.mp hc)]
      obtain ⟨st2, s1, s2⟩ := stop (nI t) m c go st h
      rw [s1, if_neg hc]
      exact ⟨_, _, _, _, _, rfl, rfl, s2⟩
theorem op_monthsTo {N nP nB nH nG : Nat} {kr_drawn : Int32} {tx_signs : Nat → Int32} {tx_length : Int32} {tx_place : Int32} {tl_stands : Int32} {tl_death : Int32} {tl_payers : Int32} {tl_bids : Int32} {tl_hostages : Int32} {tl_bags : Int32} {tl_bagMarks : Int32} {tl_shy : Nat → Int32} {tl_bidOf : Nat → Int32} {tl_daysOf : Nat → Int32} {nw_price : Int32} {nw_months : Int32} {nw_chest : Int32} {nw_given : Int32} {nw_fate : Int32} {nw_goods : Nat → Int32} {nw_rates : Nat → Int32} {pa_next : Int32} {pa_count : Int32} {ps : Nat → krS} {i0_held : Int32} {i0_drawn : Int32} {i0s_price : Int32} {i0s_months : Int32} {i0s_chest : Int32} {i0s_given : Int32} {i0s_fate : Int32} {i0s_goods : Nat → Int32} {i0s_rates : Nat → Int32} {i1_held : Int32} {i1_drawn : Int32} {i1s_price : Int32} {i1s_months : Int32} {i1s_chest : Int32} {i1s_given : Int32} {i1s_fate : Int32} {i1s_goods : Nat → Int32} {i1s_rates : Nat → Int32} {sc_sets : Nat → Int32} {sc_weights : Nat → Int32} {sc_count : Int32} {bk_whose : Nat → Int32} {bk_goods : Nat → Int32} {bk_count : Int32} {mo_told : Nat → Int32} {mo_st : Nat → Int32} {mo_isThere : Int32} {mo_seed : Int32} {mo_text : Nat → Int32} {mo_typed : Int32} {mo_faultAt : Int32} {mo_ahead : Nat → Int32} {mo_undoMany : Int32} {mo_weighings : Nat → Int32} {mo_weighed : Int32} {mo_book : Nat → Int32} {mo_entries : Int32} {mo_isKept : Nat → Int32} {mo_kept : Nat → Int32} {mo_seeds : Nat → Int32} (hN : 20000 ≤ N) (h : Rel nP nB nH nG kr_drawn tx_signs tx_length tx_place tl_stands tl_death tl_payers tl_bids tl_hostages tl_bags tl_bagMarks tl_shy tl_bidOf tl_daysOf nw_price nw_months nw_chest nw_given nw_fate nw_goods nw_rates pa_next pa_count ps i0_held i0_drawn i0s_price i0s_months i0s_chest i0s_given i0s_fate i0s_goods i0s_rates i1_held i1_drawn i1s_price i1s_months i1s_chest i1s_given i1s_fate i1s_goods i1s_rates sc_sets sc_weights sc_count bk_whose bk_goods bk_count mo_told mo_st mo_isThere mo_seed mo_text mo_typed mo_faultAt mo_ahead mo_undoMany mo_weighings mo_weighed mo_book mo_entries mo_isKept mo_kept mo_seeds) (ah_price : Int32) (ah_months : Int32) (ah_chest : Int32) (ah_given : Int32) (ah_fate : Int32) (ah_goods : Nat → Int32) (ah_rates : Nat → Int32) (mo_aside : Nat → Int32) : ∃ (r : Int32) (z_ah_price : Int32) (z_ah_months : Int32) (z_ah_chest : Int32) (z_ah_given : Int32) (z_ah_fate : Int32) (z_ah_goods : Nat → Int32) (z_ah_rates : Nat → Int32) (y_mo_st : Nat → Int32) (y_mo_aside : Nat → Int32), pX8_monthsTo N tl_stands tl_payers tl_shy nw_price nw_months nw_chest nw_given nw_fate nw_goods nw_rates ah_price ah_months ah_chest ah_given ah_fate ah_goods ah_rates = some (r, z_ah_price, z_ah_months, z_ah_chest, z_ah_given, z_ah_fate, z_ah_goods, z_ah_rates) ∧ pX9_monthsTo N mo_told mo_st mo_isThere mo_aside = some (r, y_mo_st, y_mo_aside) ∧ Rel nP nB nH nG kr_drawn tx_signs tx_length tx_place tl_stands tl_death tl_payers tl_bids tl_hostages tl_bags tl_bagMarks tl_shy tl_bidOf tl_daysOf nw_price nw_months nw_chest nw_given nw_fate nw_goods nw_rates pa_next pa_count ps i0_held i0_drawn i0s_price i0s_months i0s_chest i0s_given i0s_fate i0s_goods i0s_rates i1_held i1_drawn i1s_price i1s_months i1s_chest i1s_given i1s_fate i1s_goods i1s_rates sc_sets sc_weights sc_count bk_whose bk_goods bk_count mo_told y_mo_st mo_isThere mo_seed mo_text mo_typed mo_faultAt mo_ahead mo_undoMany mo_weighings mo_weighed mo_book mo_entries mo_isKept mo_kept mo_seeds := by
  obtain ⟨h1, h2, h3, h4, h5, h6, h7, h8, h9⟩ := h
  have h2' := h2
  obtain ⟨t1, -, -, ⟨a2, b2, hP⟩, -, ⟨-, -, hH⟩, -, -, hsh, -, -⟩ := h2'
  subst a2
  have e14 : nw_price = mo_st 14 := h3.2.2.2.1
  have e15 : nw_given = mo_st 15 := h3.2.2.2.2.1
  have e16 : nw_fate = mo_st 16 := h3.2.2.2.2.2.1
  obtain ⟨gg, hgg, s7⟩ := h3.2.2.2.2.2.2
  obtain ⟨x, c1, c2⟩ := cost_eq hN (g64 hH hgg) e14 e15 s7
  unfold pX8_monthsTo pX9_monthsTo
  rw [kept_eq t1 e16]
  rcases kept_01 tl_stands nw_fate with hk | hk
  · rw [kb1_t hk, kb1_t hk, if_pos rfl, if_pos rfl]
    exact ⟨_, _, _, _, _, _, _, _, _, _, rfl, rfl, h1, h2, h3, h4, h5, h6, h7, h8, h9⟩
  · obtain ⟨go2, ra2, b1, b3⟩ := become_eq hN ah_goods ah_rates nw_price nw_months nw_chest nw_given nw_fate nw_goods nw_rates
    obtain ⟨a2, u1, u2⟩ := aside_loop (N := N) (told := mo_told) (st := mo_st) 17 0 (by omega) N (by omega) mo_aside
    have u1 : pX9_monthsTo_L12 N mo_told mo_st N 0 mo_aside = pX9_monthsTo_L38 N mo_told N 0 mo_st a2 := u1
    obtain ⟨r, m2, c3, go3, st2, e1, e2, e3⟩ := mt_loop (a := a2) hN hP hH b2 hsh c1 99 0 (by omega) N N (by omega) (by omega) nw_months nw_chest go2 mo_st (rS_rows h3 hP b3)
    rw [kb1_t hk, kb1_t hk, if_neg (show ¬ (1 : Int32) = 0 by decide), if_neg (show ¬ (1 : Int32) = 0 by decide), kb7_t' b1, kb1_t c1, u1]
    refine ⟨r, _, _, _, _, _, _, _, st2, a2, e1, e2, h1, h2, rS_congr h3 hP (fun k hk => ?_), h4, h5, h6, h7, h8, h9⟩
    rw [e3 k hk, u2 k, if_pos (by omega)]
theorem spared_sim {N nP : Nat} (hN : 20000 ≤ N) (hP : nP ≤ 6) (x1 x2 : Int32) {shy goods told st : Nat → Int32} (h2 : told 2 = nI nP) (hc : ∀ set, ∃ x, pX8_comesBy N x1 set (nI nP) shy goods = some x ∧ pX9_bringsBy N x1 set told st = some x) : ∀ (k i : Nat), i + k = 2 ^ nP → ∀ (n m : Nat), k < n → k < m → ∀ (b v : Int32), ((b = -1 ∧ v = -1) ∨ ∃ q : Nat, q < 64 ∧ b = nI q ∧ v = nI (pc q)) → ∃ x, pX8_spared_L25 N x1 x2 (nI nP) shy goods n b v (nI i) = some x ∧ pX9_spared_L32 N x1 x2 told st m b (nI i) = some x := by
  have hpow : 2 ^ nP ≤ 64 := Nat.pow_le_pow_right (n := 2) (by decide) hP
  have hsh := shl1 nP (by omega)
  intro k
  induction k with
  | zero =>
    intro i hi n m hn hm b v hb
    obtain ⟨n, rfl⟩ := fuel hn
    obtain ⟨m, rfl⟩ := fuel hm
    have hle : nI (2 ^ nP) ≤ nI i := nI_le (by omega) (by omega)
    rw [pX8_spared_L25, pX9_spared_L32, h2, hsh, if_pos hle, if_pos hle]
    exact ⟨_, rfl, rfl⟩
  | succ k ih =>
    intro i hi n m hn hm b v hb
    obtain ⟨n, rfl⟩ := fuel hn
    obtain ⟨m, rfl⟩ := fuel hm
    have hle : ¬ nI (2 ^ nP) ≤ nI i := nI_ge (by omega) (by omega)
    have hpi := pc_le i
    obtain ⟨x, c1, c2⟩ := hc (nI i)
    rw [pX8_spared_L25, pX9_spared_L32, h2, hsh, if_neg hle, if_neg hle, kb1_t (bitc i (by omega))]
    unfold pX8_spared_L71 pX9_spared_L61 pX9_spared_L66 pX9_spared_L89 pX9_spared_L90
    rw [kb1_t c1, kb1_t c2, nI_1, kb1_t (ones9 hN (q := i) (by omega)), if_neg (show ¬ (1 : Int32) = 0 by decide), if_pos (show (0 : Int32) = 0 from rfl)]
    rcases hb with ⟨rfl, rfl⟩ | ⟨q, hq, rfl, rfl⟩
    · have hn1 : ¬ nI (pc i) ≤ (-1 : Int32) := by
        rw [fa_le, nI_toInt (by omega)]
        have : (-1 : Int32).toInt = -1 := by decide
        omega
      rw [if_neg hn1, if_pos (show (-1 : Int32) < 0 by decide)]
      by_cases hx : x < x2
      · rw [if_pos hx, if_pos hx]
        exact ih (i + 1) (by omega) n m (by omega) (by omega) _ _ (Or.inl ⟨rfl, rfl⟩)
      · rw [if_neg hx, if_neg hx]
        exact ih (i + 1) (by omega) n m (by omega) (by omega) _ _ (Or.inr ⟨i, by omega, rfl, rfl⟩)
    · rw [if_neg (nI_pos (n := q) (by omega)), kb1_t (ones9 hN (q := q) (by omega))]
      by_cases hpc : nI (pc i) ≤ nI (pc q)
      · rw [if_pos hpc, if_pos hpc]
        exact ih (i + 1) (by omega) n m (by omega) (by omega) _ _ (Or.inr ⟨q, hq, rfl, rfl⟩)
      · rw [if_neg hpc, if_neg hpc]
        by_cases hx : x < x2
        · rw [if_pos hx, if_pos hx]
          exact ih (i + 1) (by omega) n m (by omega) (by omega) _ _ (Or.inr ⟨q, hq, rfl, rfl⟩)
        · rw [if_neg hx, if_neg hx]
          exact ih (i + 1) (by omega) n m (by omega) (by omega) _ _ (Or.inr ⟨i, by omega, rfl, rfl⟩)
theorem op_spared {N nP nB nH nG : Nat} {kr_drawn : Int32} {tx_signs : Nat → Int32} {tx_length : Int32} {tx_place : Int32} {tl_stands : Int32} {tl_death : Int32} {tl_payers : Int32} {tl_bids : Int32} {tl_hostages : Int32} {tl_bags : Int32} {tl_bagMarks : Int32} {tl_shy : Nat → Int32} {tl_bidOf : Nat → Int32} {tl_daysOf : Nat → Int32} {nw_price : Int32} {nw_months : Int32} {nw_chest : Int32} {nw_given : Int32} {nw_fate : Int32} {nw_goods : Nat → Int32} {nw_rates : Nat → Int32} {pa_next : Int32} {pa_count : Int32} {ps : Nat → krS} {i0_held : Int32} {i0_drawn : Int32} {i0s_price : Int32} {i0s_months : Int32} {i0s_chest : Int32} {i0s_given : Int32} {i0s_fate : Int32} {i0s_goods : Nat → Int32} {i0s_rates : Nat → Int32} {i1_held : Int32} {i1_drawn : Int32} {i1s_price : Int32} {i1s_months : Int32} {i1s_chest : Int32} {i1s_given : Int32} {i1s_fate : Int32} {i1s_goods : Nat → Int32} {i1s_rates : Nat → Int32} {sc_sets : Nat → Int32} {sc_weights : Nat → Int32} {sc_count : Int32} {bk_whose : Nat → Int32} {bk_goods : Nat → Int32} {bk_count : Int32} {mo_told : Nat → Int32} {mo_st : Nat → Int32} {mo_isThere : Int32} {mo_seed : Int32} {mo_text : Nat → Int32} {mo_typed : Int32} {mo_faultAt : Int32} {mo_ahead : Nat → Int32} {mo_undoMany : Int32} {mo_weighings : Nat → Int32} {mo_weighed : Int32} {mo_book : Nat → Int32} {mo_entries : Int32} {mo_isKept : Nat → Int32} {mo_kept : Nat → Int32} {mo_seeds : Nat → Int32} (hN : 20000 ≤ N) (h : Rel nP nB nH nG kr_drawn tx_signs tx_length tx_place tl_stands tl_death tl_payers tl_bids tl_hostages tl_bags tl_bagMarks tl_shy tl_bidOf tl_daysOf nw_price nw_months nw_chest nw_given nw_fate nw_goods nw_rates pa_next pa_count ps i0_held i0_drawn i0s_price i0s_months i0s_chest i0s_given i0s_fate i0s_goods i0s_rates i1_held i1_drawn i1s_price i1s_months i1s_chest i1s_given i1s_fate i1s_goods i1s_rates sc_sets sc_weights sc_count bk_whose bk_goods bk_count mo_told mo_st mo_isThere mo_seed mo_text mo_typed mo_faultAt mo_ahead mo_undoMany mo_weighings mo_weighed mo_book mo_entries mo_isKept mo_kept mo_seeds) (x1 : Int32) (x2 : Int32) : ∃ (r : Int32), pX8_spared N x1 x2 tl_payers tl_shy nw_goods = some (r) ∧ pX9_spared N x1 x2 mo_told mo_st = some (r) ∧ Rel nP nB nH nG kr_drawn tx_signs tx_length tx_place tl_stands tl_death tl_payers tl_bids tl_hostages tl_bags tl_bagMarks tl_shy tl_bidOf tl_daysOf nw_price nw_months nw_chest nw_given nw_fate nw_goods nw_rates pa_next pa_count ps i0_held i0_drawn i0s_price i0s_months i0s_chest i0s_given i0s_fate i0s_goods i0s_rates i1_held i1_drawn i1s_price i1s_months i1s_chest i1s_given i1s_fate i1s_goods i1s_rates sc_sets sc_weights sc_count bk_whose bk_goods bk_count mo_told mo_st mo_isThere mo_seed mo_text mo_typed mo_faultAt mo_ahead mo_undoMany mo_weighings mo_weighed mo_book mo_entries mo_isKept mo_kept mo_seeds := by
  have hh := h
  obtain ⟨-, ⟨-, -, -, ⟨a2, b2, hP⟩, -, -, -, -, hsh, -, -⟩, ⟨hg, -⟩, -⟩ := h
  subst a2
  have hpow : 2 ^ nP ≤ 64 := Nat.pow_le_pow_right (n := 2) (by decide) hP
  have hc := com_eq hN hP b2 (fun j hj => ⟨(hsh j hj).1, (hg j hj).1⟩)
  obtain ⟨x, c1, c2⟩ := spared_sim hN hP x1 x2 b2 (fun s => hc x1 s) (2 ^ nP) 0 (by omega) N N (by omega) (by omega) (-1) (-1) (Or.inl ⟨rfl, rfl⟩)
  unfold pX8_spared pX9_spared
  rw [kb1_t (isRate8 x1), kb1_t (rate9 x1), kb1_t (isMuch8 x2), kb1_t (much9 x2)]
  by_cases hb : bI (0 ≤ x1 ∧ x1 ≤ 100) = 0
  · simp only [if_pos hb]
    exact ⟨_, rfl, rfl, hh⟩
  simp only [if_neg hb]
  by_cases hm : bI (0 ≤ x2 ∧ x2 ≤ 9999) = 0
  · simp only [if_pos hm]
    exact ⟨_, rfl, rfl, hh⟩
  simp only [if_neg hm]
  exact ⟨x, c1, c2, hh⟩
theorem isImage8 (x : Int32) : pX8_isImage x = some (bI (0 ≤ x ∧ x ≤ 1)) := by
  unfold pX8_isImage
  by_cases h0 : x < 0
  · rw [if_pos h0, bI_f (fun z => i_nlt.mpr z.1 h0)]
  · rw [if_neg h0]
    by_cases h1 : 2 ≤ x
    · have hn : ¬ (0 ≤ x ∧ x ≤ 1) := fun z => by
        have a := (fa_le _ _).mp h1
        have b := (fa_le _ _).mp z.2
        have e1 : (1 : Int32).toInt = 1 := by decide
        have e2 : (2 : Int32).toInt = 2 := by decide
        rw [e2] at a; rw [e1] at b; omega
      rw [if_pos h1, bI_f hn]
    · have hn : x ≤ 1 := by
        have a := (fa_lt _ _).mp (i_nle.mp h1)
        rw [fa_le]
        have e1 : (1 : Int32).toInt = 1 := by decide
        have e2 : (2 : Int32).toInt = 2 := by decide
        rw [e2] at a; rw [e1]; omega
      rw [if_neg h1, bI_t ⟨i_nlt.mp h0, hn⟩]
theorem keep_loop {x1 sd : Int32} {st ik sds : Nat → Int32} {w : Nat} (hw : w < 2) (hx : x1 = nI w) : ∀ (k i : Nat), i + k = 17 → ∀ (n : Nat), k < n → ∀ (a : Nat → Int32), ∃ a2, pX9_keep_L15 x1 st sd ik sds n (nI i) a = some (1, 0, upd ik w 1, a2, upd sds w sd) ∧ ∀ j, a2 j = if 17 * w + i ≤ j ∧ j < 17 * w + 17 then st (j - 17 * w) else a j := by
  subst hx
  intro k
  induction k with
  | zero =>
    intro i hi n hn a
    obtain ⟨n, rfl⟩ := fuel hn
    have e : i = 17 := by omega
    subst e
    refine ⟨a, ?_, fun j => by rw [if_neg (by omega)]⟩
    rw [pX9_keep_L15, if_pos (by decide), if_neg (gI hw (by decide)), nI_clamp (by omega)]
  | succ k ih =>
    intro i hi n hn a
    obtain ⟨n, rfl⟩ := fuel hn
    have hle : ¬ (17 : Int32) ≤ nI i := nI_ge (b := 17) (by omega) (by decide)
    have e1 : (17 : Int32) * nI w + nI i = nI (17 * w + i) := by rw [nI_mk 17 w, nI_add]
    rw [pX9_keep_L15, if_neg hle, if_neg (gI (n := 17) (by omega) (by decide)), e1, if_neg (gI (n := 34) (by omega) (by decide)), nI_clamp (by omega), nI_clamp (by omega), nI_1]
    obtain ⟨a2, h1, h2⟩ := ih (i + 1) (by omega) n (by omega) (upd a (17 * w + i) (st i))
    refine ⟨a2, h1, fun j => ?_⟩
    rw [h2 j]
    by_cases hj : j = 17 * w + i
    · subst hj
      rw [if_neg (by omega), if_pos (by omega), pk_us, Nat.add_sub_cancel_left]
    · by_cases hr : 17 * w + (i + 1) ≤ j ∧ j < 17 * w + 17
      · rw [if_pos hr, if_pos (by omega)]
      · rw [if_neg hr, if_neg (by omega), pk_un hj]
theorem goBack_loop {x1 : Int32} {kept sds : Nat → Int32} {w : Nat} (hw : w < 2) (hx : x1 = nI w) : ∀ (k i : Nat), i + k = 17 → ∀ (n : Nat), k < n → ∀ (st : Nat → Int32), ∃ s2, pX9_goBack_L27 x1 kept sds n (nI i) st = some (1, s2, sds w, 0) ∧ ∀ j, s2 j = if i ≤ j ∧ j < 17 then kept (17 * w + j) else st j := by
  subst hx
  intro k
  induction k with
  | zero =>
    intro i hi n hn st
    obtain ⟨n, rfl⟩ := fuel hn
    have e : i = 17 := by omega
    subst e
    refine ⟨st, ?_, fun j => by rw [if_neg (by omega)]⟩
    rw [pX9_goBack_L27, if_pos (by decide), if_neg (gI hw (by decide)), nI_clamp (by omega)]
  | succ k ih =>
    intro i hi n hn st
    obtain ⟨n, rfl⟩ := fuel hn
    have hle : ¬ (17 : Int32) ≤ nI i := nI_ge (b := 17) (by omega) (by decide)
    have e1 : (17 : Int32) * nI w + nI i = nI (17 * w + i) := by rw [nI_mk 17 w, nI_add]
    simp only [pX9_goBack_L27, kl]
    rw [if_neg hle, if_neg (gI (n := 17) (by omega) (by decide)), e1, if_neg (gI (n := 34) (by omega) (by decide)), nI_clamp (by omega), nI_clamp (by omega), nI_1]
    obtain ⟨a2, h1, h2⟩ := ih (i + 1) (by omega) n (by omega) (upd st i (kept (17 * w + i)))
    refine ⟨a2, h1, fun j => ?_⟩
    rw [h2 j]
    by_cases hj : j = i
    · subst hj
      rw [if_neg (by omega), if_pos (by omega), pk_us]
    · by_cases hr : i + 1 ≤ j ∧ j < 17
      · rw [if_pos hr, if_pos (by omega)]
      · rw [if_neg hr, if_neg (by omega), pk_un hj]
theorem x01 {x : Int32} (h : 0 ≤ x ∧ x ≤ 1) : x = nI 0 ∨ x = nI 1 := by
  obtain ⟨j, hj, e⟩ := i_of_le (n := 1) (by decide) h.1 h.2
  rcases (show j = 0 ∨ j = 1 by omega) with rfl | rfl
  · exact Or.inl e
  · exact Or.inr e
theorem rPa_none {nP nH : Nat} {next count many : Int32} {ps : Nat → krS} {ahead : Nat → Int32} (h : rPa nP nH next count ps ahead many) : rPa nP nH next 0 ps ahead 0 := by
  obtain ⟨a, c, ha, -, e1, -, -, -⟩ := h
  exact ⟨a, 0, ha, by omega, e1, rfl, rfl, fun i hi => absurd hi (Nat.not_lt_zero i)⟩
theorem op_keep {N nP nB nH nG : Nat} {kr_drawn : Int32} {tx_signs : Nat → Int32} {tx_length : Int32} {tx_place : Int32} {tl_stands : Int32} {tl_death : Int32} {tl_payers : Int32} {tl_bids : Int32} {tl_hostages : Int32} {tl_bags : Int32} {tl_bagMarks : Int32} {tl_shy : Nat → Int32} {tl_bidOf : Nat → Int32} {tl_daysOf : Nat → Int32} {nw_price : Int32} {nw_months : Int32} {nw_chest : Int32} {nw_given : Int32} {nw_fate : Int32} {nw_goods : Nat → Int32} {nw_rates : Nat → Int32} {pa_next : Int32} {pa_count : Int32} {ps : Nat → krS} {i0_held : Int32} {i0_drawn : Int32} {i0s_price : Int32} {i0s_months : Int32} {i0s_chest : Int32} {i0s_given : Int32} {i0s_fate : Int32} {i0s_goods : Nat → Int32} {i0s_rates : Nat → Int32} {i1_held : Int32} {i1_drawn : Int32} {i1s_price : Int32} {i1s_months : Int32} {i1s_chest : Int32} {i1s_given : Int32} {i1s_fate : Int32} {i1s_goods : Nat → Int32} {i1s_rates : Nat → Int32} {sc_sets : Nat → Int32} {sc_weights : Nat → Int32} {sc_count : Int32} {bk_whose : Nat → Int32} {bk_goods : Nat → Int32} {bk_count : Int32} {mo_told : Nat → Int32} {mo_st : Nat → Int32} {mo_isThere : Int32} {mo_seed : Int32} {mo_text : Nat → Int32} {mo_typed : Int32} {mo_faultAt : Int32} {mo_ahead : Nat → Int32} {mo_undoMany : Int32} {mo_weighings : Nat → Int32} {mo_weighed : Int32} {mo_book : Nat → Int32} {mo_entries : Int32} {mo_isKept : Nat → Int32} {mo_kept : Nat → Int32} {mo_seeds : Nat → Int32} (hN : 20000 ≤ N) (h : Rel nP nB nH nG kr_drawn tx_signs tx_length tx_place tl_stands tl_death tl_payers tl_bids tl_hostages tl_bags tl_bagMarks tl_shy tl_bidOf tl_daysOf nw_price nw_months nw_chest nw_given nw_fate nw_goods nw_rates pa_next pa_count ps i0_held i0_drawn i0s_price i0s_months i0s_chest i0s_given i0s_fate i0s_goods i0s_rates i1_held i1_drawn i1s_price i1s_months i1s_chest i1s_given i1s_fate i1s_goods i1s_rates sc_sets sc_weights sc_count bk_whose bk_goods bk_count mo_told mo_st mo_isThere mo_seed mo_text mo_typed mo_faultAt mo_ahead mo_undoMany mo_weighings mo_weighed mo_book mo_entries mo_isKept mo_kept mo_seeds) (x1 : Int32) : ∃ (r : Int32) (z_pa_count : Int32) (z_i0_held : Int32) (z_i0_drawn : Int32) (z_i0s_price : Int32) (z_i0s_months : Int32) (z_i0s_chest : Int32) (z_i0s_given : Int32) (z_i0s_fate : Int32) (z_i0s_goods : Nat → Int32) (z_i0s_rates : Nat → Int32) (z_i1_held : Int32) (z_i1_drawn : Int32) (z_i1s_price : Int32) (z_i1s_months : Int32) (z_i1s_chest : Int32) (z_i1s_given : Int32) (z_i1s_fate : Int32) (z_i1s_goods : Nat → Int32) (z_i1s_rates : Nat → Int32) (y_mo_undoMany : Int32) (y_mo_isKept : Nat → Int32) (y_mo_kept : Nat → Int32) (y_mo_seeds : Nat → Int32), pX8_keep N x1 kr_drawn nw_price nw_months nw_chest nw_given nw_fate nw_goods nw_rates pa_count i0_held i0_drawn i0s_price i0s_months i0s_chest i0s_given i0s_fate i0s_goods i0s_rates i1_held i1_drawn i1s_price i1s_months i1s_chest i1s_given i1s_fate i1s_goods i1s_rates = some (r, z_pa_count, z_i0_held, z_i0_drawn, z_i0s_price, z_i0s_months, z_i0s_chest, z_i0s_given, z_i0s_fate, z_i0s_goods, z_i0s_rates, z_i1_held, z_i1_drawn, z_i1s_price, z_i1s_months, z_i1s_chest, z_i1s_given, z_i1s_fate, z_i1s_goods, z_i1s_rates) ∧ pX9_keep N x1 mo_st mo_seed mo_undoMany mo_isKept mo_kept mo_seeds = some (r, y_mo_undoMany, y_mo_isKept, y_mo_kept, y_mo_seeds) ∧ Rel nP nB nH nG kr_drawn tx_signs tx_length tx_place tl_stands tl_death tl_payers tl_bids tl_hostages tl_bags tl_bagMarks tl_shy tl_bidOf tl_daysOf nw_price nw_months nw_chest nw_given nw_fate nw_goods nw_rates pa_next z_pa_count ps z_i0_held z_i0_drawn z_i0s_price z_i0s_months z_i0s_chest z_i0s_given z_i0s_fate z_i0s_goods z_i0s_rates z_i1_held z_i1_drawn z_i1s_price z_i1s_months z_i1s_chest z_i1s_given z_i1s_fate z_i1s_goods z_i1s_rates sc_sets sc_weights sc_count bk_whose bk_goods bk_count mo_told mo_st mo_isThere mo_seed mo_text mo_typed mo_faultAt mo_ahead y_mo_undoMany mo_weighings mo_weighed mo_book mo_entries y_mo_isKept y_mo_kept y_mo_seeds := by
  obtain ⟨h1, h2, h3, h4, h5, h6, h7, h8, h9⟩ := h
  have hP := h2.2.2.2.1.2.2
  unfold pX8_keep pX9_keep
  rw [kb1_t (isImage8 x1), kb1_t (in_k x1 0 1 (by decide) (by decide))]
  by_cases hx : 0 ≤ x1 ∧ x1 ≤ 1
  · rw [bI_t hx, if_neg (show ¬ (1 : Int32) = 0 by decide), if_neg (show ¬ (1 : Int32) = 0 by decide)]
    rcases x01 hx with e | e
    · obtain ⟨go2, ra2, b1, b2⟩ := become_eq hN i0s_goods i0s_rates nw_price nw_months nw_chest nw_given nw_fate nw_goods nw_rates
      obtain ⟨a2, k1, k2⟩ := keep_loop (x1 := x1) (sd := mo_seed) (st := mo_st) (ik := mo_isKept) (sds := mo_seeds) (w := 0) (by decide) e 17 0 (by omega) N (by omega) mo_kept
      have k1 : pX9_keep_L15 x1 mo_st mo_seed mo_isKept mo_seeds N 0 mo_kept = some (1, 0, upd mo_isKept 0 1, a2, upd mo_seeds 0 mo_seed) := k1
      rw [if_pos (show x1 = 0 from e), kb7_t' b1, k1]
      refine ⟨_, _, _, _, _, _, _, _, _, _, _, _, _, _, _, _, _, _, _, _, _, _, _, _, rfl, rfl, h1, h2, h3, rPa_none h4, ⟨pk_us, Or.inr rfl, fun _ => ⟨?_, ?_⟩⟩, ⟨?_, h6.2.1, fun hh => ?_⟩, h7, h8, h9⟩
      · rw [pk_us]; exact h9
      · refine rS_congr (rS_rows h3 hP b2) hP (fun k hk => ?_)
        show a2 (17 * 0 + k) = mo_st k
        rw [k2, if_pos (by omega)]
        congr 1; omega
      · rw [pk_un (by decide)]; exact h6.1
      · obtain ⟨z1, z2⟩ := h6.2.2 hh
        refine ⟨by rw [pk_un (by decide)]; exact z1, rS_congr z2 hP (fun k hk => ?_)⟩
        show a2 (17 * 1 + k) = mo_kept (17 * 1 + k)
        rw [k2, if_neg (by omega)]
    · obtain ⟨go2, ra2, b1, b2⟩ := become_eq hN i1s_goods i1s_rates nw_price nw_months nw_chest nw_given nw_fate nw_goods nw_rates
      obtain ⟨a2, k1, k2⟩ := keep_loop (x1 := x1) (sd := mo_seed) (st := mo_st) (ik := mo_isKept) (sds := mo_seeds) (w := 1) (by decide) e 17 0 (by omega) N (by omega) mo_kept
      have k1 : pX9_keep_L15 x1 mo_st mo_seed mo_isKept mo_seeds N 0 mo_kept = some (1, 0, upd mo_isKept 1 1, a2, upd mo_seeds 1 mo_seed) := k1
      rw [if_neg (show ¬ x1 = 0 by rw [e]; decide), if_pos (show x1 = 1 from e), kb7_t' b1, k1]
      refine ⟨_, _, _, _, _, _, _, _, _, _, _, _, _, _, _, _, _, _, _, _, _, _, _, _, rfl, rfl, h1, h2, h3, rPa_none h4, ⟨?_, h5.2.1, fun hh => ?_⟩, ⟨pk_us, Or.inr rfl, fun _ => ⟨?_, ?_⟩⟩, h7, h8, h9⟩
      · rw [pk_un (by decide)]; exact h5.1
      · obtain ⟨z1, z2⟩ := h5.2.2 hh
        refine ⟨by rw [pk_un (by decide)]; exact z1, rS_congr z2 hP (fun k hk => ?_)⟩
        show a2 (17 * 0 + k) = mo_kept (17 * 0 + k)
        rw [k2, if_neg (by omega)]
      · rw [pk_us]; exact h9
      · refine rS_congr (rS_rows h3 hP b2) hP (fun k hk => ?_)
        show a2 (17 * 1 + k) = mo_st k
        rw [k2, if_pos (by omega)]
        congr 1; omega
  · rw [bI_f hx, if_pos rfl, if_pos rfl]
    exact ⟨_, _, _, _, _, _, _, _, _, _, _, _, _, _, _, _, _, _, _, _, _, _, _, _, rfl, rfl, h1, h2, h3, h4, h5, h6, h7, h8, h9⟩
theorem op_goBack {N nP nB nH nG : Nat} {kr_drawn : Int32} {tx_signs : Nat → Int32} {tx_length : Int32} {tx_place : Int32} {tl_stands : Int32} {tl_death : Int32} {tl_payers : Int32} {tl_bids : Int32} {tl_hostages : Int32} {tl_bags : Int32} {tl_bagMarks : Int32} {tl_shy : Nat → Int32} {tl_bidOf : Nat → Int32} {tl_daysOf : Nat → Int32} {nw_price : Int32} {nw_months : Int32} {nw_chest : Int32} {nw_given : Int32} {nw_fate : Int32} {nw_goods : Nat → Int32} {nw_rates : Nat → Int32} {pa_next : Int32} {pa_count : Int32} {ps : Nat → krS} {i0_held : Int32} {i0_drawn : Int32} {i0s_price : Int32} {i0s_months : Int32} {i0s_chest : Int32} {i0s_given : Int32} {i0s_fate : Int32} {i0s_goods : Nat → Int32} {i0s_rates : Nat → Int32} {i1_held : Int32} {i1_drawn : Int32} {i1s_price : Int32} {i1s_months : Int32} {i1s_chest : Int32} {i1s_given : Int32} {i1s_fate : Int32} {i1s_goods : Nat → Int32} {i1s_rates : Nat → Int32} {sc_sets : Nat → Int32} {sc_weights : Nat → Int32} {sc_count : Int32} {bk_whose : Nat → Int32} {bk_goods : Nat → Int32} {bk_count : Int32} {mo_told : Nat → Int32} {mo_st : Nat → Int32} {mo_isThere : Int32} {mo_seed : Int32} {mo_text : Nat → Int32} {mo_typed : Int32} {mo_faultAt : Int32} {mo_ahead : Nat → Int32} {mo_undoMany : Int32} {mo_weighings : Nat → Int32} {mo_weighed : Int32} {mo_book : Nat → Int32} {mo_entries : Int32} {mo_isKept : Nat → Int32} {mo_kept : Nat → Int32} {mo_seeds : Nat → Int32} (hN : 20000 ≤ N) (h : Rel nP nB nH nG kr_drawn tx_signs tx_length tx_place tl_stands tl_death tl_payers tl_bids tl_hostages tl_bags tl_bagMarks tl_shy tl_bidOf tl_daysOf nw_price nw_months nw_chest nw_given nw_fate nw_goods nw_rates pa_next pa_count ps i0_held i0_drawn i0s_price i0s_months i0s_chest i0s_given i0s_fate i0s_goods i0s_rates i1_held i1_drawn i1s_price i1s_months i1s_chest i1s_given i1s_fate i1s_goods i1s_rates sc_sets sc_weights sc_count bk_whose bk_goods bk_count mo_told mo_st mo_isThere mo_seed mo_text mo_typed mo_faultAt mo_ahead mo_undoMany mo_weighings mo_weighed mo_book mo_entries mo_isKept mo_kept mo_seeds) (x1 : Int32) : ∃ (r : Int32) (z_kr_drawn : Int32) (z_nw_price : Int32) (z_nw_months : Int32) (z_nw_chest : Int32) (z_nw_given : Int32) (z_nw_fate : Int32) (z_nw_goods : Nat → Int32) (z_nw_rates : Nat → Int32) (z_pa_count : Int32) (y_mo_st : Nat → Int32) (y_mo_seed : Int32) (y_mo_undoMany : Int32), pX8_goBack N x1 kr_drawn nw_price nw_months nw_chest nw_given nw_fate nw_goods nw_rates pa_count i0_held i0_drawn i0s_price i0s_months i0s_chest i0s_given i0s_fate i0s_goods i0s_rates i1_held i1_drawn i1s_price i1s_months i1s_chest i1s_given i1s_fate i1s_goods i1s_rates = some (r, z_kr_drawn, z_nw_price, z_nw_months, z_nw_chest, z_nw_given, z_nw_fate, z_nw_goods, z_nw_rates, z_pa_count) ∧ pX9_goBack N x1 mo_st mo_seed mo_undoMany mo_isKept mo_kept mo_seeds = some (r, y_mo_st, y_mo_seed, y_mo_undoMany) ∧ Rel nP nB nH nG z_kr_drawn tx_signs tx_length tx_place tl_stands tl_death tl_payers tl_bids tl_hostages tl_bags tl_bagMarks tl_shy tl_bidOf tl_daysOf z_nw_price z_nw_months z_nw_chest z_nw_given z_nw_fate z_nw_goods z_nw_rates pa_next z_pa_count ps i0_held i0_drawn i0s_price i0s_months i0s_chest i0s_given i0s_fate i0s_goods i0s_rates i1_held i1_drawn i1s_price i1s_months i1s_chest i1s_given i1s_fate i1s_goods i1s_rates sc_sets sc_weights sc_count bk_whose bk_goods bk_count mo_told y_mo_st mo_isThere y_mo_seed mo_text mo_typed mo_faultAt mo_ahead y_mo_undoMany mo_weighings mo_weighed mo_book mo_entries mo_isKept mo_kept mo_seeds := by
  obtain ⟨h1, h2, h3, h4, h5, h6, h7, h8, h9⟩ := h
  have hP := h2.2.2.2.1.2.2
  have same : Rel nP nB nH nG kr_drawn tx_signs tx_length tx_place tl_stands tl_death tl_payers tl_bids tl_hostages tl_bags tl_bagMarks tl_shy tl_bidOf tl_daysOf nw_price nw_months nw_chest nw_given nw_fate nw_goods nw_rates pa_next pa_count ps i0_held i0_drawn i0s_price i0s_months i0s_chest i0s_given i0s_fate i0s_goods i0s_rates i1_held i1_drawn i1s_price i1s_months i1s_chest i1s_given i1s_fate i1s_goods i1s_rates sc_sets sc_weights sc_count bk_whose bk_goods bk_count mo_told mo_st mo_isThere mo_seed mo_text mo_typed mo_faultAt mo_ahead mo_undoMany mo_weighings mo_weighed mo_book mo_entries mo_isKept mo_kept mo_seeds := ⟨h1, h2, h3, h4, h5, h6, h7, h8, h9⟩
  unfold pX8_goBack pX9_goBack
  rw [kb1_t (isImage8 x1), kb1_t (in_k x1 0 1 (by decide) (by decide))]
  by_cases hx : 0 ≤ x1 ∧ x1 ≤ 1
  · rw [bI_t hx, if_neg (show ¬ (1 : Int32) = 0 by decide), if_neg (show ¬ (1 : Int32) = 0 by decide)]
    rcases x01 hx with e | e
    · obtain ⟨go2, ra2, b1, b2⟩ := become_eq hN nw_goods nw_rates i0s_price i0s_months i0s_chest i0s_given i0s_fate i0s_goods i0s_rates
      obtain ⟨s2, k1, k2⟩ := goBack_loop (x1 := x1) (kept := mo_kept) (sds := mo_seeds) (w := 0) (by decide) e 17 0 (by omega) N (by omega) mo_st
      have k1 : pX9_goBack_L27 x1 mo_kept mo_seeds N 0 mo_st = some (1, s2, mo_seeds 0, 0) := k1
      rw [if_pos (show x1 = 0 from e), kb7_t' b1, k1, e, if_neg (gI (n := 2) (by decide) (by decide)), nI_clamp (by decide), h5.1]
      by_cases h0 : i0_held = 0
      · rw [if_pos h0, if_pos h0]
        exact ⟨_, _, _, _, _, _, _, _, _, _, _, _, _, rfl, rfl, same⟩
      · rw [if_neg h0, if_neg h0]
        obtain ⟨z1, z2⟩ := h5.2.2 (h5.2.1.resolve_left h0)
        refine ⟨_, _, _, _, _, _, _, _, _, _, _, _, _, rfl, rfl, h1, h2, ?_, rPa_none h4, h5, h6, h7, h8, z1⟩
        refine rS_congr (rS_rows z2 hP b2) hP (fun k hk => ?_)
        rw [k2, if_pos (by omega)]
    · obtain ⟨go2, ra2, b1, b2⟩ := become_eq hN nw_goods nw_rates i1s_price i1s_months i1s_chest i1s_given i1s_fate i1s_goods i1s_rates
      obtain ⟨s2, k1, k2⟩ := goBack_loop (x1 := x1) (kept := mo_kept) (sds := mo_seeds) (w := 1) (by decide) e 17 0 (by omega) N (by omega) mo_st
      have k1 : pX9_goBack_L27 x1 mo_kept mo_seeds N 0 mo_st = some (1, s2, mo_seeds 1, 0) := k1
      rw [if_neg (show ¬ x1 = 0 by rw [e]; decide), if_pos (show x1 = 1 from e), kb7_t' b1, k1, e, if_neg (gI (n := 2) (by decide) (by decide)), nI_clamp (by decide), h6.1]
      by_cases h0 : i1_held = 0
      · rw [if_pos h0, if_pos h0]
        exact ⟨_, _, _, _, _, _, _, _, _, _, _, _, _, rfl, rfl, same⟩
      · rw [if_neg h0, if_neg h0]
        obtain ⟨z1, z2⟩ := h6.2.2 (h6.2.1.resolve_left h0)
        refine ⟨_, _, _, _, _, _, _, _, _, _, _, _, _, rfl, rfl, h1, h2, ?_, rPa_none h4, h5, h6, h7, h8, z1⟩
        refine rS_congr (rS_rows z2 hP b2) hP (fun k hk => ?_)
        rw [k2, if_pos (by omega)]
  · rw [bI_f hx, if_pos rfl, if_pos rfl]
    exact ⟨_, _, _, _, _, _, _, _, _, _, _, _, _, rfl, rfl, same⟩
