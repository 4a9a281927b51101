/-! ===== months ===== -/
theorem tell_nI {q s r : Nat} (hq : q ≤ 999) (hs : s ≤ 9) (hr : r ≤ 100) : fTell (nI q) (nI s) (nI r) = nI (q * (100 - s * r / 10) / 100) := by
  have h1 : s * r ≤ 9 * 100 := Nat.mul_le_mul hs hr
  have e1 : nI s * nI r / 10 = nI (s * r / 10) := by rw [pk_mul]; exact pk_div (d := 10) (by omega) (by decide) (by decide)
  have e2 : (100 : Int32) - nI (s * r / 10) = nI (100 - s * r / 10) := pk_sub (a := 100) (by omega)
  have pos : (0 : Int32) < nI (100 - s * r / 10) := nI_lt (a := 0) (by omega) (by omega)
  have h2 : q * (100 - s * r / 10) ≤ 999 * 100 := Nat.mul_le_mul hq (by omega)
  unfold fTell
  rw [e1, e2, if_pos pos, pk_mul]
  exact pk_div (d := 100) (by omega) (by decide) (by decide)
theorem tell_le {q s r : Nat} : q * (100 - s * r / 10) / 100 ≤ q := by
  have h : q * (100 - s * r / 10) ≤ q * 100 := Nat.mul_le_mul_left q (by omega)
  omega
theorem pay_nI {q s r : Nat} (hq : q ≤ 999) (hs : s ≤ 9) (hr : r ≤ 100) : fPay (nI q) (nI s) (nI r) = nI (q * (100 - s * r / 10) / 100 * r / 100) := by
  have h1 := tell_le (q := q) (s := s) (r := r)
  have h2 : q * (100 - s * r / 10) / 100 * r ≤ 999 * 100 := Nat.mul_le_mul (by omega) hr
  unfold fPay
  rw [tell_nI hq hs hr, pk_mul]
  exact pk_div (d := 100) (by omega) (by decide) (by decide)
theorem pay_le {q s r : Nat} (hr : r ≤ 100) : q * (100 - s * r / 10) / 100 * r / 100 ≤ q := by
  have h1 := tell_le (q := q) (s := s) (r := r)
  have h : q * (100 - s * r / 10) / 100 * r ≤ q * (100 - s * r / 10) / 100 * 100 := Nat.mul_le_mul_left _ hr
  omega
theorem mon_loop {nP nH : Nat} (hP : nP ≤ 6) {p m g f : Int32} {ra shy told : Nat → Int32} (h2 : told 2 = nI nP) (hsh : ∀ j, j < nP → shy j = told (13 + j) ∧ ∃ q : Nat, q ≤ 9 ∧ told (13 + j) = nI q) : ∀ (k i : Nat), i + k = nP → ∀ (n n2 : Nat), k < n → k < n2 → ∀ (c : Int32) (go st : Nat → Int32), rS nP nH (p, m, c, g, f, go, ra) st → ∃ (c2 : Int32) (go2 st2 : Nat → Int32), pX5_passMonth_L2 m ra (nI nP) shy n (nI i) c go = some (m + 1, c2, go2) ∧ pX9_oneMonth_L2 told n2 (nI i) st = some st2 ∧ rS nP nH (p, m + 1, c2, g, f, go2, ra) st2 := by
  intro k
  induction k with
  | zero =>
    intro i hi n n2 hn hn2 c go st h
    obtain ⟨n, rfl⟩ := fuel hn
    obtain ⟨n2, rfl⟩ := fuel hn2
    have hle : nI nP ≤ nI i := nI_le (by omega) (by omega)
    refine ⟨c, go, upd st 13 (st 13 + 1), ?_, ?_, ?_⟩
    · rw [pX5_passMonth_L2, if_pos hle]
    · rw [pX9_oneMonth_L2, h2, if_pos hle]
    · obtain ⟨a1, a2, a3, a4, a5, a6, q, hq, a7⟩ := h
      refine ⟨fun j hj => ?_, by rw [pk_un (by decide)]; exact a2, by rw [pk_us]; exact congrArg (· + 1) a3, by rw [pk_un (by decide)]; exact a4, by rw [pk_un (by decide)]; exact a5, by rw [pk_un (by decide)]; exact a6, q, hq, by rw [pk_un (by decide)]; exact a7⟩
      rw [pk_un (by omega), pk_un (by omega)]
      exact a1 j hj
  | succ k ih =>
    intro i hi n n2 hn hn2 c go st h
    obtain ⟨n, rfl⟩ := fuel hn
    obtain ⟨n2, rfl⟩ := fuel hn2
    have hle : ¬ nI nP ≤ nI i := nI_ge (by omega) (by omega)
    obtain ⟨s1, s, hs9, s2⟩ := hsh i (by omega)
    have hh := h
    obtain ⟨a1, a2, a3, a4, a5, a6, gg, hgg, a7⟩ := h
    obtain ⟨g1, g2, q, r, hq, hr, g3, g4⟩ := a1 i (by omega)
    dsimp only at g1 g2 a2 a3 a4 a5 a6
    have e6 : (6 : Int32) + nI i = nI (6 + i) := nI_k 6 i
    have hp := pay_nI hq hs9 hr
    have hw := pay_le (q := q) (s := s) hr
    generalize q * (100 - s * r / 10) / 100 * r / 100 = w at hp hw
    simp only [pX5_passMonth_L2, pX9_oneMonth_L2, kl]
    rw [h2, if_neg hle, if_neg hle, e6, zadd, if_neg (gI (n := 6) (by omega) (by decide)), if_neg (gI (n := 17) (by omega) (by decide)), kb1_t (pays8 _ _ _), kb1_t (pays9 (by omega) _ _ _), if_neg (gI (n := 17) (by omega) (by decide)), nI_clamp (by omega), nI_clamp (by omega), g1, g2, s1, g3, g4, s2, hp, nI_1, pk_un (show (12 : Nat) ≠ i by omega), pk_sub hw]
    refine ih (i + 1) (by omega) n n2 (by omega) (by omega) _ _ _ ⟨fun j hj => ?_, ?_, ?_, ?_, ?_, ?_, gg, hgg, ?_⟩
    · dsimp only
      rw [pk_un (show 6 + j ≠ 12 by omega), pk_un (show 6 + j ≠ i by omega), pk_un (show j ≠ 12 by omega)]
      by_cases hj2 : j = i
      · subst hj2
        rw [pk_us, pk_us]
        exact ⟨rfl, g2, q - w, r, by omega, hr, rfl, g4⟩
      · rw [pk_un hj2, pk_un hj2]
        exact a1 j hj
    · dsimp only; rw [pk_us, a2]
    · dsimp only; rw [pk_un (by decide), pk_un (by omega)]; exact a3
    · dsimp only; rw [pk_un (by decide), pk_un (by omega)]; exact a4
    · dsimp only; rw [pk_un (by decide), pk_un (by omega)]; exact a5
    · dsimp only; rw [pk_un (by decide), pk_un (by omega)]; exact a6
    · rw [pk_un (by decide), pk_un (by omega)]; exact a7
theorem month1 {N nP nH : Nat} (hN : 20000 ≤ N) (hP : nP ≤ 6) {p m g f c : Int32} {ra shy told go st : Nat → Int32} (h2 : told 2 = nI nP) (hsh : ∀ j, j < nP → shy j = told (13 + j) ∧ ∃ q : Nat, q ≤ 9 ∧ told (13 + j) = nI q) (h : rS nP nH (p, m, c, g, f, go, ra) st) : ∃ (m2 c2 : Int32) (go2 st2 : Nat → Int32), pX5_passMonth N m c go ra (nI nP) shy = some (m2, c2, go2) ∧ pX9_oneMonth N told st = some st2 ∧ rS nP nH (p, m2, c2, g, f, go2, ra) st2 := by
  obtain ⟨c2, go2, st2, h1, h3, h4⟩ := mon_loop hP h2 hsh nP 0 (by omega) N N (by omega) (by omega) c go st h
  exact ⟨m + 1, c2, go2, st2, h1, h3, h4⟩
theorem kept_eq {stands fate isThere : Int32} {st : Nat → Int32} (h1 : isThere = stands) (h16 : fate = st 16) : pX9_isHeld st isThere = pX8_isKept stands fate := by
  unfold pX9_isHeld pX8_isKept
  rw [h1, h16]
theorem kept_01 (stands fate : Int32) : pX8_isKept stands fate = some 0 ∨ pX8_isKept stands fate = some 1 := by
  unfold pX8_isKept
  by_cases h : stands = 0
  · rw [if_pos h]; exact Or.inl rfl
  · rw [if_neg h]
    by_cases h2 : fate = 0
    · rw [if_pos h2]; exact Or.inr rfl
    · rw [if_neg h2]; exact Or.inl rfl
theorem refusal_eq (x1 : Int32) {stands months fate isThere : Int32} {st : Nat → Int32} (h1 : isThere = stands) (h13 : months = st 13) (h16 : fate = st 16) : ∃ x, pX8_refusalOfMonths x1 stands months fate = some x ∧ pX9_lacksTime x1 st isThere = some x ∧ ((x = 0 ∧ ∃ nn : Nat, nn ≤ 24 ∧ x1 = nI nn) ∨ (¬ x = 0 ∧ ¬ 0 ≤ x)) := by
  unfold pX8_refusalOfMonths pX9_lacksTime
  rw [kb1_t (in_k x1 1 24 (by decide) (by decide)), kept_eq h1 h16, ← h13]
  by_cases h0 : x1 < 1
  · rw [if_pos h0, bI_f (fun z => i_nlt.mpr z.1 h0), if_pos rfl]
    exact ⟨_, rfl, rfl, Or.inr ⟨by decide, by decide⟩⟩
  rw [if_neg h0]
  by_cases h9 : x1 ≤ 24
  · rw [if_pos h9, bI_t ⟨i_nlt.mp h0, h9⟩, if_neg (show ¬ (1 : Int32) = 0 by decide)]
    have hx : ∃ nn : Nat, nn ≤ 24 ∧ x1 = nI nn := by
      refine i_of_le (n := 24) (by decide) ?_ h9
      have := i_nlt.mp h0
      rw [fa_le] at this ⊢
      have e1 : (1 : Int32).toInt = 1 := by decide
      have e0 : (0 : Int32).toInt = 0 := by decide
      rw [e1] at this; rw [e0]; omega
    rcases kept_01 stands fate with hk | hk
    · rw [kb1_t hk, if_pos rfl]
      exact ⟨_, rfl, rfl, Or.inr ⟨by decide, by decide⟩⟩
    · rw [kb1_t hk, if_neg (show ¬ (1 : Int32) = 0 by decide)]
      by_cases hm : months ≤ 9000
      · rw [if_pos hm]; exact ⟨_, rfl, rfl, Or.inl ⟨rfl, hx⟩⟩
      · rw [if_neg hm]; exact ⟨_, rfl, rfl, Or.inr ⟨by decide, by decide⟩⟩
  · rw [if_neg h9, bI_f (fun z => h9 z.2), if_pos rfl]
    exact ⟨_, rfl, rfl, Or.inr ⟨by decide, by decide⟩⟩
theorem months_loop {N nP nH : Nat} (hN : 20000 ≤ N) (hP : nP ≤ 6) {p g f : Int32} {ra shy told : Nat → Int32} (h2 : told 2 = nI nP) (hsh : ∀ j, j < nP → shy j = told (13 + j) ∧ ∃ q : Nat, q ≤ 9 ∧ told (13 + j) = nI q) {nn : Nat} (hnn : nn ≤ 24) (zn zc : Int32) (zp : Nat → krS) (ya : Nat → Int32) (ym : Int32) : ∀ (k i : Nat), i + k = nn → ∀ (n n2 : Nat), k < n → k < n2 → ∀ (m c : Int32) (go st : Nat → Int32), rS nP nH (p, m, c, g, f, go, ra) st → ∃ (r m2 c2 : Int32) (go2 st2 : Nat → Int32), pX8_month_L25 N (nI nn) (nI nP) shy ra n (nI i) m c go zn zc zp = some (r, m2, c2, go2, zn, zc, zp) ∧ pX9_month_L18 N (nI nn) told n2 (nI i) st ya ym = some (r, st2, ya, ym) ∧ rS nP nH (p, m2, c2, g, f, go2, ra) st2 := by
  intro k
  induction k with
  | zero =>
    intro i hi n n2 hn hn2 m c go st h
    obtain ⟨n, rfl⟩ := fuel hn
    obtain ⟨n2, rfl⟩ := fuel hn2
    have hle : nI nn ≤ nI i := nI_le (by omega) (by omega)
    refine ⟨c, m, c, go, st, ?_, ?_, h⟩
    · rw [pX8_month_L25, if_pos hle]
    · have hc : c = st 12 := h.2.1
      rw [pX9_month_L18, if_pos hle, ← hc]
  | succ k ih =>
    intro i hi n n2 hn hn2 m c go st h
    obtain ⟨n, rfl⟩ := fuel hn
    obtain ⟨n2, rfl⟩ := fuel hn2
    have hle : ¬ nI nn ≤ nI i := nI_ge (by omega) (by omega)
    obtain ⟨m2, c2, go2, st2, e1, e2, h3⟩ := month1 hN hP h2 hsh h
    rw [pX8_month_L25, pX9_month_L18, if_neg hle, if_neg hle, kb3_t e1, kb1_t e2, nI_1]
    exact ih (i + 1) (by omega) n n2 (by omega) (by omega) m2 c2 go2 st2 h3
theorem op_month {N nP nB nH nG : Nat} {kr_drawn : Int32} {tx_signs : Nat → Int32} {tx_length : Int32} {tx_place : Int32} {tl_stands : Int32} {tl_death : Int32} {tl_payers : Int32} {tl_bids : Int32} {tl_hostages : Int32} {tl_bags : Int32} {tl_bagMarks : Int32} {tl_shy : Nat → Int32} {tl_bidOf : Nat → Int32} {tl_daysOf : Nat → Int32} {nw_price : Int32} {nw_months : Int32} {nw_chest : Int32} {nw_given : Int32} {nw_fate : Int32} {nw_goods : Nat → Int32} {nw_rates : Nat → Int32} {pa_next : Int32} {pa_count : Int32} {ps : Nat → krS} {i0_held : Int32} {i0_drawn : Int32} {i0s_price : Int32} {i0s_months : Int32} {i0s_chest : Int32} {i0s_given : Int32} {i0s_fate : Int32} {i0s_goods : Nat → Int32} {i0s_rates : Nat → Int32} {i1_held : Int32} {i1_drawn : Int32} {i1s_price : Int32} {i1s_months : Int32} {i1s_chest : Int32} {i1s_given : Int32} {i1s_fate : Int32} {i1s_goods : Nat → Int32} {i1s_rates : Nat → Int32} {sc_sets : Nat → Int32} {sc_weights : Nat → Int32} {sc_count : Int32} {bk_whose : Nat → Int32} {bk_goods : Nat → Int32} {bk_count : Int32} {mo_told : Nat → Int32} {mo_st : Nat → Int32} {mo_isThere : Int32} {mo_seed : Int32} {mo_text : Nat → Int32} {mo_typed : Int32} {mo_faultAt : Int32} {mo_ahead : Nat → Int32} {mo_undoMany : Int32} {mo_weighings : Nat → Int32} {mo_weighed : Int32} {mo_book : Nat → Int32} {mo_entries : Int32} {mo_isKept : Nat → Int32} {mo_kept : Nat → Int32} {mo_seeds : Nat → Int32} (hN : 20000 ≤ N) (h : Rel nP nB nH nG kr_drawn tx_signs tx_length tx_place tl_stands tl_death tl_payers tl_bids tl_hostages tl_bags tl_bagMarks tl_shy tl_bidOf tl_daysOf nw_price nw_months nw_chest nw_given nw_fate nw_goods nw_rates pa_next pa_count ps i0_held i0_drawn i0s_price i0s_months i0s_chest i0s_given i0s_fate i0s_goods i0s_rates i1_held i1_drawn i1s_price i1s_months i1s_chest i1s_given i1s_fate i1s_goods i1s_rates sc_sets sc_weights sc_count bk_whose bk_goods bk_count mo_told mo_st mo_isThere mo_seed mo_text mo_typed mo_faultAt mo_ahead mo_undoMany mo_weighings mo_weighed mo_book mo_entries mo_isKept mo_kept mo_seeds) (x1 : Int32) : ∃ (r : Int32) (z_nw_months : Int32) (z_nw_chest : Int32) (z_nw_goods : Nat → Int32) (z_pa_next : Int32) (z_pa_count : Int32) (z_ps : Nat → krS) (y_mo_st : Nat → Int32) (y_mo_ahead : Nat → Int32) (y_mo_undoMany : Int32), pX8_month N x1 tl_stands tl_payers tl_shy nw_price nw_months nw_chest nw_given nw_fate nw_goods nw_rates pa_next pa_count ps = some (r, z_nw_months, z_nw_chest, z_nw_goods, z_pa_next, z_pa_count, z_ps) ∧ pX9_month N x1 mo_told mo_st mo_isThere mo_ahead mo_undoMany = some (r, y_mo_st, y_mo_ahead, y_mo_undoMany) ∧ Rel nP nB nH nG kr_drawn tx_signs tx_length tx_place tl_stands tl_death tl_payers tl_bids tl_hostages tl_bags tl_bagMarks tl_shy tl_bidOf tl_daysOf nw_price z_nw_months z_nw_chest nw_given nw_fate z_nw_goods nw_rates z_pa_next z_pa_count z_ps i0_held i0_drawn i0s_price i0s_months i0s_chest i0s_given i0s_fate i0s_goods i0s_rates i1_held i1_drawn i1s_price i1s_months i1s_chest i1s_given i1s_fate i1s_goods i1s_rates sc_sets sc_weights sc_count bk_whose bk_goods bk_count mo_told y_mo_st mo_isThere mo_seed mo_text mo_typed mo_faultAt y_mo_ahead y_mo_undoMany mo_weighings mo_weighed mo_book mo_entries mo_isKept mo_kept mo_seeds := by
  obtain ⟨h1, h2, h3, h4, h5, h6, h7, h8, h9⟩ := h
  have h2' := h2
  obtain ⟨t1, -, -, ⟨a2, b2, hP⟩, -, -, -, -, hsh, -, -⟩ := h2'
  subst a2
  obtain ⟨x, r1, r2, hx⟩ := refusal_eq x1 (st := mo_st) (months := nw_months) (fate := nw_fate) t1 h3.2.2.1 h3.2.2.2.2.2.1
  unfold pX8_month pX9_month
  rw [kb1_t r1, kb1_t r2]
  rcases hx with ⟨rfl, nn, hnn, rfl⟩ | ⟨n1, n2⟩
  · rw [if_pos rfl, if_pos (by decide)]
    obtain ⟨zn, zc, zp, ya, ym, p1, p2, p3⟩ := push_note hN hP h4 h3
    rw [kb3_t p1, kb2_t p2]
    obtain ⟨r, m2, c2, go2, st2, e1, e2, e3⟩ := months_loop hN hP b2 hsh hnn zn zc zp ya ym nn 0 (by omega) N N (by omega) (by omega) nw_months nw_chest nw_goods mo_st h3
    exact ⟨r, m2, c2, go2, zn, zc, zp, st2, ya, ym, e1, e2, h1, h2, e3, p3, h5, h6, h7, h8, h9⟩
  · rw [if_neg n1, if_neg n2]
    exact ⟨x, _, _, _, _, _, _, _, _, _, rfl, rfl, h1, h2, h3, h4, h5, h6, h7, h8, h9⟩
theorem draw_eq (s : Int32) : ∃ r s2, pX8_drawOfHundred s = some (r, s2) ∧ pX9_draw 100 s = some (r, s2) := by
  unfold pX8_drawOfHundred pX9_draw
  simp only [kl]
  rw [if_neg (show ¬ (100 : Int32) = 0 by decide)]
  exact ⟨_, _, rfl, rfl⟩
theorem drift_loop {N nP nH : Nat} (hN : 20000 ≤ N) (hP : nP ≤ 6) {p g de : Int32} {ra shy told : Nat → Int32} (h1 : told 1 = de) (h2 : told 2 = nI nP) (hsh : ∀ j, j < nP → shy j = told (13 + j) ∧ ∃ q : Nat, q ≤ 9 ∧ told (13 + j) = nI q) {nn : Nat} (hnn : nn ≤ 24) (zn zc : Int32) (zp : Nat → krS) (ya : Nat → Int32) (ym : Int32) : ∀ (k i : Nat), i + k = nn → ∀ (n n2 : Nat), k < n → k < n2 → ∀ (sd m c f : Int32) (go st : Nat → Int32), rS nP nH (p, m, c, g, f, go, ra) st → ∃ (r sd2 m2 c2 f2 : Int32) (go2 st2 : Nat → Int32), pX8_drift_L25 N (nI nn) de (nI nP) shy ra n (nI i) sd m c f go zn zc zp = some (r, sd2, m2, c2, f2, go2, zn, zc, zp) ∧ pX9_drift_L18 N (nI nn) told n2 (nI i) st sd ya ym = some (r, st2, sd2, ya, ym) ∧ rS nP nH (p, m2, c2, g, f2, go2, ra) st2 := by
  intro k
  induction k with
  | zero =>
    intro i hi n n2 hn hn2 sd m c f go st h
    obtain ⟨n, rfl⟩ := fuel hn
    obtain ⟨n2, rfl⟩ := fuel hn2
    have hle : nI nn ≤ nI i := nI_le (by omega) (by omega)
    refine ⟨f, sd, m, c, f, go, st, ?_, ?_, h⟩
    · rw [pX8_drift_L25, if_pos hle]
    · have hf : f = st 16 := h.2.2.2.2.2.1
      rw [pX9_drift_L18, if_pos hle]
      unfold pX9_drift_L69
      rw [← hf]
  | succ k ih =>
    intro i hi n n2 hn hn2 sd m c f go st h
    obtain ⟨n, rfl⟩ := fuel hn
    obtain ⟨n2, rfl⟩ := fuel hn2
    have hle : ¬ nI nn ≤ nI i := nI_ge (by omega) (by omega)
    have hf : f = st 16 := h.2.2.2.2.2.1
    rw [pX8_drift_L25, pX9_drift_L18, if_neg hle, if_neg hle, ← hf]
    by_cases h0 : f = 0
    · rw [if_pos h0, if_pos h0]
      obtain ⟨r, s2, d1, d2⟩ := draw_eq sd
      rw [kb2_t d1, kb2_t d2, h1]
      by_cases hd : de ≤ r
      · rw [if_pos hd, if_pos hd]
        obtain ⟨m2, c2, go2, st2, e1, e2, h3⟩ := month1 hN hP h2 hsh h
        rw [kb3_t e1, kb1_t e2]
        unfold pX8_drift_L76 pX9_drift_L63
        rw [nI_1]
        exact ih (i + 1) (by omega) n n2 (by omega) (by omega) s2 m2 c2 f go2 st2 h3
      · rw [if_neg hd, if_neg hd]
        unfold pX8_drift_L76 pX9_drift_L63
        rw [nI_1]
        refine ih (i + 1) (by omega) n n2 (by omega) (by omega) s2 m c 2 go (upd st 16 2) ?_
        obtain ⟨a1, a2, a3, a4, a5, a6, q, hq, a7⟩ := h
        refine ⟨fun j hj => ?_, by rw [pk_un (by decide)]; exact a2, by rw [pk_un (by decide)]; exact a3, by rw [pk_un (by decide)]; exact a4, by rw [pk_un (by decide)]; exact a5, by rw [pk_us], q, hq, by rw [pk_un (by decide)]; exact a7⟩
        rw [pk_un (by omega), pk_un (by omega)]
        exact a1 j hj
    · rw [if_neg h0, if_neg h0]
      refine ⟨f, sd, m, c, f, go, st, rfl, ?_, h⟩
      unfold pX9_drift_L69
      rw [← hf]
theorem op_drift {N nP nB nH nG : Nat} {kr_drawn : Int32} {tx_signs : Nat → Int32} {tx_length : Int32} {tx_place : Int32} {tl_stands : Int32} {tl_death : Int32} {tl_payers : Int32} {tl_bids : Int32} {tl_hostages : Int32} {tl_bags : Int32} {tl_bagMarks : Int32} {tl_shy : Nat → Int32} {tl_bidOf : Nat → Int32} {tl_daysOf : Nat → Int32} {nw_price : Int32} {nw_months : Int32} {nw_chest : Int32} {nw_given : Int32} {nw_fate : Int32} {nw_goods : Nat → Int32} {nw_rates : Nat → Int32} {pa_next : Int32} {pa_count : Int32} {ps : Nat → krS} {i0_held : Int32} {i0_drawn : Int32} {i0s_price : Int32} {i0s_months : Int32} {i0s_chest : Int32} {i0s_given : Int32} {i0s_fate : Int32} {i0s_goods : Nat → Int32} {i0s_rates : Nat → Int32} {i1_held : Int32} {i1_drawn : Int32} {i1s_price : Int32} {i1s_months : Int32} {i1s_chest : Int32} {i1s_given : Int32} {i1s_fate : Int32} {i1s_goods : Nat → Int32} {i1s_rates : Nat → Int32} {sc_sets : Nat → Int32} {sc_weights : Nat → Int32} {sc_count : Int32} {bk_whose : Nat → Int32} {bk_goods : Nat → Int32} {bk_count : Int32} {mo_told : Nat → Int32} {mo_st : Nat → Int32} {mo_isThere : Int32} {mo_seed : Int32} {mo_text : Nat → Int32} {mo_typed : Int32} {mo_faultAt : Int32} {mo_ahead : Nat → Int32} {mo_undoMany : Int32} {mo_weighings : Nat → Int32} {mo_weighed : Int32} {mo_book : Nat → Int32} {mo_entries : Int32} {mo_isKept : Nat → Int32} {mo_kept : Nat → Int32} {mo_seeds : Nat → Int32} (hN : 20000 ≤ N) (h : Rel nP nB nH nG kr_drawn tx_signs tx_length tx_place tl_stands tl_death tl_payers tl_bids tl_hostages tl_bags tl_bagMarks tl_shy tl_bidOf tl_daysOf nw_price nw_months nw_chest nw_given nw_fate nw_goods nw_rates pa_next pa_count ps i0_held i0_drawn i0s_price i0s_months i0s_chest i0s_given i0s_fate i0s_goods i0s_rates i1_held i1_drawn i1s_price i1s_months i1s_chest i1s_given i1s_fate i1s_goods i1s_rates sc_sets sc_weights sc_count bk_whose bk_goods bk_count mo_told mo_st mo_isThere mo_seed mo_text mo_typed mo_faultAt mo_ahead mo_undoMany mo_weighings mo_weighed mo_book mo_entries mo_isKept mo_kept mo_seeds) (x1 : Int32) : ∃ (r : Int32) (z_kr_drawn : Int32) (z_nw_months : Int32) (z_nw_chest : Int32) (z_nw_fate : Int32) (z_nw_goods : Nat → Int32) (z_pa_next : Int32) (z_pa_count : Int32) (z_ps : Nat → krS) (y_mo_st : Nat → Int32) (y_mo_seed : Int32) (y_mo_ahead : Nat → Int32) (y_mo_undoMany : Int32), pX8_drift N x1 kr_drawn tl_stands tl_death tl_payers tl_shy nw_price nw_months nw_chest nw_given nw_fate nw_goods nw_rates pa_next pa_count ps = some (r, z_kr_drawn, z_nw_months, z_nw_chest, z_nw_fate, z_nw_goods, z_pa_next, z_pa_count, z_ps) ∧ pX9_drift N x1 mo_told mo_st mo_isThere mo_seed mo_ahead mo_undoMany = some (r, y_mo_st, y_mo_seed, y_mo_ahead, y_mo_undoMany) ∧ Rel nP nB nH nG z_kr_drawn tx_signs tx_length tx_place tl_stands tl_death tl_payers tl_bids tl_hostages tl_bags tl_bagMarks tl_shy tl_bidOf tl_daysOf nw_price z_nw_months z_nw_chest nw_given z_nw_fate z_nw_goods nw_rates z_pa_next z_pa_count z_ps i0_held i0_drawn i0s_price i0s_months i0s_chest i0s_given i0s_fate i0s_goods i0s_rates i1_held i1_drawn i1s_price i1s_months i1s_chest i1s_given i1s_fate i1s_goods i1s_rates sc_sets sc_weights sc_count bk_whose bk_goods bk_count mo_told y_mo_st mo_isThere y_mo_seed mo_text mo_typed mo_faultAt y_mo_ahead y_mo_undoMany mo_weighings mo_weighed mo_book mo_entries mo_isKept mo_kept mo_seeds := by
  obtain ⟨h1, h2, h3, h4, h5, h6, h7, h8, h9⟩ := h
  have h2' := h2
  obtain ⟨t1, -, td, ⟨a2, b2, hP⟩, -, -, -, -, hsh, -, -⟩ := h2'
  subst a2 h9
  obtain ⟨x, r1, r2, hx⟩ := refusal_eq x1 (st := mo_st) (months := nw_months) (fate := nw_fate) t1 h3.2.2.1 h3.2.2.2.2.2.1
  unfold pX8_drift pX9_drift
  rw [kb1_t r1, kb1_t r2]
  rcases hx with ⟨rfl, nn, hnn, rfl⟩ | ⟨n1, n2⟩
  · rw [if_pos rfl, if_pos (by decide)]
    obtain ⟨zn, zc, zp, ya, ym, p1, p2, p3⟩ := push_note hN hP h4 h3
    rw [kb3_t p1, kb2_t p2]
    obtain ⟨r, sd2, m2, c2, f2, go2, st2, e1, e2, e3⟩ := drift_loop hN hP td b2 hsh hnn zn zc zp ya ym nn 0 (by omega) N N (by omega) (by omega) kr_drawn nw_months nw_chest nw_fate nw_goods mo_st h3
    exact ⟨r, sd2, m2, c2, f2, go2, zn, zc, zp, st2, sd2, ya, ym, e1, e2, h1, h2, e3, p3, h5, h6, h7, h8, rfl⟩
  · rw [if_neg n1, if_neg n2]
    exact ⟨x, _, _, _, _, _, _, _, _, _, _, _, _, rfl, rfl, h1, h2, h3, h4, h5, h6, h7, h8, rfl⟩
