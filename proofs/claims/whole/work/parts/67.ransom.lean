/-! ===== ransom ===== -/
theorem begin_loop {tg : Nat → Int32} : ∀ (k i : Nat), i + k = 6 → ∀ (n : Nat), k < n → ∀ (p m c g f : Int32) (go ra : Nat → Int32), (∀ j, j < i → go j = tg j ∧ ra j = 0) → ∃ go2 ra2, pX5_begin_L30 tg n (nI i) p m c g f go ra = some (p, m, c, g, f, go2, ra2) ∧ ∀ j, j < 6 → go2 j = tg j ∧ ra2 j = 0 := by
  intro k
  induction k with
  | zero =>
    intro i hi n hn p m c g f go ra h
    obtain ⟨n, rfl⟩ := fuel hn
    have e : i = 6 := by omega
    subst e
    refine ⟨go, ra, ?_, h⟩
    rw [pX5_begin_L30, if_pos (by decide)]
  | succ k ih =>
    intro i hi n hn p m c g f go ra h
    obtain ⟨n, rfl⟩ := fuel hn
    have hle : ¬ (6 : Int32) ≤ nI i := nI_ge (b := 6) (by omega) (by decide)
    rw [pX5_begin_L30, if_neg hle, if_neg (gI (n := 6) (by omega) (by decide)), nI_clamp (by omega), nI_1]
    refine ih (i + 1) (by omega) n (by omega) p m c g f _ _ (fun j hj => ?_)
    by_cases hji : j = i
    · subst hji; rw [pk_us, pk_us]; exact ⟨rfl, rfl⟩
    · rw [pk_un hji, pk_un hji]; exact h j (by omega)
theorem begin_eq {N : Nat} (hN : 20000 ≤ N) (g0 r0 : Nat → Int32) (p : Int32) (go : Nat → Int32) : ∃ go2 ra2, pX5_begin N g0 r0 p go = some (p, 0, 0, 0, 0, go2, ra2) ∧ ∀ j, j < 6 → go2 j = go j ∧ ra2 j = 0 :=
  begin_loop 6 0 (by omega) N (by omega) p 0 0 0 0 g0 r0 (fun j hj => absurd hj (Nat.not_lt_zero j))
theorem L73_eq {N : Nat} {st0 isKept rd : Nat → Int32} (it ty fa pl wr va : Int32) : ∀ (k i : Nat), i + k = 37 → ∀ (n : Nat), k < n → ∀ (told : Nat → Int32), (∀ j, j < i → told j = rd j) → ∃ told2 : Nat → Int32, (∀ j, j < 37 → told2 j = rd j) ∧ pX9_ransom_L73 N st0 isKept n (nI i) told it ty fa pl wr va rd = pX9_ransom_L99 isKept N 0 told2 st0 it ty fa pl wr va rd := by
  intro k
  induction k with
  | zero =>
    intro i hi n hn told h
    obtain ⟨n, rfl⟩ := fuel hn
    have e : i = 37 := by omega
    subst e
    refine ⟨told, h, ?_⟩
    rw [pX9_ransom_L73, if_pos (show (37 : Int32) ≤ nI 37 by decide)]
  | succ k ih =>
    intro i hi n hn told h
    obtain ⟨n, rfl⟩ := fuel hn
    have hle : ¬ (37 : Int32) ≤ nI i := nI_ge (b := 37) (by omega) (by decide)
    rw [pX9_ransom_L73, if_neg hle, if_neg (gI (n := 37) (by omega) (by decide)), nI_clamp (by omega), nI_1]
    refine ih (i + 1) (by omega) n (by omega) _ (fun j hj => ?_)
    by_cases hji : j = i
    · subst hji; rw [pk_us]
    · rw [pk_un hji]; exact h j (by omega)
def stOf (told : Nat → Int32) (j : Nat) : Int32 := if j < 6 then told (7 + j) else 0
theorem L99_eq {isKept told rd : Nat → Int32} (it ty fa pl wr va : Int32) : ∀ (k i : Nat), i + k = 17 → ∀ (n : Nat), k < n → ∀ (st : Nat → Int32), (∀ j, j < i → st j = stOf told j) → ∃ st2 : Nat → Int32, (∀ j, j < 17 → ¬ j = 14 → st2 j = stOf told j) ∧ st2 14 = told 0 ∧ pX9_ransom_L99 isKept n (nI i) told st it ty fa pl wr va rd = some (told 2, told, st2, it, ty, fa, pl, wr, va, rd, 0, 0, 0, upd (upd isKept 0 0) 1 0) := by
  intro k
  induction k with
  | zero =>
    intro i hi n hn st h
    obtain ⟨n, rfl⟩ := fuel hn
    have e : i = 17 := by omega
    subst e
    refine ⟨upd st 14 (told 0), fun j hj hne => ?_, pk_us, ?_⟩
    · rw [pk_un hne]; exact h j hj
    · rw [pX9_ransom_L99, if_pos (show (17 : Int32) ≤ nI 17 by decide)]
  | succ k ih =>
    intro i hi n hn st h
    obtain ⟨n, rfl⟩ := fuel hn
    have hle : ¬ (17 : Int32) ≤ nI i := nI_ge (b := 17) (by omega) (by decide)
    have step : ∀ v : Int32, v = stOf told i → (∀ j, j < i + 1 → upd st i v j = stOf told j) := fun v hv j hj => by
      by_cases hji : j = i
      · subst hji; rw [pk_us]; exact hv
      · rw [pk_un hji]; exact h j (by omega)
    by_cases h6 : i < 6
    · have hle6 : ¬ (6 : Int32) ≤ nI i := nI_ge (b := 6) h6 (by decide)
      have e7 : (7 : Int32) + nI i = nI (7 + i) := nI_k 7 i
      rw [pX9_ransom_L99, if_neg hle, if_neg hle6, e7, if_neg (gI (n := 37) (by omega) (by decide)), nI_clamp (by omega)]
      unfold pX9_ransom_L129
      rw [if_neg (gI (n := 17) (by omega) (by decide)), nI_clamp (by omega), nI_1]
      exact ih (i + 1) (by omega) n (by omega) _ (step _ (by unfold stOf; rw [if_pos h6]))
    · have hle6 : (6 : Int32) ≤ nI i := nI_le (a := 6) (by omega) (by omega)
      rw [pX9_ransom_L99, if_neg hle, if_pos hle6]
      unfold pX9_ransom_L129
      rw [if_neg (gI (n := 17) (by omega) (by decide)), nI_clamp (by omega), nI_1]
      exact ih (i + 1) (by omega) n (by omega) _ (step _ (by unfold stOf; rw [if_neg h6]))
theorem op_ransom {N nP nB nH nG : Nat} {kr_drawn : Int32} {tx_signs : Nat → Int32} {tx_length : Int32} {tx_place : Int32} {tl_stands : Int32} {tl_death : Int32} {tl_payers : Int32} {tl_bids : Int32} {tl_hostages : Int32} {tl_bags : Int32} {tl_bagMarks : Int32} {tl_shy : Nat → Int32} {tl_bidOf : Nat → Int32} {tl_daysOf : Nat → Int32} {nw_price : Int32} {nw_months : Int32} {nw_chest : Int32} {nw_given : Int32} {nw_fate : Int32} {nw_goods : Nat → Int32} {nw_rates : Nat → Int32} {pa_next : Int32} {pa_count : Int32} {ps : Nat → krS} {i0_held : Int32} {i0_drawn : Int32} {i0s_price : Int32} {i0s_months : Int32} {i0s_chest : Int32} {i0s_given : Int32} {i0s_fate : Int32} {i0s_goods : Nat → Int32} {i0s_rates : Nat → Int32} {i1_held : Int32} {i1_drawn : Int32} {i1s_price : Int32} {i1s_months : Int32} {i1s_chest : Int32} {i1s_given : Int32} {i1s_fate : Int32} {i1s_goods : Nat → Int32} {i1s_rates : Nat → Int32} {sc_sets : Nat → Int32} {sc_weights : Nat → Int32} {sc_count : Int32} {bk_whose : Nat → Int32} {bk_goods : Nat → Int32} {bk_count : Int32} {mo_told : Nat → Int32} {mo_st : Nat → Int32} {mo_isThere : Int32} {mo_seed : Int32} {mo_text : Nat → Int32} {mo_typed : Int32} {mo_faultAt : Int32} {mo_ahead : Nat → Int32} {mo_undoMany : Int32} {mo_weighings : Nat → Int32} {mo_weighed : Int32} {mo_book : Nat → Int32} {mo_entries : Int32} {mo_isKept : Nat → Int32} {mo_kept : Nat → Int32} {mo_seeds : Nat → Int32} (hN : 20000 ≤ N) (h : Rel nP nB nH nG kr_drawn tx_signs tx_length tx_place tl_stands tl_death tl_payers tl_bids tl_hostages tl_bags tl_bagMarks tl_shy tl_bidOf tl_daysOf nw_price nw_months nw_chest nw_given nw_fate nw_goods nw_rates pa_next pa_count ps i0_held i0_drawn i0s_price i0s_months i0s_chest i0s_given i0s_fate i0s_goods i0s_rates i1_held i1_drawn i1s_price i1s_months i1s_chest i1s_given i1s_fate i1s_goods i1s_rates sc_sets sc_weights sc_count bk_whose bk_goods bk_count mo_told mo_st mo_isThere mo_seed mo_text mo_typed mo_faultAt mo_ahead mo_undoMany mo_weighings mo_weighed mo_book mo_entries mo_isKept mo_kept mo_seeds) (df_goods : Nat → Int32) (df_shy : Nat → Int32) (df_bidOf : Nat → Int32) (df_daysOf : Nat → Int32) (tlo : Nat) (dfo : Nat) (mo_wrong : Int32) (mo_value : Int32) (mo_read : Nat → Int32) : ∃ (r : Int32) (z_tx_length : Int32) (z_tx_at : Int32) (z_tx_fault : Int32) (z_tx_place : Int32) (z_df_stands : Int32) (z_df_price : Int32) (z_df_death : Int32) (z_df_payers : Int32) (z_df_bids : Int32) (z_df_hostages : Int32) (z_df_bags : Int32) (z_df_bagMarks : Int32) (z_df_goods : Nat → Int32) (z_df_shy : Nat → Int32) (z_df_bidOf : Nat → Int32) (z_df_daysOf : Nat → Int32) (z_nw_price : Int32) (z_nw_months : Int32) (z_nw_chest : Int32) (z_nw_given : Int32) (z_nw_fate : Int32) (z_nw_goods : Nat → Int32) (z_nw_rates : Nat → Int32) (z_pa_count : Int32) (z_i0_held : Int32) (z_i1_held : Int32) (z_sc_count : Int32) (z_bk_count : Int32) (z_kr_tale : Nat) (z_kr_draft : Nat) (y_mo_told : Nat → Int32) (y_mo_st : Nat → Int32) (y_mo_isThere : Int32) (y_mo_typed : Int32) (y_mo_faultAt : Int32) (y_mo_place : Int32) (y_mo_wrong : Int32) (y_mo_value : Int32) (y_mo_read : Nat → Int32) (y_mo_undoMany : Int32) (y_mo_weighed : Int32) (y_mo_entries : Int32) (y_mo_isKept : Nat → Int32), pX8_ransom N tx_signs tx_length df_goods df_shy df_bidOf df_daysOf nw_price nw_months nw_chest nw_given nw_fate nw_goods nw_rates pa_count i0_held i1_held sc_count bk_count tlo dfo = some (r, z_tx_length, z_tx_at, z_tx_fault, z_tx_place, z_df_stands, z_df_price, z_df_death, z_df_payers, z_df_bids, z_df_hostages, z_df_bags, z_df_bagMarks, z_df_goods, z_df_shy, z_df_bidOf, z_df_daysOf, z_nw_price, z_nw_months, z_nw_chest, z_nw_given, z_nw_fate, z_nw_goods, z_nw_rates, z_pa_count, z_i0_held, z_i1_held, z_sc_count, z_bk_count, z_kr_tale, z_kr_draft) ∧ pX9_ransom N mo_told mo_st mo_isThere mo_text mo_typed mo_wrong mo_value mo_read mo_undoMany mo_weighed mo_entries mo_isKept = some (r, y_mo_told, y_mo_st, y_mo_isThere, y_mo_typed, y_mo_faultAt, y_mo_place, y_mo_wrong, y_mo_value, y_mo_read, y_mo_undoMany, y_mo_weighed, y_mo_entries, y_mo_isKept) ∧ ((z_kr_tale = tlo ∧ z_kr_draft = dfo ∧ Rel nP nB nH nG kr_drawn tx_signs z_tx_length z_tx_place tl_stands tl_death tl_payers tl_bids tl_hostages tl_bags tl_bagMarks tl_shy tl_bidOf tl_daysOf z_nw_price z_nw_months z_nw_chest z_nw_given z_nw_fate z_nw_goods z_nw_rates pa_next z_pa_count ps z_i0_held i0_drawn i0s_price i0s_months i0s_chest i0s_given i0s_fate i0s_goods i0s_rates z_i1_held i1_drawn i1s_price i1s_months i1s_chest i1s_given i1s_fate i1s_goods i1s_rates sc_sets sc_weights z_sc_count bk_whose bk_goods z_bk_count y_mo_told y_mo_st y_mo_isThere mo_seed mo_text y_mo_typed y_mo_faultAt mo_ahead y_mo_undoMany mo_weighings y_mo_weighed mo_book y_mo_entries y_mo_isKept mo_kept mo_seeds) ∨ (z_kr_tale = dfo ∧ z_kr_draft = tlo ∧ ∃ qP qB qH qG : Nat, Rel qP qB qH qG kr_drawn tx_signs z_tx_length z_tx_place z_df_stands z_df_death z_df_payers z_df_bids z_df_hostages z_df_bags z_df_bagMarks z_df_shy z_df_bidOf z_df_daysOf z_nw_price z_nw_months z_nw_chest z_nw_given z_nw_fate z_nw_goods z_nw_rates pa_next z_pa_count ps z_i0_held i0_drawn i0s_price i0s_months i0s_chest i0s_given i0s_fate i0s_goods i0s_rates z_i1_held i1_drawn i1s_price i1s_months i1s_chest i1s_given i1s_fate i1s_goods i1s_rates sc_sets sc_weights z_sc_count bk_whose bk_goods z_bk_count y_mo_told y_mo_st y_mo_isThere mo_seed mo_text y_mo_typed y_mo_faultAt mo_ahead y_mo_undoMany mo_weighings y_mo_weighed mo_book y_mo_entries y_mo_isKept mo_kept mo_seeds)) := by
  obtain ⟨⟨hf, ht, n, hn, hl, hs⟩, hT, hS, hP, h0, h1, hC, hB, hD⟩ := h
  subst hl ht
  obtain ⟨a2, f2, p2, stands2, price2, death2, payers2, bids2, hostages2, bags2, marks2, goods2, shy2, bidOf2, daysOf2, e8, H⟩ := text_eq hN ⟨hn, hs⟩ df_goods df_shy df_bidOf df_daysOf mo_wrong mo_value mo_read
  rcases H with ⟨rfl, rfl, qP, qB, qH, qG, rd2, pl2, w2, u2, R, hst, e9⟩ | ⟨hf2, u2, rd2, e9⟩
  · obtain ⟨g2, r2, b1, b2⟩ := begin_eq hN nw_goods nw_rates price2 goods2
    obtain ⟨told2, tt, t2⟩ := L73_eq (N := N) (st0 := mo_st) (isKept := mo_isKept) (rd := rd2) stands2 0 (-1) pl2 w2 u2 37 0 (by omega) N (by omega) mo_told (fun j hj => absurd hj (Nat.not_lt_zero j))
    obtain ⟨st2, s1, s14, s2⟩ := L99_eq (isKept := mo_isKept) (told := told2) (rd := rd2) stands2 0 (-1) pl2 w2 u2 17 0 (by omega) N (by omega) mo_st (fun j hj => absurd hj (Nat.not_lt_zero j))
    obtain ⟨r0, r1, ⟨rp1, rp2, rp3⟩, ⟨rb1, rb2, rb3⟩, ⟨rh1, rh2, rh3⟩, ⟨rg1, rg2, rg3⟩, ⟨r6, r6q⟩, rP, rB, rH⟩ := R
    have C : pX8_ransom N tx_signs (nI n) df_goods df_shy df_bidOf df_daysOf nw_price nw_months nw_chest nw_given nw_fate nw_goods nw_rates pa_count i0_held i1_held sc_count bk_count tlo dfo = some (payers2, 0, a2, 0, -1, stands2, price2, death2, payers2, bids2, hostages2, bags2, marks2, goods2, shy2, bidOf2, daysOf2, price2, 0, 0, 0, 0, g2, r2, 0, 0, 0, 0, 0, dfo, tlo) := by
      unfold pX8_ransom pX2_forget pX3_clear pX0_clear
      rw [kb16_t' e8, if_pos rfl, kb7_t' b1, kb1_e, kb1_e, kb1_e]
    have D : pX9_ransom N mo_told mo_st mo_isThere mo_text (nI n) mo_wrong mo_value mo_read mo_undoMany mo_weighed mo_entries mo_isKept = some (payers2, told2, st2, stands2, 0, -1, pl2, w2, u2, rd2, 0, 0, 0, upd (upd mo_isKept 0 0) 1 0) := by
      rw [show payers2 = told2 2 by rw [tt 2 (by omega), rp2, rp1]]
      unfold pX9_ransom
      rw [kb5_t' e9, if_neg (show ¬ (1 : Int32) = 0 by decide)]
      rcases hst with ⟨rfl, hp⟩ | ⟨rfl, hp⟩
      · rw [if_pos hp]
        unfold pX9_ransom_L30 pX9_ransom_L35 pX9_ransom_L51
        rw [if_neg (show ¬ ¬ ((1 : Int32) = 0 ∨ (1 : Int32) = 1) by decide), if_neg (show ¬ (1 : Int32) = 0 by decide), if_neg (show ¬ (1 : Int32) = 0 by decide)]
        exact t2.trans s2
      · rw [if_neg hp]
        unfold pX9_ransom_L19 pX9_ransom_L34 pX9_ransom_L35 pX9_ransom_L51
        rw [if_neg (show ¬ (1 : Int32) = 0 by decide), if_neg (show ¬ ¬ ((0 : Int32) = 0 ∨ (0 : Int32) = 1) by decide), if_neg (show ¬ (1 : Int32) = 0 by decide), if_neg (show ¬ (1 : Int32) = 0 by decide)]
        exact t2.trans s2
    refine ⟨_, _, _, _, _, _, _, _, _, _, _, _, _, _, _, _, _, _, _, _, _, _, _, _, _, _, _, _, _, _, _, _, _, _, _, _, _, _, _, _, _, _, _, _, C, D, Or.inr ⟨rfl, rfl, qP, qB, qH, qG, ⟨rfl, rfl, 0, by omega, rfl, fun j hj => absurd hj (Nat.not_lt_zero j)⟩, ⟨rfl, ?_, ?_, ⟨rp1, ?_, rp3⟩, ⟨rb1, ?_, rb3⟩, ⟨rh1, ?_, rh3⟩, ⟨rg1, ?_, rg3⟩, ⟨?_, r6q⟩, fun j hj => ?_, fun j hj => ?_, fun j hj => ?_⟩, ⟨fun j hj => ?_, ?_, ?_, ?_, ?_, ?_, 0, Nat.two_pow_pos _, ?_⟩, ?_, ⟨?_, Or.inl rfl, fun e => absurd e (by decide)⟩, ⟨?_, Or.inl rfl, fun e => absurd e (by decide)⟩, ⟨0, by omega, rfl, rfl, fun j hj => absurd hj (Nat.not_lt_zero j)⟩, ⟨0, by omega, rfl, rfl, fun j hj => absurd hj (Nat.not_lt_zero j)⟩, hD⟩⟩
    · rcases hst with ⟨e, -⟩ | ⟨e, -⟩
      · exact Or.inr e
      · exact Or.inl e
    · rw [tt 1 (by omega)]; exact r1.symm
    · rw [tt 2 (by omega)]; exact rp2
    · rw [tt 3 (by omega)]; exact rb2
    · rw [tt 4 (by omega)]; exact rh2
    · rw [tt 5 (by omega)]; exact rg2
    · rw [tt 6 (by omega)]; exact r6
    · rw [tt (13 + j) (by omega)]; exact (rP j hj).2
    · rw [tt (19 + j) (by omega)]; exact rB j hj
    · rw [tt (28 + j) (by omega)]; exact rH j hj
    · obtain ⟨b3, b4⟩ := b2 j (by omega)
      obtain ⟨⟨c1, q, hq, c2⟩, -⟩ := rP j hj
      have z1 : st2 j = rd2 (7 + j) := by rw [s1 j (by omega) (by omega), stOf, if_pos (by omega), tt (7 + j) (by omega)]
      have z2 : st2 (6 + j) = 0 := by rw [s1 (6 + j) (by omega) (by omega), stOf, if_neg (by omega)]
      exact ⟨by rw [z1]; exact b3.trans c1, by rw [z2]; exact b4, q, 0, hq, by omega, by rw [z1]; exact c2, by rw [z2]; rfl⟩
    · rw [s1 12 (by omega) (by omega)]; rfl
    · rw [s1 13 (by omega) (by omega)]; rfl
    · rw [s14, tt 0 (by omega)]; exact r0
    · rw [s1 15 (by omega) (by omega)]; rfl
    · rw [s1 16 (by omega) (by omega)]; rfl
    · rw [s1 15 (by omega) (by omega)]; rfl
    · obtain ⟨a, c, ha, hc, x1, x2, x3, x4⟩ := hP
      exact ⟨a, 0, ha, by omega, x1, rfl, rfl, fun j hj => absurd hj (Nat.not_lt_zero j)⟩
    · rw [pk_un (by decide), pk_us]
    · rw [pk_us]
  · have C : pX8_ransom N tx_signs (nI n) df_goods df_shy df_bidOf df_daysOf nw_price nw_months nw_chest nw_given nw_fate nw_goods nw_rates pa_count i0_held i1_held sc_count bk_count tlo dfo = some ((-10) - f2, 0, a2, f2, p2, stands2, price2, death2, payers2, bids2, hostages2, bags2, marks2, goods2, shy2, bidOf2, daysOf2, nw_price, nw_months, nw_chest, nw_given, nw_fate, nw_goods, nw_rates, pa_count, i0_held, i1_held, sc_count, bk_count, tlo, dfo) := by
      unfold pX8_ransom
      rw [kb16_t' e8, if_neg hf2]
    have hT1 := hT.1
    have hT2 := hT.2.1
    have D : pX9_ransom N mo_told mo_st mo_isThere mo_text (nI n) mo_wrong mo_value mo_read mo_undoMany mo_weighed mo_entries mo_isKept = some ((-10) - f2, mo_told, mo_st, mo_isThere, 0, p2, p2, f2, u2, rd2, mo_undoMany, mo_weighed, mo_entries, mo_isKept) := by
      unfold pX9_ransom
      rw [kb5_t' e9, if_pos rfl]
      unfold pX9_ransom_L19 pX9_ransom_L34 pX9_ransom_L30 pX9_ransom_L35 pX9_ransom_L51
      rw [if_pos rfl, if_pos rfl, if_pos rfl, if_pos rfl, if_pos rfl]
      rw [hT1]
      rcases hT2 with e | e
      · rw [e, if_pos rfl, if_neg (show ¬ ¬ ((0 : Int32) = 0 ∨ (0 : Int32) = 1) by decide)]
      · rw [e, if_neg (show ¬ (1 : Int32) = 0 by decide), if_neg (show ¬ ¬ ((1 : Int32) = 0 ∨ (1 : Int32) = 1) by decide)]
    exact ⟨_, _, _, _, _, _, _, _, _, _, _, _, _, _, _, _, _, _, _, _, _, _, _, _, _, _, _, _, _, _, _, _, _, _, _, _, _, _, _, _, _, _, _, _, C, D, Or.inl ⟨rfl, rfl, ⟨rfl, rfl, 0, by omega, rfl, fun j hj => absurd hj (Nat.not_lt_zero j)⟩, hT, hS, hP, h0, h1, hC, hB, hD⟩⟩
