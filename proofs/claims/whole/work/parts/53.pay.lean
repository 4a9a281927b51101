/-! ===== what is told, hidden, paid ===== -/
def fTell (g s r : Int32) : Int32 := (g * (if (0 : Int32) < (100 - ((s * r) / 10)) then (100 - ((s * r) / 10)) else 0)) / 100
def fPay (g s r : Int32) : Int32 := (fTell g s r * r) / 100
theorem tells8 (g s r : Int32) : pX8_tells g s r = some (fTell g s r) := rfl
theorem pays8 (g s r : Int32) : pX8_pays g s r = some (fPay g s r) := rfl
theorem nI_k (a b : Nat) : (OfNat.ofNat a : Int32) + nI b = nI (a + b) := nI_add a b
theorem nI_mk (a b : Nat) : (OfNat.ofNat a : Int32) * nI b = nI (a * b) := pk_mul a b
theorem tells9 {p : Nat} (hp : p < 6) (r : Int32) (told st : Nat → Int32) : pX9_tellsBy (nI p) r told st = some (fTell (st p) (told (13 + p)) r) := by
  have e13 : (13 : Int32) + nI p = nI (13 + p) := nI_k 13 p
  unfold pX9_tellsBy
  simp only [kl]
  rw [e13, zadd, if_neg (gI (n := 37) (by omega) (by decide)), if_neg (gI (n := 17) (by omega) (by decide)), nI_clamp (by omega), nI_clamp (by omega)]
  unfold fTell
  by_cases h : (0 : Int32) < 100 - told (13 + p) * r / 10
  · rw [if_pos (i_le_of_lt h), if_pos h]
  · rw [if_neg h]
    by_cases h2 : (0 : Int32) ≤ 100 - told (13 + p) * r / 10
    · rw [if_pos h2, i_asymm (i_nlt.mp h) h2]
    · rw [if_neg h2]
theorem pays9 {p : Nat} (hp : p < 6) (r : Int32) (told st : Nat → Int32) : pX9_paysBy (nI p) r told st = some (fPay (st p) (told (13 + p)) r) := by
  unfold pX9_paysBy
  rw [kb1_t (tells9 hp r told st)]
  rfl
theorem hides9 {p : Nat} (hp : p < 6) (r : Int32) (told st : Nat → Int32) : pX9_hiddenBy (nI p) r told st = some (st p - fTell (st p) (told (13 + p)) r) := by
  unfold pX9_hiddenBy
  rw [zadd, if_neg (gI (n := 17) (by omega) (by decide)), kb1_t (tells9 hp r told st), nI_clamp (by omega)]
theorem isPayer8 (x : Int32) {n : Nat} (hn : n < 2 ^ 31) : pX8_isPayer x (nI n) = some (bI (0 ≤ x ∧ x ≤ nI n - 1)) := by
  unfold pX8_isPayer
  by_cases h : ∃ j : Nat, j < n ∧ x = nI j
  · rw [bI_t ((in_pred hn).mpr h)]
    obtain ⟨j, hj, rfl⟩ := h
    rw [if_neg (nI_pos (by omega)), if_neg (nI_ge hj hn)]
  · rw [bI_f (fun z => h ((in_pred hn).mp z))]
    rcases i_out hn h with h1 | ⟨h1, h2⟩
    · rw [if_pos h1]
    · rw [if_neg h1, if_pos h2]
theorem isPayer9 (x : Int32) {n : Nat} {told : Nat → Int32} (h2 : told 2 = nI n) : pX9_isPayer x told = some (bI (0 ≤ x ∧ x ≤ nI n - 1)) := by
  unfold pX9_isPayer
  rw [h2, kb1_t (in_m x 0 (nI n - 1) (by decide)), if_neg (bI_01 _)]
theorem bI_eq0 {c : Prop} [Decidable c] : bI c = 0 ↔ ¬ c := by
  unfold bI
  by_cases h : c
  · rw [if_pos h]; exact ⟨fun z => absurd z (by decide), fun z => absurd h z⟩
  · rw [if_neg h]; exact ⟨fun _ => h, fun _ => rfl⟩
theorem op_payer {N nP nB nH nG : Nat} {kr_drawn : Int32} {tx_signs : Nat → Int32} {tx_length : Int32} {tx_place : Int32} {tl_stands : Int32} {tl_death : Int32} {tl_payers : Int32} {tl_bids : Int32} {tl_hostages : Int32} {tl_bags : Int32} {tl_bagMarks : Int32} {tl_shy : Nat → Int32} {tl_bidOf : Nat → Int32} {tl_daysOf : Nat → Int32} {nw_price : Int32} {nw_months : Int32} {nw_chest : Int32} {nw_given : Int32} {nw_fate : Int32} {nw_goods : Nat → Int32} {nw_rates : Nat → Int32} {pa_next : Int32} {pa_count : Int32} {ps : Nat → krS} {i0_held : Int32} {i0_drawn : Int32} {i0s_price : Int32} {i0s_months : Int32} {i0s_chest : Int32} {i0s_given : Int32} {i0s_fate : Int32} {i0s_goods : Nat → Int32} {i0s_rates : Nat → Int32} {i1_held : Int32} {i1_drawn : Int32} {i1s_price : Int32} {i1s_months : Int32} {i1s_chest : Int32} {i1s_given : Int32} {i1s_fate : Int32} {i1s_goods : Nat → Int32} {i1s_rates : Nat → Int32} {sc_sets : Nat → Int32} {sc_weights : Nat → Int32} {sc_count : Int32} {bk_whose : Nat → Int32} {bk_goods : Nat → Int32} {bk_count : Int32} {mo_told : Nat → Int32} {mo_st : Nat → Int32} {mo_isThere : Int32} {mo_seed : Int32} {mo_text : Nat → Int32} {mo_typed : Int32} {mo_faultAt : Int32} {mo_ahead : Nat → Int32} {mo_undoMany : Int32} {mo_weighings : Nat → Int32} {mo_weighed : Int32} {mo_book : Nat → Int32} {mo_entries : Int32} {mo_isKept : Nat → Int32} {mo_kept : Nat → Int32} {mo_seeds : Nat → Int32} (hN : 20000 ≤ N) (h : Rel nP nB nH nG kr_drawn tx_signs tx_length tx_place tl_stands tl_death tl_payers tl_bids tl_hostages tl_bags tl_bagMarks tl_shy tl_bidOf tl_daysOf nw_price nw_months nw_chest nw_given nw_fate nw_goods nw_rates pa_next pa_count ps i0_held i0_drawn i0s_price i0s_months i0s_chest i0s_given i0s_fate i0s_goods i0s_rates i1_held i1_drawn i1s_price i1s_months i1s_chest i1s_given i1s_fate i1s_goods i1s_rates sc_sets sc_weights sc_count bk_whose bk_goods bk_count mo_told mo_st mo_isThere mo_seed mo_text mo_typed mo_faultAt mo_ahead mo_undoMany mo_weighings mo_weighed mo_book mo_entries mo_isKept mo_kept mo_seeds) (x1 : Int32) (x2 : Int32) : ∃ (r : Int32), pX8_payer x1 x2 tl_payers tl_shy nw_goods nw_rates = some (r) ∧ pX9_payer x1 x2 mo_told mo_st = some (r) ∧ Rel nP nB nH nG kr_drawn tx_signs tx_length tx_place tl_stands tl_death tl_payers tl_bids tl_hostages tl_bags tl_bagMarks tl_shy tl_bidOf tl_daysOf nw_price nw_months nw_chest nw_given nw_fate nw_goods nw_rates pa_next pa_count ps i0_held i0_drawn i0s_price i0s_months i0s_chest i0s_given i0s_fate i0s_goods i0s_rates i1_held i1_drawn i1s_price i1s_months i1s_chest i1s_given i1s_fate i1s_goods i1s_rates sc_sets sc_weights sc_count bk_whose bk_goods bk_count mo_told mo_st mo_isThere mo_seed mo_text mo_typed mo_faultAt mo_ahead mo_undoMany mo_weighings mo_weighed mo_book mo_entries mo_isKept mo_kept mo_seeds := by
  have hh := h
  obtain ⟨-, ⟨-, -, -, ⟨a2, b2, hP⟩, -, -, -, -, hsh, -, -⟩, ⟨hg, -⟩, -⟩ := h
  subst a2
  unfold pX8_payer pX9_payer
  rw [kb1_t (isPayer8 x1 (n := nP) (by omega)), kb1_t (isPayer9 x1 b2)]
  by_cases hx : ∃ j : Nat, j < nP ∧ x1 = nI j
  · rw [bI_t ((in_pred (by omega)).mpr hx)]
    obtain ⟨j, hj, rfl⟩ := hx
    have e6 : (6 : Int32) + nI j = nI (6 + j) := nI_k 6 j
    have e13 : (13 : Int32) + nI j = nI (13 + j) := nI_k 13 j
    obtain ⟨g1, g2, -⟩ := hg j hj
    obtain ⟨s1, -⟩ := hsh j hj
    dsimp only at g1 g2
    simp only [kl]
    rw [if_neg (show ¬ (1 : Int32) = 0 by decide), if_neg (show ¬ (1 : Int32) = 0 by decide), e6, e13, zadd, if_neg (gI (n := 6) (by omega) (by decide)), if_neg (gI (n := 17) (by omega) (by decide)), if_neg (gI (n := 17) (by omega) (by decide)), if_neg (gI (n := 37) (by omega) (by decide)), nI_clamp (by omega), nI_clamp (by omega), nI_clamp (by omega), g1, g2, s1, kb1_t (tells8 _ _ _), kb1_t (tells8 _ _ _), kb1_t (pays8 _ _ _), kb1_t (tells9 (by omega) _ _ _), kb1_t (hides9 (by omega) _ _ _), kb1_t (pays9 (by omega) _ _ _)]
    have key : ∀ (a b c d e f g : Int32), ∃ r, (if x2 = 0 then some a else if x2 = 1 then some b else if x2 = 2 then some c else if x2 = 3 then some d else if x2 = 4 then some e else if x2 = 5 then some f else some g) = some r := by
      intro a b c d e f g
      repeat' first | refine ite_ex ?_ ?_ | exact ⟨_, rfl⟩
    exact (key _ _ _ _ _ _ _).elim (fun r hr => ⟨r, hr, hr, hh⟩)
  · rw [bI_f (fun z => hx ((in_pred (by omega)).mp z)), if_pos rfl, if_pos rfl]
    exact ⟨_, rfl, rfl, hh⟩
theorem op_bid {N nP nB nH nG : Nat} {kr_drawn : Int32} {tx_signs : Nat → Int32} {tx_length : Int32} {tx_place : Int32} {tl_stands : Int32} {tl_death : Int32} {tl_payers : Int32} {tl_bids : Int32} {tl_hostages : Int32} {tl_bags : Int32} {tl_bagMarks : Int32} {tl_shy : Nat → Int32} {tl_bidOf : Nat → Int32} {tl_daysOf : Nat → Int32} {nw_price : Int32} {nw_months : Int32} {nw_chest : Int32} {nw_given : Int32} {nw_fate : Int32} {nw_goods : Nat → Int32} {nw_rates : Nat → Int32} {pa_next : Int32} {pa_count : Int32} {ps : Nat → krS} {i0_held : Int32} {i0_drawn : Int32} {i0s_price : Int32} {i0s_months : Int32} {i0s_chest : Int32} {i0s_given : Int32} {i0s_fate : Int32} {i0s_goods : Nat → Int32} {i0s_rates : Nat → Int32} {i1_held : Int32} {i1_drawn : Int32} {i1s_price : Int32} {i1s_months : Int32} {i1s_chest : Int32} {i1s_given : Int32} {i1s_fate : Int32} {i1s_goods : Nat → Int32} {i1s_rates : Nat → Int32} {sc_sets : Nat → Int32} {sc_weights : Nat → Int32} {sc_count : Int32} {bk_whose : Nat → Int32} {bk_goods : Nat → Int32} {bk_count : Int32} {mo_told : Nat → Int32} {mo_st : Nat → Int32} {mo_isThere : Int32} {mo_seed : Int32} {mo_text : Nat → Int32} {mo_typed : Int32} {mo_faultAt : Int32} {mo_ahead : Nat → Int32} {mo_undoMany : Int32} {mo_weighings : Nat → Int32} {mo_weighed : Int32} {mo_book : Nat → Int32} {mo_entries : Int32} {mo_isKept : Nat → Int32} {mo_kept : Nat → Int32} {mo_seeds : Nat → Int32} (hN : 20000 ≤ N) (h : Rel nP nB nH nG kr_drawn tx_signs tx_length tx_place tl_stands tl_death tl_payers tl_bids tl_hostages tl_bags tl_bagMarks tl_shy tl_bidOf tl_daysOf nw_price nw_months nw_chest nw_given nw_fate nw_goods nw_rates pa_next pa_count ps i0_held i0_drawn i0s_price i0s_months i0s_chest i0s_given i0s_fate i0s_goods i0s_rates i1_held i1_drawn i1s_price i1s_months i1s_chest i1s_given i1s_fate i1s_goods i1s_rates sc_sets sc_weights sc_count bk_whose bk_goods bk_count mo_told mo_st mo_isThere mo_seed mo_text mo_typed mo_faultAt mo_ahead mo_undoMany mo_weighings mo_weighed mo_book mo_entries mo_isKept mo_kept mo_seeds) (x1 : Int32) : ∃ (r : Int32), pX8_bid x1 tl_bids tl_bidOf = some (r) ∧ pX9_bid x1 mo_told = some (r) ∧ Rel nP nB nH nG kr_drawn tx_signs tx_length tx_place tl_stands tl_death tl_payers tl_bids tl_hostages tl_bags tl_bagMarks tl_shy tl_bidOf tl_daysOf nw_price nw_months nw_chest nw_given nw_fate nw_goods nw_rates pa_next pa_count ps i0_held i0_drawn i0s_price i0s_months i0s_chest i0s_given i0s_fate i0s_goods i0s_rates i1_held i1_drawn i1s_price i1s_months i1s_chest i1s_given i1s_fate i1s_goods i1s_rates sc_sets sc_weights sc_count bk_whose bk_goods bk_count mo_told mo_st mo_isThere mo_seed mo_text mo_typed mo_faultAt mo_ahead mo_undoMany mo_weighings mo_weighed mo_book mo_entries mo_isKept mo_kept mo_seeds := by
  have hh := h
  obtain ⟨-, ⟨-, -, -, -, ⟨a3, b3, hB⟩, -, -, -, -, hb, -⟩, -⟩ := h
  subst a3
  unfold pX8_bid pX9_bid
  rw [b3, kb1_t (in_m x1 0 (nI nB - 1) (by decide))]
  by_cases hx : ∃ j : Nat, j < nB ∧ x1 = nI j
  · rw [bI_t ((in_pred (by omega)).mpr hx)]
    obtain ⟨j, hj, rfl⟩ := hx
    have e19 : (19 : Int32) + nI j = nI (19 + j) := nI_k 19 j
    rw [if_neg (nI_pos (by omega)), if_neg (nI_ge hj (by omega)), if_neg (gI (n := 9) (by omega) (by decide)), if_neg (show ¬ (1 : Int32) = 0 by decide), e19, if_neg (gI (n := 37) (by omega) (by decide)), nI_clamp (by omega), nI_clamp (by omega), hb j hj]
    exact ⟨_, rfl, rfl, hh⟩
  · rw [bI_f (fun z => hx ((in_pred (by omega)).mp z))]
    rcases i_out (by omega) hx with h1 | ⟨h1, h2⟩
    · rw [if_pos h1, if_pos rfl]
      exact ⟨_, rfl, rfl, hh⟩
    · rw [if_neg h1, if_pos h2, if_pos rfl]
      exact ⟨_, rfl, rfl, hh⟩
/-! ===== what comes by a rate ===== -/
theorem and1 (y : Int32) : y &&& 1 = 0 ∨ y &&& 1 = 1 := by
  obtain ⟨j, hj, e⟩ := pk_andE y (m := 1) 1 (by decide)
  rcases (show j = 0 ∨ j = 1 by omega) with rfl | rfl
  · exact Or.inl e
  · exact Or.inr e
theorem has9 (a b : Int32) : pX9_has a b = some (bI (((a >>> (b &&& 31)) &&& 1) = 1)) := by
  unfold pX9_has
  by_cases h : ((a >>> (b &&& 31)) &&& 1) = 1
  · rw [if_pos h, bI_t h]
  · rw [if_neg h, bI_f h]
theorem bit0 {y : Int32} : y &&& 1 = 0 ↔ ¬ y &&& 1 = 1 := by
  rcases and1 y with h | h
  · rw [h]; decide
  · rw [h]; decide
theorem com_sim (r set : Int32) {nP : Nat} (hP : nP ≤ 6) {shy goods told st : Nat → Int32} (h2 : told 2 = nI nP) (hs : ∀ j, j < nP → shy j = told (13 + j) ∧ goods j = st j) : ∀ (k i : Nat), i + k = nP → ∀ (n m : Nat), k < n → k < m → ∀ (sum : Int32), ∃ x, pX8_comesBy_L5 r set (nI nP) shy goods n sum (nI i) = some x ∧ pX9_bringsBy_L5 r set told st m sum (nI i) = some x := by
  intro k
  induction k with
  | zero =>
    intro i hi n m hn hm sum
    obtain ⟨n, rfl⟩ : ∃ q, n = q + 1 := ⟨n - 1, by omega⟩
    obtain ⟨m, rfl⟩ : ∃ q, m = q + 1 := ⟨m - 1, by omega⟩
    refine ⟨sum, ?_, ?_⟩
    · rw [pX8_comesBy_L5, if_pos (nI_le (by omega) (by omega))]
    · rw [pX9_bringsBy_L5, h2, if_pos (nI_le (by omega) (by omega))]
  | succ k ih =>
    intro i hi n m hn hm sum
    obtain ⟨n, rfl⟩ : ∃ q, n = q + 1 := ⟨n - 1, by omega⟩
    obtain ⟨m, rfl⟩ : ∃ q, m = q + 1 := ⟨m - 1, by omega⟩
    have hlt : i < nP := by omega
    obtain ⟨s1, s2⟩ := hs i hlt
    rw [pX8_comesBy_L5, pX9_bringsBy_L5, h2, if_neg (nI_ge hlt (by omega)), if_neg (nI_ge hlt (by omega)), kb1_t (has9 set (nI i))]
    by_cases hb : ((set >>> (nI i &&& 31)) &&& 1) = 1
    · rw [bI_t hb, if_neg (fun z => bit0.mp z hb), if_neg (by decide)]
      unfold pX8_comesBy_L53 pX9_bringsBy_L37
      rw [nI_1, addz]
      exact ih (i + 1) (by omega) n m (by omega) (by omega) sum
    · rw [bI_f hb, if_pos (bit0.mpr hb), if_pos rfl, if_neg (gI (n := 6) (by omega) (by decide)), nI_clamp (by omega), kb1_t (pays8 _ _ _), kb1_t (pays9 (by omega) _ _ _), s1, s2]
      unfold pX8_comesBy_L53 pX9_bringsBy_L37
      rw [nI_1]
      exact ih (i + 1) (by omega) n m (by omega) (by omega) _
theorem com_eq {N nP : Nat} (hN : 20000 ≤ N) (hP : nP ≤ 6) {shy goods told st : Nat → Int32} (h2 : told 2 = nI nP) (hs : ∀ j, j < nP → shy j = told (13 + j) ∧ goods j = st j) (r set : Int32) : ∃ x, pX8_comesBy N r set (nI nP) shy goods = some x ∧ pX9_bringsBy N r set told st = some x :=
  com_sim r set hP h2 hs nP 0 (by omega) N N (by omega) (by omega) 0
theorem isRate8 (x : Int32) : pX8_isRate x = some (bI (0 ≤ x ∧ x ≤ 100)) := by
  unfold pX8_isRate
  by_cases h0 : x < 0
  · rw [if_pos h0, bI_f (fun z => i_nlt.mpr z.1 h0)]
  · rw [if_neg h0]
    by_cases h1 : 100 < x
    · rw [if_pos h1, bI_f (fun z => i_nlt.mpr z.2 h1)]
    · rw [if_neg h1, bI_t ⟨i_nlt.mp h0, i_nlt.mp h1⟩]
theorem isPercent8 (x : Int32) : pX8_isPercent x = some (bI (0 ≤ x ∧ x ≤ 100)) := isRate8 x
theorem isMuch8 (x : Int32) : pX8_isMuch x = some (bI (0 ≤ x ∧ x ≤ 9999)) := by
  unfold pX8_isMuch
  by_cases h0 : x < 0
  · rw [if_pos h0, bI_f (fun z => i_nlt.mpr z.1 h0)]
  · rw [if_neg h0]
    by_cases h1 : 9999 < x
    · rw [if_pos h1, bI_f (fun z => i_nlt.mpr z.2 h1)]
    · rw [if_neg h1, bI_t ⟨i_nlt.mp h0, i_nlt.mp h1⟩]
theorem rate9 (x : Int32) : pX9_in x.toInt64 0 100 = some (bI (0 ≤ x ∧ x ≤ 100)) := in_k x 0 100 (by decide) (by decide)
theorem much9 (x : Int32) : pX9_in x.toInt64 0 9999 = some (bI (0 ≤ x ∧ x ≤ 9999)) := in_k x 0 9999 (by decide) (by decide)
theorem op_brings {N nP nB nH nG : Nat} {kr_drawn : Int32} {tx_signs : Nat → Int32} {tx_length : Int32} {tx_place : Int32} {tl_stands : Int32} {tl_death : Int32} {tl_payers : Int32} {tl_bids : Int32} {tl_hostages : Int32} {tl_bags : Int32} {tl_bagMarks : Int32} {tl_shy : Nat → Int32} {tl_bidOf : Nat → Int32} {tl_daysOf : Nat → Int32} {nw_price : Int32} {nw_months : Int32} {nw_chest : Int32} {nw_given : Int32} {nw_fate : Int32} {nw_goods : Nat → Int32} {nw_rates : Nat → Int32} {pa_next : Int32} {pa_count : Int32} {ps : Nat → krS} {i0_held : Int32} {i0_drawn : Int32} {i0s_price : Int32} {i0s_months : Int32} {i0s_chest : Int32} {i0s_given : Int32} {i0s_fate : Int32} {i0s_goods : Nat → Int32} {i0s_rates : Nat → Int32} {i1_held : Int32} {i1_drawn : Int32} {i1s_price : Int32} {i1s_months : Int32} {i1s_chest : Int32} {i1s_given : Int32} {i1s_fate : Int32} {i1s_goods : Nat → Int32} {i1s_rates : Nat → Int32} {sc_sets : Nat → Int32} {sc_weights : Nat → Int32} {sc_count : Int32} {bk_whose : Nat → Int32} {bk_goods : Nat → Int32} {bk_count : Int32} {mo_told : Nat → Int32} {mo_st : Nat → Int32} {mo_isThere : Int32} {mo_seed : Int32} {mo_text : Nat → Int32} {mo_typed : Int32} {mo_faultAt : Int32} {mo_ahead : Nat → Int32} {mo_undoMany : Int32} {mo_weighings : Nat → Int32} {mo_weighed : Int32} {mo_book : Nat → Int32} {mo_entries : Int32} {mo_isKept : Nat → Int32} {mo_kept : Nat → Int32} {mo_seeds : Nat → Int32} (hN : 20000 ≤ N) (h : Rel nP nB nH nG kr_drawn tx_signs tx_length tx_place tl_stands tl_death tl_payers tl_bids tl_hostages tl_bags tl_bagMarks tl_shy tl_bidOf tl_daysOf nw_price nw_months nw_chest nw_given nw_fate nw_goods nw_rates pa_next pa_count ps i0_held i0_drawn i0s_price i0s_months i0s_chest i0s_given i0s_fate i0s_goods i0s_rates i1_held i1_drawn i1s_price i1s_months i1s_chest i1s_given i1s_fate i1s_goods i1s_rates sc_sets sc_weights sc_count bk_whose bk_goods bk_count mo_told mo_st mo_isThere mo_seed mo_text mo_typed mo_faultAt mo_ahead mo_undoMany mo_weighings mo_weighed mo_book mo_entries mo_isKept mo_kept mo_seeds) (x1 : Int32) : ∃ (r : Int32), pX8_brings N x1 tl_payers tl_shy nw_goods = some (r) ∧ pX9_brings N x1 mo_told mo_st = some (r) ∧ Rel nP nB nH nG kr_drawn tx_signs tx_length tx_place tl_stands tl_death tl_payers tl_bids tl_hostages tl_bags tl_bagMarks tl_shy tl_bidOf tl_daysOf nw_price nw_months nw_chest nw_given nw_fate nw_goods nw_rates pa_next pa_count ps i0_held i0_drawn i0s_price i0s_months i0s_chest i0s_given i0s_fate i0s_goods i0s_rates i1_held i1_drawn i1s_price i1s_months i1s_chest i1s_given i1s_fate i1s_goods i1s_rates sc_sets sc_weights sc_count bk_whose bk_goods bk_count mo_told mo_st mo_isThere mo_seed mo_text mo_typed mo_faultAt mo_ahead mo_undoMany mo_weighings mo_weighed mo_book mo_entries mo_isKept mo_kept mo_seeds := by
  have hh := h
  obtain ⟨-, ⟨-, -, -, ⟨a2, b2, hP⟩, -, -, -, -, hsh, -, -⟩, ⟨hg, -⟩, -⟩ := h
  subst a2
  obtain ⟨x, c1, c2⟩ := com_eq hN hP b2 (fun j hj => ⟨(hsh j hj).1, (hg j hj).1⟩) x1 0
  unfold pX8_brings pX9_brings
  rw [kb1_t (isRate8 x1), kb1_t (rate9 x1), kb1_t c1, kb1_t c2]
  by_cases hb : bI (0 ≤ x1 ∧ x1 ≤ 100) = 0
  · rw [if_pos hb]
    exact ⟨_, rfl, rfl, hh⟩
  · rw [if_neg hb]
    exact ⟨_, rfl, rfl, hh⟩
theorem least_sim (N : Nat) (x1 : Int32) {pay : Int32} {shy goods told st : Nat → Int32} (hc : ∀ r, ∃ x, pX8_comesBy N r 0 pay shy goods = some x ∧ pX9_bringsBy N r 0 told st = some x) : ∀ (k i : Nat), i + k = 101 → ∀ (n m : Nat), k < n → k < m → ∃ x, pX8_leastRate_L12 N x1 pay shy goods n (nI i) = some x ∧ pX9_leastRate_L17 N x1 told st m (nI i) = some x := by
  intro k
  induction k with
  | zero =>
    intro i hi n m hn hm
    obtain ⟨n, rfl⟩ : ∃ q, n = q + 1 := ⟨n - 1, by omega⟩
    obtain ⟨m, rfl⟩ : ∃ q, m = q + 1 := ⟨m - 1, by omega⟩
    have e : i = 101 := by omega
    subst e
    refine ⟨-1, ?_, ?_⟩
    · rw [pX8_leastRate_L12, if_pos (by decide)]
    · rw [pX9_leastRate_L17, if_pos (by decide)]
  | succ k ih =>
    intro i hi n m hn hm
    obtain ⟨n, rfl⟩ : ∃ q, n = q + 1 := ⟨n - 1, by omega⟩
    obtain ⟨m, rfl⟩ : ∃ q, m = q + 1 := ⟨m - 1, by omega⟩
    obtain ⟨x, c1, c2⟩ := hc (nI i)
    have hle : ¬ (100 : Int32) < nI i := nI_nlt (a := 100) (by omega) (by omega)
    rw [pX8_leastRate_L12, pX9_leastRate_L17, if_neg hle, if_neg hle, kb1_t c1, kb1_t c2]
    by_cases hb : x < x1
    · rw [if_pos hb, if_pos hb, nI_1]
      exact ih (i + 1) (by omega) n m (by omega) (by omega)
    · rw [if_neg hb, if_neg hb]
      exact ⟨_, rfl, rfl⟩
theorem op_leastRate {N nP nB nH nG : Nat} {kr_drawn : Int32} {tx_signs : Nat → Int32} {tx_length : Int32} {tx_place : Int32} {tl_stands : Int32} {tl_death : Int32} {tl_payers : Int32} {tl_bids : Int32} {tl_hostages : Int32} {tl_bags : Int32} {tl_bagMarks : Int32} {tl_shy : Nat → Int32} {tl_bidOf : Nat → Int32} {tl_daysOf : Nat → Int32} {nw_price : Int32} {nw_months : Int32} {nw_chest : Int32} {nw_given : Int32} {nw_fate : Int32} {nw_goods : Nat → Int32} {nw_rates : Nat → Int32} {pa_next : Int32} {pa_count : Int32} {ps : Nat → krS} {i0_held : Int32} {i0_drawn : Int32} {i0s_price : Int32} {i0s_months : Int32} {i0s_chest : Int32} {i0s_given : Int32} {i0s_fate : Int32} {i0s_goods : Nat → Int32} {i0s_rates : Nat → Int32} {i1_held : Int32} {i1_drawn : Int32} {i1s_price : Int32} {i1s_months : Int32} {i1s_chest : Int32} {i1s_given : Int32} {i1s_fate : Int32} {i1s_goods : Nat → Int32} {i1s_rates : Nat → Int32} {sc_sets : Nat → Int32} {sc_weights : Nat → Int32} {sc_count : Int32} {bk_whose : Nat → Int32} {bk_goods : Nat → Int32} {bk_count : Int32} {mo_told : Nat → Int32} {mo_st : Nat → Int32} {mo_isThere : Int32} {mo_seed : Int32} {mo_text : Nat → Int32} {mo_typed : Int32} {mo_faultAt : Int32} {mo_ahead : Nat → Int32} {mo_undoMany : Int32} {mo_weighings : Nat → Int32} {mo_weighed : Int32} {mo_book : Nat → Int32} {mo_entries : Int32} {mo_isKept : Nat → Int32} {mo_kept : Nat → Int32} {mo_seeds : Nat → Int32} (hN : 20000 ≤ N) (h : Rel nP nB nH nG kr_drawn tx_signs tx_length tx_place tl_stands tl_death tl_payers tl_bids tl_hostages tl_bags tl_bagMarks tl_shy tl_bidOf tl_daysOf nw_price nw_months nw_chest nw_given nw_fate nw_goods nw_rates pa_next pa_count ps i0_held i0_drawn i0s_price i0s_months i0s_chest i0s_given i0s_fate i0s_goods i0s_rates i1_held i1_drawn i1s_price i1s_months i1s_chest i1s_given i1s_fate i1s_goods i1s_rates sc_sets sc_weights sc_count bk_whose bk_goods bk_count mo_told mo_st mo_isThere mo_seed mo_text mo_typed mo_faultAt mo_ahead mo_undoMany mo_weighings mo_weighed mo_book mo_entries mo_isKept mo_kept mo_seeds) (x1 : Int32) : ∃ (r : Int32), pX8_leastRate N x1 tl_payers tl_shy nw_goods = some (r) ∧ pX9_leastRate N x1 mo_told mo_st = some (r) ∧ Rel nP nB nH nG kr_drawn tx_signs tx_length tx_place tl_stands tl_death tl_payers tl_bids tl_hostages tl_bags tl_bagMarks tl_shy tl_bidOf tl_daysOf nw_price nw_months nw_chest nw_given nw_fate nw_goods nw_rates pa_next pa_count ps i0_held i0_drawn i0s_price i0s_months i0s_chest i0s_given i0s_fate i0s_goods i0s_rates i1_held i1_drawn i1s_price i1s_months i1s_chest i1s_given i1s_fate i1s_goods i1s_rates sc_sets sc_weights sc_count bk_whose bk_goods bk_count mo_told mo_st mo_isThere mo_seed mo_text mo_typed mo_faultAt mo_ahead mo_undoMany mo_weighings mo_weighed mo_book mo_entries mo_isKept mo_kept mo_seeds := by
  have hh := h
  obtain ⟨-, ⟨-, -, -, ⟨a2, b2, hP⟩, -, -, -, -, hsh, -, -⟩, ⟨hg, -⟩, -⟩ := h
  subst a2
  have hc := com_eq hN hP b2 (fun j hj => ⟨(hsh j hj).1, (hg j hj).1⟩)
  obtain ⟨x, c1, c2⟩ := least_sim N x1 (fun r => hc r 0) 101 0 (by omega) N N (by omega) (by omega)
  unfold pX8_leastRate pX9_leastRate
  rw [kb1_t (isMuch8 x1), kb1_t (much9 x1)]
  by_cases hb : bI (0 ≤ x1 ∧ x1 ≤ 9999) = 0
  · rw [if_pos hb, if_pos hb]
    exact ⟨_, rfl, rfl, hh⟩
  · rw [if_neg hb, if_neg hb]
    exact ⟨_, c1, c2, hh⟩
theorem most_sim (N : Nat) {pay : Int32} {shy goods told st : Nat → Int32} (hc : ∀ r, ∃ x, pX8_comesBy N r 0 pay shy goods = some x ∧ pX9_bringsBy N r 0 told st = some x) : ∀ (k i : Nat), i + k = 101 → ∀ (n m : Nat), k < n → k < m → ∀ (b v : Int32), pX9_bringsBy N b 0 told st = some v → ∃ x, pX8_rateOfMost_L11 N pay shy goods n b v (nI i) = some x ∧ pX9_rateOfMost_L4 N told st m b (nI i) = some x := by
  intro k
  induction k with
  | zero =>
    intro i hi n m hn hm b v hv
    obtain ⟨n, rfl⟩ : ∃ q, n = q + 1 := ⟨n - 1, by omega⟩
    obtain ⟨m, rfl⟩ : ∃ q, m = q + 1 := ⟨m - 1, by omega⟩
    have e : i = 101 := by omega
    subst e
    refine ⟨b, ?_, ?_⟩
    · rw [pX8_rateOfMost_L11, if_pos (by decide)]
    · rw [pX9_rateOfMost_L4, if_pos (by decide)]
  | succ k ih =>
    intro i hi n m hn hm b v hv
    obtain ⟨n, rfl⟩ : ∃ q, n = q + 1 := ⟨n - 1, by omega⟩
    obtain ⟨m, rfl⟩ : ∃ q, m = q + 1 := ⟨m - 1, by omega⟩
    obtain ⟨x, c1, c2⟩ := hc (nI i)
    have hle : ¬ (100 : Int32) < nI i := nI_nlt (a := 100) (by omega) (by omega)
    rw [pX8_rateOfMost_L11, pX9_rateOfMost_L4, if_neg hle, if_neg hle, kb1_t c1, kb1_t c2, kb1_t hv]
    unfold pX8_rateOfMost_L36 pX9_rateOfMost_L30
    by_cases hb : x ≤ v
    · rw [if_pos hb, if_pos hb, nI_1]
      exact ih (i + 1) (by omega) n m (by omega) (by omega) b v hv
    · rw [if_neg hb, if_neg hb, nI_1]
      exact ih (i + 1) (by omega) n m (by omega) (by omega) (nI i) x c2
theorem op_rateOfMost {N nP nB nH nG : Nat} {kr_drawn : Int32} {tx_signs : Nat → Int32} {tx_length : Int32} {tx_place : Int32} {tl_stands : Int32} {tl_death : Int32} {tl_payers : Int32} {tl_bids : Int32} {tl_hostages : Int32} {tl_bags : Int32} {tl_bagMarks : Int32} {tl_shy : Nat → Int32} {tl_bidOf : Nat → Int32} {tl_daysOf : Nat → Int32} {nw_price : Int32} {nw_months : Int32} {nw_chest : Int32} {nw_given : Int32} {nw_fate : Int32} {nw_goods : Nat → Int32} {nw_rates : Nat → Int32} {pa_next : Int32} {pa_count : Int32} {ps : Nat → krS} {i0_held : Int32} {i0_drawn : Int32} {i0s_price : Int32} {i0s_months : Int32} {i0s_chest : Int32} {i0s_given : Int32} {i0s_fate : Int32} {i0s_goods : Nat → Int32} {i0s_rates : Nat → Int32} {i1_held : Int32} {i1_drawn : Int32} {i1s_price : Int32} {i1s_months : Int32} {i1s_chest : Int32} {i1s_given : Int32} {i1s_fate : Int32} {i1s_goods : Nat → Int32} {i1s_rates : Nat → Int32} {sc_sets : Nat → Int32} {sc_weights : Nat → Int32} {sc_count : Int32} {bk_whose : Nat → Int32} {bk_goods : Nat → Int32} {bk_count : Int32} {mo_told : Nat → Int32} {mo_st : Nat → Int32} {mo_isThere : Int32} {mo_seed : Int32} {mo_text : Nat → Int32} {mo_typed : Int32} {mo_faultAt : Int32} {mo_ahead : Nat → Int32} {mo_undoMany : Int32} {mo_weighings : Nat → Int32} {mo_weighed : Int32} {mo_book : Nat → Int32} {mo_entries : Int32} {mo_isKept : Nat → Int32} {mo_kept : Nat → Int32} {mo_seeds : Nat → Int32} (hN : 20000 ≤ N) (h : Rel nP nB nH nG kr_drawn tx_signs tx_length tx_place tl_stands tl_death tl_payers tl_bids tl_hostages tl_bags tl_bagMarks tl_shy tl_bidOf tl_daysOf nw_price nw_months nw_chest nw_given nw_fate nw_goods nw_rates pa_next pa_count ps i0_held i0_drawn i0s_price i0s_months i0s_chest i0s_given i0s_fate i0s_goods i0s_rates i1_held i1_drawn i1s_price i1s_months i1s_chest i1s_given i1s_fate i1s_goods i1s_rates sc_sets sc_weights sc_count bk_whose bk_goods bk_count mo_told mo_st mo_isThere mo_seed mo_text mo_typed mo_faultAt mo_ahead mo_undoMany mo_weighings mo_weighed mo_book mo_entries mo_isKept mo_kept mo_seeds) : ∃ (r : Int32), pX8_rateOfMost N tl_payers tl_shy nw_goods = some (r) ∧ pX9_rateOfMost N mo_told mo_st = some (r) ∧ Rel nP nB nH nG kr_drawn tx_signs tx_length tx_place tl_stands tl_death tl_payers tl_bids tl_hostages tl_bags tl_bagMarks tl_shy tl_bidOf tl_daysOf nw_price nw_months nw_chest nw_given nw_fate nw_goods nw_rates pa_next pa_count ps i0_held i0_drawn i0s_price i0s_months i0s_chest i0s_given i0s_fate i0s_goods i0s_rates i1_held i1_drawn i1s_price i1s_months i1s_chest i1s_given i1s_fate i1s_goods i1s_rates sc_sets sc_weights sc_count bk_whose bk_goods bk_count mo_told mo_st mo_isThere mo_seed mo_text mo_typed mo_faultAt mo_ahead mo_undoMany mo_weighings mo_weighed mo_book mo_entries mo_isKept mo_kept mo_seeds := by
  have hh := h
  obtain ⟨-, ⟨-, -, -, ⟨a2, b2, hP⟩, -, -, -, -, hsh, -, -⟩, ⟨hg, -⟩, -⟩ := h
  subst a2
  have hc := com_eq hN hP b2 (fun j hj => ⟨(hsh j hj).1, (hg j hj).1⟩)
  obtain ⟨v, v1, v2⟩ := hc 0 0
  obtain ⟨x, c1, c2⟩ := most_sim N (fun r => hc r 0) 100 1 (by omega) N N (by omega) (by omega) 0 v v2
  unfold pX8_rateOfMost pX9_rateOfMost
  rw [kb1_t v1]
  exact ⟨x, c1, c2, hh⟩
