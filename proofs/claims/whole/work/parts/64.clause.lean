/-! ===== the clauses ===== -/
variable {N n : Nat} {signs text : Nat → Int32}
theorem num_lit (hN : 20000 ≤ N) (T : Txt n signs text) {L U : Int32} {lo hi : Nat} (eL : L = nI lo) (eU : U = nI hi) (hlo : lo ≤ 999) (hhi : hi ≤ 999) {a : Nat} (ha : a ≤ n) (f p : Int32) : ∃ (v a2 : Nat) (f2 p2 : Int32), v ≤ 999 ∧ a ≤ a2 ∧ a2 ≤ n ∧ pX7_number N L U signs (nI n) (nI a) f p = some (nI v, nI a2, f2, p2) ∧ (¬ f = 0 → f2 = f ∧ p2 = p) ∧
    (f = 0 → (f2 = 0 ∧ p2 = p ∧ lo ≤ v ∧ v ≤ hi ∧ ∀ x : Nat, x < 37 → ∀ w u rd, pX9_takesNumber N L U (nI x) text (nI n) (nI a) w u rd = some (1, nI a2, w, nI v, upd rd x (nI v))) ∨ (¬ f2 = 0 ∧ ∀ x : Nat, x < 37 → ∀ w u rd, ∃ u2, pX9_takesNumber N L U (nI x) text (nI n) (nI a) w u rd = some (0, p2, f2, u2, rd))) := by
  subst eL eU
  exact num_eq hN T ha hlo hhi f p
theorem word0 (a : Nat) (f p : Int32) : pX7_takeWord 0 (nI a) f p = some (nI (a + 1), f, p) := by
  unfold pX7_takeWord pX7_takeWord_L13
  rw [if_pos rfl, nI_1]
theorem word1 (a : Nat) (p : Int32) : pX7_takeWord 1 (nI a) 0 p = some (nI (a + 1), 3, nI a) := by
  unfold pX7_takeWord pX7_takeWord_L13
  rw [if_neg (show ¬ (1 : Int32) = 0 by decide), fail0, kb2_e, nI_1]
theorem flt9 (c : Int32) : pX9_faults c = some (0, c) := rfl
theorem addP {k : Nat} (hk : k < 6) (x y : Int32) (goods shy : Nat → Int32) : pX6_addPayer x y (nI k) goods shy = some (nI (k + 1), upd goods k x, upd shy k y) := by
  unfold pX6_addPayer
  rw [if_neg (show ¬ (6 : Int32) ≤ nI k from nI_ge hk (by decide)), if_neg (gI (n := 6) hk (by decide)), nI_clamp (by omega), nI_1]
theorem addH {k : Nat} (hk : k < 6) (x : Int32) (days : Nat → Int32) : pX6_addHostage x (nI k) days = some (nI (k + 1), upd days k x) := by
  unfold pX6_addHostage
  rw [if_neg (show ¬ (6 : Int32) ≤ nI k from nI_ge hk (by decide)), if_neg (gI (n := 6) hk (by decide)), nI_clamp (by omega), nI_1]
theorem addB {k : Nat} (hk : k < 9) (x : Int32) (bid : Nat → Int32) : pX6_addBid x (nI k) bid = some (nI (k + 1), upd bid k x) := by
  unfold pX6_addBid
  rw [if_neg (show ¬ (9 : Int32) ≤ nI k from nI_ge hk (by decide)), if_neg (gI (n := 9) hk (by decide)), nI_clamp (by omega), nI_1]
theorem addB' {k : Nat} (hk : k ≤ 9) (x : Int32) (bid : Nat → Int32) : ∃ (k2 : Nat) (bid2 : Nat → Int32), k2 ≤ 9 ∧ pX6_addBid x (nI k) bid = some (nI k2, bid2) := by
  by_cases h : k < 9
  · exact ⟨k + 1, _, by omega, addB h x bid⟩
  · have e : k = 9 := by omega
    subst e
    exact ⟨9, bid, by omega, by unfold pX6_addBid; rw [if_pos (show (9 : Int32) ≤ nI 9 by decide)]⟩
theorem payer_eq (hN : 20000 ≤ N) (T : Txt n signs text) {a k : Nat} (ha : a < n) (hk : k ≤ 6) {goods shy rd : Nat → Int32} (p : Int32) (h2 : rd 2 = nI k) : ∃ (a2 k2 : Nat) (f2 p2 : Int32) (goods2 shy2 : Nat → Int32), a < a2 ∧ a2 ≤ n ∧ pX7_readPayer N signs (nI n) (nI a) 0 p (nI k) goods shy = some (nI a2, f2, p2, nI k2, goods2, shy2) ∧
    ((f2 = 0 ∧ p2 = p ∧ k < 6 ∧ k2 = k + 1 ∧ ∃ x y : Nat, x ≤ 999 ∧ y ≤ 9 ∧ goods2 = upd goods k (nI x) ∧ shy2 = upd shy k (nI y) ∧ ∀ w u, ∃ u2, pX9_readPayer N text (nI n) (nI a) w u rd = some (1, nI a2, w, u2, upd (upd (upd rd 2 (nI (k + 1))) (7 + k) (nI x)) (13 + k) (nI y))) ∨ (¬ f2 = 0 ∧ ∀ w u, ∃ u2 rd2, pX9_readPayer N text (nI n) (nI a) w u rd = some (0, p2, f2, u2, rd2))) := by
  by_cases hk6 : k < 6
  · obtain ⟨v, b, f, q, n1, n2, n3, n4, n5, n6⟩ := num_lit hN T (L := 0) (U := 999) (lo := 0) (hi := 999) rfl rfl (by omega) (by omega) (a := a + 1) (by omega) 0 p
    obtain ⟨v2, b2, f2, q2, m1, m2, m3, m4, m5, m6⟩ := num_lit hN T (L := 0) (U := 9) (lo := 0) (hi := 9) rfl rfl (by omega) (by omega) n3 f q
    obtain ⟨b3, f3, q3, c2, c3, c4, c5, c6⟩ := close_eq hN T m3 f2 q2
    refine ⟨b3, k + 1, f3, q3, upd goods k (nI v), upd shy k (nI v2), by omega, c3, ?_, ?_⟩
    · unfold pX7_readPayer pX7_readPayer_L15
      rw [if_pos (show nI k < (6 : Int32) from nI_lt hk6 (by decide)), kb3_t (word0 a 0 p), kb4_t' n4, kb4_t' m4, kb3_t (addP hk6 _ _ _ _), kb3_t c4]
    · have M : ∀ w u, pX9_readPayer N text (nI n) (nI a) w u rd = _ := by
        intro w u
        unfold pX9_readPayer
        rw [h2, if_neg (show ¬ nI k = (6 : Int32) from fun z => by have := nI_inj (b := 6) (by omega) (by decide) z; omega), nI_k, nI_k, nI_1, nI_1]
      rcases n6 rfl with ⟨rfl, rfl, -, -, o1⟩ | ⟨w1, o1⟩
      · rcases m6 rfl with ⟨rfl, rfl, -, z2, o2⟩ | ⟨w2, o2⟩
        · rcases c6 rfl with ⟨rfl, rfl, o3⟩ | ⟨w3, o3⟩
          · refine Or.inl ⟨rfl, rfl, hk6, rfl, v, v2, n1, z2, rfl, rfl, fun w u => ⟨nI v2, ?_⟩⟩
            rw [M, kb5_t' (o1 (7 + k) (by omega) _ _ _), if_neg (show ¬ (1 : Int32) = 0 by decide), kb5_t' (o2 (13 + k) (by omega) _ _ _), if_neg (show ¬ (1 : Int32) = 0 by decide), kb3_t (o3 w), if_neg (show ¬ (1 : Int32) = 0 by decide)]
          · refine Or.inr ⟨w3, fun w u => ⟨nI v2, _, ?_⟩⟩
            rw [M, kb5_t' (o1 (7 + k) (by omega) _ _ _), if_neg (show ¬ (1 : Int32) = 0 by decide), kb5_t' (o2 (13 + k) (by omega) _ _ _), if_neg (show ¬ (1 : Int32) = 0 by decide), kb3_t (o3 w), if_pos rfl]
        · obtain ⟨rfl, rfl⟩ := c5 w2
          refine Or.inr ⟨w2, fun w u => ?_⟩
          obtain ⟨u2, o2⟩ := o2 (13 + k) (by omega) w (nI v) (upd (upd rd 2 (nI (k + 1))) (7 + k) (nI v))
          refine ⟨u2, _, ?_⟩
          rw [M, kb5_t' (o1 (7 + k) (by omega) _ _ _), if_neg (show ¬ (1 : Int32) = 0 by decide), kb5_t' o2, if_pos rfl]
      · obtain ⟨rfl, rfl⟩ := m5 w1
        obtain ⟨rfl, rfl⟩ := c5 w1
        refine Or.inr ⟨w1, fun w u => ?_⟩
        obtain ⟨u2, o1⟩ := o1 (7 + k) (by omega) w u (upd rd 2 (nI (k + 1)))
        refine ⟨u2, _, ?_⟩
        rw [M, kb5_t' o1, if_pos rfl]
  · have e : k = 6 := by omega
    subst e
    obtain ⟨v, b, f, q, n1, n2, n3, n4, n5, -⟩ := num_lit hN T (L := 0) (U := 999) (lo := 0) (hi := 999) rfl rfl (by omega) (by omega) (a := a + 1) (by omega) 3 (nI a)
    obtain ⟨rfl, rfl⟩ := n5 (by decide)
    obtain ⟨v2, b2, f2, q2, m1, m2, m3, m4, m5, -⟩ := num_lit hN T (L := 0) (U := 9) (lo := 0) (hi := 9) rfl rfl (by omega) (by omega) n3 3 (nI a)
    obtain ⟨rfl, rfl⟩ := m5 (by decide)
    obtain ⟨b3, f3, q3, c2, c3, c4, c5, -⟩ := close_eq hN T m3 3 (nI a)
    obtain ⟨rfl, rfl⟩ := c5 (by decide)
    refine ⟨b3, 6, 3, nI a, goods, shy, by omega, c3, ?_, Or.inr ⟨by decide, fun w u => ⟨u, rd, ?_⟩⟩⟩
    · unfold pX7_readPayer pX7_readPayer_L15 pX6_addPayer
      rw [if_neg (show ¬ nI 6 < (6 : Int32) by decide), kb3_t (word1 a p), kb4_t' n4, kb4_t' m4, if_pos (show (6 : Int32) ≤ nI 6 by decide), kb3_e, kb3_t c4]
    · unfold pX9_readPayer
      rw [h2, if_pos (show nI 6 = (6 : Int32) from rfl), flt9, kb2_e, if_neg (show ¬ ¬ ((0 : Int32) = 0 ∨ (0 : Int32) = 1) by decide)]
theorem hostage_eq (hN : 20000 ≤ N) (T : Txt n signs text) {a k : Nat} (ha : a < n) (hk : k ≤ 6) {days rd : Nat → Int32} (p : Int32) (h2 : rd 4 = nI k) : ∃ (a2 k2 : Nat) (f2 p2 : Int32) (days2 : Nat → Int32), a < a2 ∧ a2 ≤ n ∧ pX7_readHostage N signs (nI n) (nI a) 0 p (nI k) days = some (nI a2, f2, p2, nI k2, days2) ∧
    ((f2 = 0 ∧ p2 = p ∧ k < 6 ∧ k2 = k + 1 ∧ ∃ x : Nat, x ≤ 99 ∧ days2 = upd days k (nI x) ∧ ∀ w u, ∃ u2, pX9_readHostage N text (nI n) (nI a) w u rd = some (1, nI a2, w, u2, upd (upd rd 4 (nI (k + 1))) (28 + k) (nI x))) ∨ (¬ f2 = 0 ∧ ∀ w u, ∃ u2 rd2, pX9_readHostage N text (nI n) (nI a) w u rd = some (0, p2, f2, u2, rd2))) := by
  by_cases hk6 : k < 6
  · obtain ⟨v, b, f, q, n1, n2, n3, n4, n5, n6⟩ := num_lit hN T (L := 1) (U := 99) (lo := 1) (hi := 99) rfl rfl (by omega) (by omega) (a := a + 1) (by omega) 0 p
    obtain ⟨b3, f3, q3, c2, c3, c4, c5, c6⟩ := close_eq hN T n3 f q
    refine ⟨b3, k + 1, f3, q3, upd days k (nI v), by omega, c3, ?_, ?_⟩
    · unfold pX7_readHostage pX7_readHostage_L15
      rw [if_pos (show nI k < (6 : Int32) from nI_lt hk6 (by decide)), kb3_t (word0 a 0 p), kb4_t' n4, kb2_t (addH hk6 _ _), kb3_t c4]
    · have M : ∀ w u, pX9_readHostage N text (nI n) (nI a) w u rd = _ := by
        intro w u
        unfold pX9_readHostage
        rw [h2, if_neg (show ¬ nI k = (6 : Int32) from fun z => by have := nI_inj (b := 6) (by omega) (by decide) z; omega), nI_k, nI_1, nI_1]
      rcases n6 rfl with ⟨rfl, rfl, -, z1, o1⟩ | ⟨w1, o1⟩
      · rcases c6 rfl with ⟨rfl, rfl, o3⟩ | ⟨w3, o3⟩
        · refine Or.inl ⟨rfl, rfl, hk6, rfl, v, z1, rfl, fun w u => ⟨nI v, ?_⟩⟩
          rw [M, kb5_t' (o1 (28 + k) (by omega) _ _ _), if_neg (show ¬ (1 : Int32) = 0 by decide), kb3_t (o3 w), if_neg (show ¬ (1 : Int32) = 0 by decide)]
        · refine Or.inr ⟨w3, fun w u => ⟨nI v, _, ?_⟩⟩
          rw [M, kb5_t' (o1 (28 + k) (by omega) _ _ _), if_neg (show ¬ (1 : Int32) = 0 by decide), kb3_t (o3 w), if_pos rfl]
      · obtain ⟨rfl, rfl⟩ := c5 w1
        refine Or.inr ⟨w1, fun w u => ?_⟩
        obtain ⟨u2, o1⟩ := o1 (28 + k) (by omega) w u (upd rd 4 (nI (k + 1)))
        refine ⟨u2, _, ?_⟩
        rw [M, kb5_t' o1, if_pos rfl]
  · have e : k = 6 := by omega
    subst e
    obtain ⟨v, b, f, q, n1, n2, n3, n4, n5, -⟩ := num_lit hN T (L := 1) (U := 99) (lo := 1) (hi := 99) rfl rfl (by omega) (by omega) (a := a + 1) (by omega) 3 (nI a)
    obtain ⟨rfl, rfl⟩ := n5 (by decide)
    obtain ⟨b3, f3, q3, c2, c3, c4, c5, -⟩ := close_eq hN T n3 3 (nI a)
    obtain ⟨rfl, rfl⟩ := c5 (by decide)
    refine ⟨b3, 6, 3, nI a, days, by omega, c3, ?_, Or.inr ⟨by decide, fun w u => ⟨u, rd, ?_⟩⟩⟩
    · unfold pX7_readHostage pX7_readHostage_L15 pX6_addHostage
      rw [if_neg (show ¬ nI 6 < (6 : Int32) by decide), kb3_t (word1 a p), kb4_t' n4, if_pos (show (6 : Int32) ≤ nI 6 by decide), kb2_e, kb3_t c4]
    · unfold pX9_readHostage
      rw [h2, if_pos (show nI 6 = (6 : Int32) from rfl), flt9, kb2_e, if_neg (show ¬ ¬ ((0 : Int32) = 0 ∨ (0 : Int32) = 1) by decide)]
theorem bags_eq (hN : 20000 ≤ N) (T : Txt n signs text) {a k : Nat} (ha : a < n) (hk : k ≤ 8) {rd : Nat → Int32} (p : Int32) (h2 : rd 5 = nI k) : ∃ (a2 g m : Nat) (f2 p2 : Int32), a < a2 ∧ a2 ≤ n ∧ pX7_readBags N signs (nI n) (nI a) 0 p (nI k) = some (nI a2, f2, p2, nI g, nI m) ∧
    ((f2 = 0 ∧ p2 = p ∧ g ≤ 8 ∧ m ≤ 99 ∧ ∀ w u, ∃ u2, pX9_readBags N text (nI n) (nI a) w u rd = some (1, nI a2, w, u2, upd (upd rd 6 (nI m)) 5 (nI g))) ∨ (¬ f2 = 0 ∧ ∀ w u, ∃ u2 rd2, pX9_readBags N text (nI n) (nI a) w u rd = some (0, p2, f2, u2, rd2))) := by
  by_cases hk6 : k = 0
  · subst hk6
    obtain ⟨v, b, f, q, n1, n2, n3, n4, n5, n6⟩ := num_lit hN T (L := 1) (U := 99) (lo := 1) (hi := 99) rfl rfl (by omega) (by omega) (a := a + 1) (by omega) 0 p
    obtain ⟨v2, b2, f2, q2, m1, m2, m3, m4, m5, m6⟩ := num_lit hN T (L := 1) (U := 8) (lo := 1) (hi := 8) rfl rfl (by omega) (by omega) n3 f q
    obtain ⟨b3, f3, q3, c2, c3, c4, c5, c6⟩ := close_eq hN T m3 f2 q2
    refine ⟨b3, v2, v, f3, q3, by omega, c3, ?_, ?_⟩
    · unfold pX7_readBags pX7_readBags_L13
      rw [if_pos (show nI 0 ≤ (0 : Int32) by decide), kb3_t (word0 a 0 p), kb4_t' n4, kb4_t' m4, kb3_t c4]
    · have M : ∀ w u, pX9_readBags N text (nI n) (nI a) w u rd = _ := by
        intro w u
        unfold pX9_readBags
        rw [h2, if_pos (show nI 0 ≤ (0 : Int32) by decide), nI_1]
      rcases n6 rfl with ⟨rfl, rfl, -, z1, o1⟩ | ⟨w1, o1⟩
      · have p1 := o1 6 (by omega)
        have p1 : ∀ w u rd, pX9_takesNumber N 1 99 6 text (nI n) (nI (a + 1)) w u rd = _ := p1
        rcases m6 rfl with ⟨rfl, rfl, -, z2, o2⟩ | ⟨w2, o2⟩
        · have p2 := o2 5 (by omega)
          have p2 : ∀ w u rd, pX9_takesNumber N 1 8 5 text (nI n) (nI b) w u rd = _ := p2
          rcases c6 rfl with ⟨rfl, rfl, o3⟩ | ⟨w3, o3⟩
          · refine Or.inl ⟨rfl, rfl, z2, z1, fun w u => ⟨nI v2, ?_⟩⟩
            rw [M, kb5_t' (p1 _ _ _), if_neg (show ¬ (1 : Int32) = 0 by decide), kb5_t' (p2 _ _ _), if_neg (show ¬ (1 : Int32) = 0 by decide), kb3_t (o3 w), if_neg (show ¬ (1 : Int32) = 0 by decide)]
          · refine Or.inr ⟨w3, fun w u => ⟨nI v2, _, ?_⟩⟩
            rw [M, kb5_t' (p1 _ _ _), if_neg (show ¬ (1 : Int32) = 0 by decide), kb5_t' (p2 _ _ _), if_neg (show ¬ (1 : Int32) = 0 by decide), kb3_t (o3 w), if_pos rfl]
        · obtain ⟨rfl, rfl⟩ := c5 w2
          refine Or.inr ⟨w2, fun w u => ?_⟩
          obtain ⟨u2, o2⟩ := o2 5 (by omega) w (nI v) (upd rd 6 (nI v))
          have o2 : pX9_takesNumber N 1 8 5 text (nI n) (nI b) w (nI v) (upd rd 6 (nI v)) = _ := o2
          refine ⟨u2, _, ?_⟩
          rw [M, kb5_t' (p1 _ _ _), if_neg (show ¬ (1 : Int32) = 0 by decide), kb5_t' o2, if_pos rfl]
      · obtain ⟨rfl, rfl⟩ := m5 w1
        obtain ⟨rfl, rfl⟩ := c5 w1
        refine Or.inr ⟨w1, fun w u => ?_⟩
        obtain ⟨u2, o1⟩ := o1 6 (by omega) w u rd
        have o1 : pX9_takesNumber N 1 99 6 text (nI n) (nI (a + 1)) w u rd = _ := o1
        refine ⟨u2, _, ?_⟩
        rw [M, kb5_t' o1, if_pos rfl]
  · obtain ⟨v, b, f, q, n1, n2, n3, n4, n5, -⟩ := num_lit hN T (L := 1) (U := 99) (lo := 1) (hi := 99) rfl rfl (by omega) (by omega) (a := a + 1) (by omega) 3 (nI a)
    obtain ⟨rfl, rfl⟩ := n5 (by decide)
    obtain ⟨v2, b2, f2, q2, m1, m2, m3, m4, m5, -⟩ := num_lit hN T (L := 1) (U := 8) (lo := 1) (hi := 8) rfl rfl (by omega) (by omega) n3 3 (nI a)
    obtain ⟨rfl, rfl⟩ := m5 (by decide)
    obtain ⟨b3, f3, q3, c2, c3, c4, c5, -⟩ := close_eq hN T m3 3 (nI a)
    obtain ⟨rfl, rfl⟩ := c5 (by decide)
    have hk0 : ¬ nI k ≤ (0 : Int32) := nI_ge (a := 0) (by omega) (by omega)
    refine ⟨b3, v2, v, 3, nI a, by omega, c3, ?_, Or.inr ⟨by decide, fun w u => ⟨u, rd, ?_⟩⟩⟩
    · unfold pX7_readBags pX7_readBags_L13
      rw [if_neg hk0, kb3_t (word1 a p), kb4_t' n4, kb4_t' m4, kb3_t c4]
    · unfold pX9_readBags
      rw [h2, if_neg hk0, flt9, kb2_e, if_neg (show ¬ ¬ ((0 : Int32) = 0 ∨ (0 : Int32) = 1) by decide)]
