/-! ===== the clauses ===== -/
variable {N n : Nat} {signs text : Nat → Int32}
theorem num_lit (hN : 20000 ≤ N) (T : Txt n signs text) {L U : Int32} {lo hi : Nat} (eL : L = nI lo) (eU : U = nI hi) (hlo : lo ≤ 999) (hhi : hi ≤ 999) {a : Nat} (ha : a ≤ n) (f p : Int32) : ∃ (v a2 : Nat) (f2 p2 : Int32), v ≤ 999 ∧ a ≤ a2 ∧ a2 ≤ n ∧ pX7_number N L U signs (nI n) (nI a) f p = some (nI v, nI a2, f2, p2) ∧ (¬ f = 0 → f2 = f ∧ p2 = p) ∧
    (f = 0 → (f2 = 0 ∧ p2 = p ∧ lo ≤ v ∧ v ≤ hi ∧ ∀ x : Nat, x < 37 → ∀ w u rd, pX9_takesNumber N L U (nI x) text (nI n) (nI a) w u rd = some (1, nI a2, w, nI v, upd rd x (nI v))) ∨ (¬ f2 = 0 ∧ ∀ x : Nat, x < 37 → ∀ w u rd, ∃ u2, pX9_takesNumber N L U (nI x) text (nI n) (nI a) w u rd = some (0, p2, f2, u2, rd))) := by
  subst eL eU
  exact num_eq hN T ha hlo hhi f p
theorem word0 (a : Nat) (f p : Int32) : pX7_takeWord 0 (nI a) f p = some (nI (a + 1), f, p) := by
  unfold pX7_takeWord pX7_takeWord_L13
  rw [if_pos rfl, nI_1]
theorem word1 (a : Nat) (p : Int32) : pX7_takeWord 1 (nI a) 0 p = some (nI (a + 1), 3, nI a) := by
  unfold pX7_takeWord pX7_takeWord_L13
  rw [if_neg (show ¬ (1 : Int32) = 0 by decide), fail0, kb2_e, nI_1]
theorem flt9 (c : Int32) : pX9_faults c = some (0, c) := rfl
theorem addP {k : Nat} (hk : k < 6) (x y : Int32) (goods shy : Nat → Int32) : pX6_addPayer x y (nI k) goods shy = some (nI (k + 1), upd goods k x, upd shy k y) := by
  unfold pX6_addPayer
  rw [if_neg (show ¬ (6 : Int32) ≤ nI k from nI_ge hk (by decide)), if_neg (gI (n := 6) hk (by decide)), nI_clamp (by omega), nI_1]
theorem addH {k : Nat} (hk : k < 6) (x : Int32) (days : Nat → Int32) : pX6_addHostage x (nI k) days = some (nI (k + 1), upd days k x) := by
  unfold pX6_addHostage
  rw [if_neg (show ¬ (6 : Int32) ≤ nI k from nI_ge hk (by decide)), if_neg (gI (n := 6) hk (by decide)), nI_clamp (by omega), nI_1]
theorem addB {k : Nat} (hk : k < 9) (x : Int32) (bid : Nat → Int32) : pX6_addBid x (nI k) bid = some (nI (k + 1), upd bid k x) := by
  unfold pX6_addBid
  rw [if_neg (show ¬ (9 : Int32) ≤ nI k from nI_ge hk (by decide)), if_neg (gI (n := 9) hk (by decide)), nI_clamp (by omega), nI_1]
theorem addB' {k : Nat} (hk : k ≤ 9) (x : Int32) (bid : Nat → Int32) : ∃ (k2 : Nat) (bid2 : Nat → Int32), k2 ≤ 9 ∧ pX6_addBid x (nI k) bid = some (nI k2, bid2) := by
  by_cases h : k < 9
  · exact ⟨k + 1, _, by omega, addB h x bid⟩
  · have e : k = 9 := by omega
    subst e
    exact ⟨9, bid, by omega, by unfold pX6_addBid; rw [if_pos (show (9 : Int32) ≤ nI 9 by decide)]⟩
theorem payer_eq (hN : 20000 ≤ N) (T : Txt n signs text) {a k : Nat} (ha : a < n) (hk : k ≤ 6) {goods shy rd : Nat → Int32} (p : Int32) (h2 : rd 2 = nI k) : ∃ (a2 k2 : Nat) (f2 p2 : Int32) (goods2 shy2 : Nat → Int32), a < a2 ∧ a2 ≤ n ∧ pX7_readPayer N signs (nI n) (nI a) 0 p (nI k) goods shy = some (nI a2, f2, p2, nI k2, goods2, shy2) ∧
    ((f2 = 0 ∧ p2 = p ∧ k < 6 ∧ k2 = k + 1 ∧ ∃ x y : Nat, x ≤ 999 ∧ y ≤ 9 ∧ goods2 = upd goods k (nI x) ∧ shy2 = upd shy k (nI y) ∧ ∀ w u, ∃ u2, pX9_readPayer N text (nI n) (nI a) w u rd = some (1, nI a2, w, u2, upd (upd (upd rd 2 (nI (k + 1))) (7 + k) (nI x)) (13 + k) (nI y))) ∨ (¬ f2 = 0 ∧ ∀ w u, ∃ u2 rd2, pX9_readPayer N text (nI n) (nI a) w u rd = some (0, p2, f2, u2, rd2))) := by
  by_cases hk6 : k < 6
  · obtain ⟨v, b, f, q, n1, n2, n3, n4, n5, n6⟩ := num_lit hN T (L := 0) (U := 999) (lo := 0) (hi := 999) rfl rfl (by omega) (by omega) (a := a + 1) (by omega) 0 p
    obtain ⟨v2, b2, f2, q2, m1, m2, m3, m4, m5, m6⟩ := num_lit hN T (L := 0) (U := 9) (lo := 0) (hi := 9) rfl rfl (by omega) (by omega) n3 f q
    obtain ⟨b3, f3, q3, c2, c3, c4, c5, c6⟩ := close_eq hN T m3 f2 q2
    refine ⟨b3, k + 1, f3, q3, upd goods k (nI v), upd shy k (nI v2), by omega, c3, ?_, ?_⟩
    · unfold pX7_readPayer pX7_readPayer_L15
      rw [if_pos (show nI k < (6 : Int32) from nI_lt hk6 (by decide)), kb3_t (word0 a 0 p), kb4_t' n4, kb4_t' m4, kb3_t (addP hk6 _ _ _ _), kb3_t c4]
    · rcases n6 rfl with ⟨rfl, rfl, -, -, o1⟩ | ⟨w1, o1⟩
      · rcases m6 rfl with ⟨rfl, rfl, -, z2, o2⟩ | ⟨w2, o2⟩
        · rcases c6 rfl with ⟨rfl, rfl, o3⟩ | ⟨w3, o3⟩
          · refine Or.inl ⟨rfl, rfl, hk6, rfl, v, v2, n1, z2, rfl, rfl, fun w u => ⟨nI v2, ?_⟩⟩
            unfold pX9_readPayer
            rw [h2, if_neg (show ¬ nI k = (6 : Int32) from fun z => by have := nI_inj (b := 6) (by omega) (by decide) z; omega), nI_k, nI_k, nI_1, nI_1, kb5_t' (o1 (7 + k) (by omega) _ _ _), if_neg (show ¬ (1 : Int32) = 0 by decide), kb5_t' (o2 (13 + k) (by omega) _ _ _), if_neg (show ¬ (1 : Int32) = 0 by decide), kb3_t (o3 w), if_neg (show ¬ (1 : Int32) = 0 by decide)]
          · refine Or.inr ⟨w3, fun w u => ?_⟩
            unfold pX9_readPayer
            rw [h2, if_neg (show ¬ nI k = (6 : Int32) from fun z => by have := nI_inj (b := 6) (by omega) (by decide) z; omega), nI_k, nI_k, nI_1, nI_1, kb5_t' (o1 (7 + k) (by omega) _ _ _), if_neg (show ¬ (1 : Int32) = 0 by decide), kb5_t' (o2 (13 + k) (by omega) _ _ _), if_neg (show ¬ (1 : Int32) = 0 by decide), kb3_t (o3 w), if_pos rfl]
            exact ⟨_, _, rfl⟩
        · obtain ⟨rfl, rfl⟩ := c5 w2
          refine Or.inr ⟨w2, fun w u => ?_⟩
          obtain ⟨u2, o2⟩ := o2 (13 + k) (by omega) w (nI v) (upd (upd rd 2 (nI (k + 1))) (7 + k) (nI v))
          unfold pX9_readPayer
          rw [h2, if_neg (show ¬ nI k = (6 : Int32) from fun z => by have := nI_inj (b := 6) (by omega) (by decide) z; omega), nI_k, nI_k, nI_1, nI_1, kb5_t' (o1 (7 + k) (by omega) _ _ _), if_neg (show ¬ (1 : Int32) = 0 by decide), kb5_t' o2, if_pos rfl]
          exact ⟨_, _, rfl⟩
      · obtain ⟨rfl, rfl⟩ := m5 w1
        obtain ⟨rfl, rfl⟩ := c5 w1
        refine Or.inr ⟨w1, fun w u => ?_⟩
        obtain ⟨u2, o1⟩ := o1 (7 + k) (by omega) w u (upd rd 2 (nI (k + 1)))
        unfold pX9_readPayer
        rw [h2, if_neg (show ¬ nI k = (6 : Int32) from fun z => by have := nI_inj (b := 6) (by omega) (by decide) z; omega), nI_k, nI_k, nI_1, nI_1, kb5_t' o1, if_pos rfl]
        exact ⟨_, _, rfl⟩
  · have e : k = 6 := by omega
    subst e
    obtain ⟨v, b, f, q, n1, n2, n3, n4, n5, -⟩ := num_lit hN T (L := 0) (U := 999) (lo := 0) (hi := 999) rfl rfl (by omega) (by omega) (a := a + 1) (by omega) 3 (nI a)
    obtain ⟨rfl, rfl⟩ := n5 (by decide)
    obtain ⟨v2, b2, f2, q2, m1, m2, m3, m4, m5, -⟩ := num_lit hN T (L := 0) (U := 9) (lo := 0) (hi := 9) rfl rfl (by omega) (by omega) n3 3 (nI a)
    obtain ⟨rfl, rfl⟩ := m5 (by decide)
    obtain ⟨b3, f3, q3, c2, c3, c4, c5, -⟩ := close_eq hN T m3 3 (nI a)
    obtain ⟨rfl, rfl⟩ := c5 (by decide)
    refine ⟨b3, 6, 3, nI a, goods, shy, by omega, c3, ?_, Or.inr ⟨by decide, fun w u => ⟨u, rd, ?_⟩⟩⟩
    · unfold pX7_readPayer pX7_readPayer_L15 pX6_addPayer
      rw [if_neg (show ¬ nI 6 < (6 : Int32) by decide), kb3_t (word1 a p), kb4_t' n4, kb4_t' m4, if_pos (show (6 : Int32) ≤ nI 6 by decide), kb3_e, kb3_t c4]
    · unfold pX9_readPayer
      rw [h2, if_pos (show nI 6 = (6 : Int32) from rfl), flt9, kb2_e, if_neg (show ¬ ¬ ((0 : Int32) = 0 ∨ (0 : Int32) = 1) by decide)]
theorem hostage_eq (hN : 20000 ≤ N) (T : Txt n signs text) {a k : Nat} (ha : a < n) (hk : k ≤ 6) {days rd : Nat → Int32} (p : Int32) (h2 : rd 4 = nI k) : ∃ (a2 k2 : Nat) (f2 p2 : Int32) (days2 : Nat → Int32), a < a2 ∧ a2 ≤ n ∧ pX7_readHostage N signs (nI n) (nI a) 0 p (nI k) days = some (nI a2, f2, p2, nI k2, days2) ∧
    ((f2 = 0 ∧ p2 = p ∧ k < 6 ∧ k2 = k + 1 ∧ ∃ x : Nat, x ≤ 99 ∧ days2 = upd days k (nI x) ∧ ∀ w u, ∃ u2, pX9_readHostage N text (nI n) (nI a) w u rd = some (1, nI a2, w, u2, upd (upd rd 4 (nI (k + 1))) (28 + k) (nI x))) ∨ (¬ f2 = 0 ∧ ∀ w u, ∃ u2 rd2, pX9_readHostage N text (nI n) (nI a) w u rd = some (0, p2, f2, u2, rd2))) := by
  by_cases hk6 : k < 6
  · obtain ⟨v, b, f, q, n1, n2, n3, n4, n5, n6⟩ := num_lit hN T (L := 1) (U := 99) (lo := 1) (hi := 99) rfl rfl (by omega) (by omega) (a := a + 1) (by omega) 0 p
    obtain ⟨b3, f3, q3, c2, c3, c4, c5, c6⟩ := close_eq hN T n3 f q
    refine ⟨b3, k + 1, f3, q3, upd days k (nI v), by omega, c3, ?_, ?_⟩
    · unfold pX7_readHostage pX7_readHostage_L15
      rw [if_pos (show nI k < (6 : Int32) from nI_lt hk6 (by decide)), kb3_t (word0 a 0 p), kb4_t' n4, kb2_t (addH hk6 _ _), kb3_t c4]
    · rcases n6 rfl with ⟨rfl, rfl, -, z1, o1⟩ | ⟨w1, o1⟩
      · rcases c6 rfl with ⟨rfl, rfl, o3⟩ | ⟨w3, o3⟩
        · refine Or.inl ⟨rfl, rfl, hk6, rfl, v, z1, rfl, fun w u => ⟨nI v, ?_⟩⟩
          unfold pX9_readHostage
          rw [h2, if_neg (show ¬ nI k = (6 : Int32) from fun z => by have := nI_inj (b := 6) (by omega) (by decide) z; omega), nI_k, nI_1, nI_1, kb5_t' (o1 (28 + k) (by omega) _ _ _), if_neg (show ¬ (1 : Int32) = 0 by decide), kb3_t (o3 w), if_neg (show ¬ (1 : Int32) = 0 by decide)]
        · refine Or.inr ⟨w3, fun w u => ?_⟩
          unfold pX9_readHostage
          rw [h2, if_neg (show ¬ nI k = (6 : Int32) from fun z => by have := nI_inj (b := 6) (by omega) (by decide) z; omega), nI_k, nI_1, nI_1, kb5_t' (o1 (28 + k) (by omega) _ _ _), if_neg (show ¬ (1 : Int32) = 0 by decide), kb3_t (o3 w), if_pos rfl]
          exact ⟨_, _, rfl⟩
      · obtain ⟨rfl, rfl⟩ := c5 w1
        refine Or.inr ⟨w1, fun w u => ?_⟩
        obtain ⟨u2, o1⟩ := o1 (28 + k) (by omega) w u (upd rd 4 (nI (k + 1)))
        unfold pX9_readHostage
        rw [h2, if_neg (show ¬ nI k = (6 : Int32) from fun z => by have := nI_inj (b := 6) (by omega) (by decide) z; omega), nI_k, nI_1, nI_1, kb5_t' o1, if_pos rfl]
        exact ⟨_, _, rfl⟩
  · have e : k = 6 := by omega
    subst e
    obtain ⟨v, b, f, q, n1, n2, n3, n4, n5, -⟩ := num_lit hN T (L := 1) (U := 99) (lo := 1) (hi := 99) rfl rfl (by omega) (by omega) (a := a + 1) (by omega) 3 (nI a)
    obtain ⟨rfl, rfl⟩ := n5 (by decide)
    obtain ⟨b3, f3, q3, c2, c3, c4, c5, -⟩ := close_eq hN T n3 3 (nI a)
    obtain ⟨rfl, rfl⟩ := c5 (by decide)
    refine ⟨b3, 6, 3, nI a, days, by omega, c3, ?_, Or.inr ⟨by decide, fun w u => ⟨u, rd, ?_⟩⟩⟩
    · unfold pX7_readHostage pX7_readHostage_L15 pX6_addHostage
      rw [if_neg (show ¬ nI 6 < (6 : Int32) by decide), kb3_t (word1 a p), kb4_t' n4, if_pos (show (6 : Int32) ≤ nI 6 by decide), kb2_e, kb3_t c4]
    · unfold pX9_readHostage
      rw [h2, if_pos (show nI 6 = (6 : Int32) from rfl), flt9, kb2_e, if_neg (show ¬ ¬ ((0 : Int32) = 0 ∨ (0 : Int32) = 1) by decide)]
theorem bags_eq (hN : 20000 ≤ N) (T : Txt n signs text) {a k : Nat} (ha : a < n) (hk : k ≤ 8) {rd : Nat → Int32} (p : Int32) (h2 : rd 5 = nI k) : ∃ (a2 g m : Nat) (f2 p2 : Int32), a < a2 ∧ a2 ≤ n ∧ pX7_readBags N signs (nI n) (nI a) 0 p (nI k) = some (nI a2, f2, p2, nI g, nI m) ∧
    ((f2 = 0 ∧ p2 = p ∧ g ≤ 8 ∧ m ≤ 99 ∧ ∀ w u, ∃ u2, pX9_readBags N text (nI n) (nI a) w u rd = some (1, nI a2, w, u2, upd (upd rd 6 (nI m)) 5 (nI g))) ∨ (¬ f2 = 0 ∧ ∀ w u, ∃ u2 rd2, pX9_readBags N text (nI n) (nI a) w u rd = some (0, p2, f2, u2, rd2))) := by
  by_cases hk6 : k = 0
  · subst hk6
    obtain ⟨v, b, f, q, n1, n2, n3, n4, n5, n6⟩ := num_lit hN T (L := 1) (U := 99) (lo := 1) (hi := 99) rfl rfl (by omega) (by omega) (a := a + 1) (by omega) 0 p
    obtain ⟨v2, b2, f2, q2, m1, m2, m3, m4, m5, m6⟩ := num_lit hN T (L := 1) (U := 8) (lo := 1) (hi := 8) rfl rfl (by omega) (by omega) n3 f q
    obtain ⟨b3, f3, q3, c2, c3, c4, c5, c6⟩ := close_eq hN T m3 f2 q2
    refine ⟨b3, v2, v, f3, q3, by omega, c3, ?_, ?_⟩
    · unfold pX7_readBags pX7_readBags_L13
      rw [if_pos (show nI 0 ≤ (0 : Int32) by decide), kb3_t (word0 a 0 p), kb4_t' n4, kb4_t' m4, kb3_t c4]
    · rcases n6 rfl with ⟨rfl, rfl, -, z1, o1⟩ | ⟨w1, o1⟩
      · have p1 := o1 6 (by omega)
        have p1 : ∀ w u rd, pX9_takesNumber N 1 99 6 text (nI n) (nI (a + 1)) w u rd = _ := p1
        rcases m6 rfl with ⟨rfl, rfl, -, z2, o2⟩ | ⟨w2, o2⟩
        · have p2 := o2 5 (by omega)
          have p2 : ∀ w u rd, pX9_takesNumber N 1 8 5 text (nI n) (nI b) w u rd = _ := p2
          rcases c6 rfl with ⟨rfl, rfl, o3⟩ | ⟨w3, o3⟩
          · refine Or.inl ⟨rfl, rfl, z2, z1, fun w u => ⟨nI v2, ?_⟩⟩
            unfold pX9_readBags
            rw [h2, if_pos (show nI 0 ≤ (0 : Int32) by decide), nI_1, kb5_t' (p1 _ _ _), if_neg (show ¬ (1 : Int32) = 0 by decide), kb5_t' (p2 _ _ _), if_neg (show ¬ (1 : Int32) = 0 by decide), kb3_t (o3 w), if_neg (show ¬ (1 : Int32) = 0 by decide)]
          · refine Or.inr ⟨w3, fun w u => ?_⟩
            unfold pX9_readBags
            rw [h2, if_pos (show nI 0 ≤ (0 : Int32) by decide), nI_1, kb5_t' (p1 _ _ _), if_neg (show ¬ (1 : Int32) = 0 by decide), kb5_t' (p2 _ _ _), if_neg (show ¬ (1 : Int32) = 0 by decide), kb3_t (o3 w), if_pos rfl]
            exact ⟨_, _, rfl⟩
        · obtain ⟨rfl, rfl⟩ := c5 w2
          refine Or.inr ⟨w2, fun w u => ?_⟩
          obtain ⟨u2, o2⟩ := o2 5 (by omega) w (nI v) (upd rd 6 (nI v))
          have o2 : pX9_takesNumber N 1 8 5 text (nI n) (nI b) w (nI v) (upd rd 6 (nI v)) = _ := o2
          unfold pX9_readBags
          rw [h2, if_pos (show nI 0 ≤ (0 : Int32) by decide), nI_1, kb5_t' (p1 _ _ _), if_neg (show ¬ (1 : Int32) = 0 by decide), kb5_t' o2, if_pos rfl]
          exact ⟨_, _, rfl⟩
      · obtain ⟨rfl, rfl⟩ := m5 w1
        obtain ⟨rfl, rfl⟩ := c5 w1
        refine Or.inr ⟨w1, fun w u => ?_⟩
        obtain ⟨u2, o1⟩ := o1 6 (by omega) w u rd
        have o1 : pX9_takesNumber N 1 99 6 text (nI n) (nI (a + 1)) w u rd = _ := o1
        unfold pX9_readBags
        rw [h2, if_pos (show nI 0 ≤ (0 : Int32) by decide), nI_1, kb5_t' o1, if_pos rfl]
        exact ⟨_, _, rfl⟩
  · obtain ⟨v, b, f, q, n1, n2, n3, n4, n5, -⟩ := num_lit hN T (L := 1) (U := 99) (lo := 1) (hi := 99) rfl rfl (by omega) (by omega) (a := a + 1) (by omega) 3 (nI a)
    obtain ⟨rfl, rfl⟩ := n5 (by decide)
    obtain ⟨v2, b2, f2, q2, m1, m2, m3, m4, m5, -⟩ := num_lit hN T (L := 1) (U := 8) (lo := 1) (hi := 8) rfl rfl (by omega) (by omega) n3 3 (nI a)
    obtain ⟨rfl, rfl⟩ := m5 (by decide)
    obtain ⟨b3, f3, q3, c2, c3, c4, c5, -⟩ := close_eq hN T m3 3 (nI a)
    obtain ⟨rfl, rfl⟩ := c5 (by decide)
    have hk0 : ¬ nI k ≤ (0 : Int32) := nI_ge (a := 0) (by omega) (by omega)
    refine ⟨b3, v2, v, 3, nI a, by omega, c3, ?_, Or.inr ⟨by decide, fun w u => ⟨u, rd, ?_⟩⟩⟩
    · unfold pX7_readBags pX7_readBags_L13
      rw [if_neg hk0, kb3_t (word1 a p), kb4_t' n4, kb4_t' m4, kb3_t c4]
    · unfold pX9_readBags
      rw [h2, if_neg hk0, flt9, kb2_e, if_neg (show ¬ ¬ ((0 : Int32) = 0 ∨ (0 : Int32) = 1) by decide)]

/-! ===== the bids ===== -/
def BadL (N n : Nat) (signs text : Nat → Int32) (c m : Nat) : Prop := ∀ (v2 : Int32) (a nb : Nat) (f p : Int32) (bid : Nat → Int32), ¬ f = 0 → a ≤ n → nb ≤ 9 → ∃ (a2 nb2 : Nat) (bid2 : Nat → Int32), a ≤ a2 ∧ a2 ≤ n ∧ nb2 ≤ 9 ∧ pX7_readBids_L20 N signs (nI n) m v2 (nI c) (nI a) f p (nI nb) bid = some (nI a2, f, p, nI nb2, bid2)
/-- what the class does once a bid is added -/
def cB (N n : Nat) (signs : Nat → Int32) (m c a nb : Nat) (f p : Int32) (bid : Nat → Int32) : Option (Int32 × Int32 × Int32 × Int32 × (Nat → Int32)) :=
  (if 9 ≤ nI c then
    pX7_readBids_L61 (pX7_readBids_L20 N signs (nI n) m) (nI c) (nI a) f p (nI nb) bid
    else
    kb2 (pX7_takes N 44 signs (nI n) (nI a)) fun r17 w18 =>
    (if r17 = 0 then
    pX7_readBids_L61 (pX7_readBids_L20 N signs (nI n) m) (nI c) w18 f p (nI nb) bid
    else
    pX7_readBids_L62 (pX7_readBids_L20 N signs (nI n) m) (nI c) 1 w18 f p (nI nb) bid))
theorem cB_bad (hN : 20000 ≤ N) (T : Txt n signs text) {c m : Nat} (h : BadL N n signs text (c + 1) m) {a nb : Nat} {f : Int32} (p : Int32) (bid : Nat → Int32) (hf : ¬ f = 0) (ha : a ≤ n) (hb : nb ≤ 9) : ∃ (a2 nb2 : Nat) (bid2 : Nat → Int32), a ≤ a2 ∧ a2 ≤ n ∧ nb2 ≤ 9 ∧ cB N n signs m c a nb f p bid = some (nI a2, f, p, nI nb2, bid2) := by
  unfold cB pX7_readBids_L61 pX7_readBids_L62
  rw [nI_1]
  by_cases h9 : (9 : Int32) ≤ nI c
  · rw [if_pos h9]
    exact h 0 a nb f p bid hf ha hb
  · obtain ⟨l1, l2, -⟩ := nx_le (text := text) ha
    rw [if_neg h9, takes8 hN T ha 44]
    by_cases h44 : sg text n (nx text n a) = 44
    · have h3 := sg_x (by decide) h44
      obtain ⟨a2, nb2, bid2, g1, g2, g3, g4⟩ := h 1 (nx text n a + 1) nb f p bid hf (by omega) hb
      rw [if_pos h44, kb2_e, if_neg (show ¬ (1 : Int32) = 0 by decide)]
      exact ⟨a2, nb2, bid2, by omega, g2, g3, g4⟩
    · obtain ⟨a2, nb2, bid2, g1, g2, g3, g4⟩ := h 0 (nx text n a) nb f p bid hf (by omega) hb
      rw [if_neg h44, kb2_e, if_pos rfl]
      exact ⟨a2, nb2, bid2, by omega, g2, g3, g4⟩
theorem L69_bad (hN : 20000 ≤ N) (T : Txt n signs text) {a nb : Nat} {f : Int32} (p : Int32) (bid : Nat → Int32) (hf : ¬ f = 0) (ha : a ≤ n) (hb : nb ≤ 9) : ∃ (a2 nb2 : Nat) (bid2 : Nat → Int32), a ≤ a2 ∧ a2 ≤ n ∧ nb2 ≤ 9 ∧ pX7_readBids_L69 N signs (nI n) (nI a) f p (nI nb) bid = some (nI a2, f, p, nI nb2, bid2) := by
  obtain ⟨b3, f3, q3, c2, c3, c4, c5, -⟩ := close_eq hN T ha f p
  obtain ⟨rfl, rfl⟩ := c5 hf
  refine ⟨b3, nb, bid, c2, c3, hb, ?_⟩
  unfold pX7_readBids_L69
  rw [kb3_t c4]
theorem bids_bad (hN : 20000 ≤ N) (T : Txt n signs text) : ∀ (k c : Nat), c + k = 10 → 1 ≤ c → ∀ m, k < m → BadL N n signs text c m := by
  intro k
  induction k with
  | zero =>
    intro c hc h1 m hm v2 a nb f p bid hf ha hb
    obtain ⟨m, rfl⟩ := fuel hm
    have e : c = 10 := by omega
    subst e
    rw [pX7_readBids_L20, if_pos (show (9 : Int32) < nI 10 by decide)]
    exact L69_bad hN T p bid hf ha hb
  | succ k ih =>
    intro c hc h1 m hm v2 a nb f p bid hf ha hb
    obtain ⟨m, rfl⟩ := fuel hm
    rw [pX7_readBids_L20, if_neg (show ¬ (9 : Int32) < nI c from nI_nlt (b := c) (a := 9) (by omega) (by decide))]
    by_cases h0 : v2 = 0
    · rw [if_pos h0]
      exact L69_bad hN T p bid hf ha hb
    · obtain ⟨v, b, f2, q2, n1, n2, n3, n4, n5, -⟩ := num_lit hN T (L := 0) (U := 999) (lo := 0) (hi := 999) rfl rfl (by omega) (by omega) ha f p
      obtain ⟨rfl, rfl⟩ := n5 hf
      obtain ⟨nb1, bid1, hb1, eb⟩ := addB' hb (nI v) bid
      obtain ⟨a2, nb2, bid2, g1, g2, g3, g4⟩ := cB_bad hN T (ih (c + 1) (by omega) (by omega) m (by omega)) q2 bid1 hf n3 hb1
      rw [if_neg h0, kb4_t' n4, kb2_t eb]
      exact ⟨a2, nb2, bid2, by omega, g2, g3, g4⟩
theorem L108_eq (hN : 20000 ≤ N) (T : Txt n signs text) {a : Nat} (ha : a ≤ n) (p : Int32) (nb : Int32) (bid : Nat → Int32) {b : Nat} (hb : b = a ∨ b = nx text n a) : ∃ (a2 : Nat) (f2 p2 : Int32), a ≤ a2 ∧ a2 ≤ n ∧ pX7_readBids_L69 N signs (nI n) (nI b) 0 p nb bid = some (nI a2, f2, p2, nb, bid) ∧ ((f2 = 0 ∧ p2 = p ∧ ∀ w u rd, pX9_readBids_L108 N text (nI n) 1 (nI (nx text n a)) w u rd = some (1, nI a2, w, u, rd)) ∨ (¬ f2 = 0 ∧ ∀ w u rd, ∃ u2 rd2, pX9_readBids_L108 N text (nI n) 1 (nI (nx text n a)) w u rd = some (0, p2, f2, u2, rd2))) := by
  obtain ⟨l1, l2, -⟩ := nx_le (text := text) ha
  have hbn : b ≤ n := by rcases hb with rfl | rfl <;> omega
  have hab : a ≤ b := by rcases hb with rfl | rfl <;> omega
  have enx : nx text n b = nx text n (nx text n a) := by
    rw [nx_nx ha]
    rcases hb with rfl | rfl
    · rfl
    · exact nx_nx ha
  obtain ⟨b3, f3, q3, c2, c3, c4, c5, c6⟩ := close_eq hN T hbn 0 p
  have tk : ∀ w, pX9_takes N 59 text (nI n) (nI (nx text n a)) w = pX9_takes N 59 text (nI n) (nI b) w := fun w => by
    rw [takes9 hN T l2, takes9 hN T hbn, enx]
  refine ⟨b3, f3, q3, by omega, c3, ?_, ?_⟩
  · unfold pX7_readBids_L69
    rw [kb3_t c4]
  · unfold pX9_readBids_L108
    rcases c6 rfl with ⟨rfl, rfl, o⟩ | ⟨w3, o⟩
    · refine Or.inl ⟨rfl, rfl, fun w u rd => ?_⟩
      rw [if_neg (show ¬ (1 : Int32) = 0 by decide), tk, kb3_t (o w), if_neg (show ¬ (1 : Int32) = 0 by decide)]
    · refine Or.inr ⟨w3, fun w u rd => ⟨u, rd, ?_⟩⟩
      rw [if_neg (show ¬ (1 : Int32) = 0 by decide), tk, kb3_t (o w), if_pos rfl]
theorem bids_ok (hN : 20000 ≤ N) (T : Txt n signs text) (p : Int32) : ∀ (k c : Nat), c + k = 9 → 1 ≤ c → ∀ m1 m2, k + 1 < m1 → k + 1 < m2 → ∀ (a : Nat) (bid rd : Nat → Int32), a ≤ n → rd 3 = nI c → (∀ j, j < c → bid j = rd (19 + j)) →
    ∃ (a2 nb2 : Nat) (f2 p2 : Int32) (bid2 : Nat → Int32), a ≤ a2 ∧ a2 ≤ n ∧ cB N n signs m1 c a c 0 p bid = some (nI a2, f2, p2, nI nb2, bid2) ∧
      ((f2 = 0 ∧ p2 = p ∧ nb2 ≤ 9 ∧ ∃ rd2 : Nat → Int32, (∀ w u, ∃ u2, pX9_readBids_L43 N text (nI n) m2 1 (nI a) w u rd = some (1, nI a2, w, u2, rd2)) ∧ rd2 3 = nI nb2 ∧ (∀ j, j < nb2 → bid2 j = rd2 (19 + j)) ∧ (∀ i, ¬ i = 3 → (i < 19 ∨ 28 ≤ i) → rd2 i = rd i)) ∨ (¬ f2 = 0 ∧ ∀ w u, ∃ u2 rd2, pX9_readBids_L43 N text (nI n) m2 1 (nI a) w u rd = some (0, p2, f2, u2, rd2))) := by
  intro k
  induction k with
  | zero =>
    intro c hc h1 m1 m2 hm1 hm2 a bid rd ha h3 hj
    obtain ⟨m1, rfl⟩ := fuel hm1
    obtain ⟨m2, rfl⟩ := fuel hm2
    have e : c = 9 := by omega
    subst e
    obtain ⟨a2, f2, p2, g1, g2, g3, g4⟩ := L108_eq hN T ha p (nI 9) bid (Or.inl rfl)
    have M : ∀ w u, pX9_readBids_L43 N text (nI n) (m2 + 1) 1 (nI a) w u rd = pX9_readBids_L108 N text (nI n) 1 (nI (nx text n a)) w u rd := by
      intro w u
      rw [pX9_readBids_L43, if_neg (show ¬ (1 : Int32) = 0 by decide), kb2_t (next9 hN T ha), h3, if_pos (show (9 : Int32) ≤ nI 9 by decide)]
      by_cases h : sg text n (nx text n a) = 44
      · rw [if_pos h]
      · rw [if_neg h]
    refine ⟨a2, 9, f2, p2, bid, g1, g2, ?_, ?_⟩
    · unfold cB pX7_readBids_L61 pX7_readBids_L62
      rw [if_pos (show (9 : Int32) ≤ nI 9 by decide), nI_1, pX7_readBids_L20, if_pos (show (9 : Int32) < nI (9 + 1) by decide)]
      exact g3
    · rcases g4 with ⟨q1, q2, q3⟩ | ⟨q1, q2⟩
      · exact Or.inl ⟨q1, q2, by omega, rd, fun w u => ⟨u, by rw [M, q3]⟩, h3, hj, fun i _ _ => rfl⟩
      · refine Or.inr ⟨q1, fun w u => ?_⟩
        rw [M]
        exact q2 w u rd
  | succ k ih =>
    intro c hc h1 m1 m2 hm1 hm2 a bid rd ha h3 hj
    obtain ⟨m1, rfl⟩ := fuel hm1
    obtain ⟨m2, rfl⟩ := fuel hm2
    obtain ⟨l1, l2, -⟩ := nx_le (text := text) ha
    have n9 : ¬ (9 : Int32) ≤ nI c := nI_ge (b := 9) (by omega) (by decide)
    by_cases h44 : sg text n (nx text n a) = 44
    · have hlt := sg_x (by decide) h44
      obtain ⟨v, b, f2, q2, n1, n2, n3, n4, n5, n6⟩ := num_lit hN T (L := 0) (U := 999) (lo := 0) (hi := 999) rfl rfl (by omega) (by omega) (a := nx text n a + 1) (by omega) 0 p
      have C : cB N n signs (m1 + 1) c a c 0 p bid = cB N n signs m1 (c + 1) b (c + 1) f2 q2 (upd bid c (nI v)) := by
        unfold cB
        rw [if_neg n9, takes8 hN T ha 44, if_pos h44, kb2_e, if_neg (show ¬ (1 : Int32) = 0 by decide)]
        unfold pX7_readBids_L62
        rw [nI_1, pX7_readBids_L20, if_neg (show ¬ (9 : Int32) < nI (c + 1) from nI_nlt (b := c + 1) (a := 9) (by omega) (by decide)), if_neg (show ¬ (1 : Int32) = 0 by decide), kb4_t' n4, kb2_t (addB (by omega) (nI v) bid)]
        rfl
      rcases n6 rfl with ⟨rfl, rfl, -, -, o1⟩ | ⟨w1, o1⟩
      · have M : ∀ w u, pX9_readBids_L43 N text (nI n) (m2 + 1) 1 (nI a) w u rd = pX9_readBids_L43 N text (nI n) m2 1 (nI b) w (nI v) (upd (upd rd (19 + c) (nI v)) 3 (nI (c + 1))) := by
          intro w u
          rw [pX9_readBids_L43, if_neg (show ¬ (1 : Int32) = 0 by decide), kb2_t (next9 hN T ha), if_pos h44, h3, if_neg n9, nI_k, nI_1, kb5_t' (o1 (19 + c) (by omega) _ _ _), pk_un (by omega), h3, nI_1]
        obtain ⟨a2, nb2, f2, p2, bid2, g1, g2, g3, g4⟩ := ih (c + 1) (by omega) (by omega) m1 m2 (by omega) (by omega) b (upd bid c (nI v)) (upd (upd rd (19 + c) (nI v)) 3 (nI (c + 1))) n3 pk_us (fun j hj2 => by
          rw [pk_un (k := 3) (by omega)]
          by_cases e : j = c
          · subst e; rw [pk_us, pk_us]
          · rw [pk_un e, pk_un (by omega)]; exact hj j (by omega))
        refine ⟨a2, nb2, f2, p2, bid2, by omega, g2, C.trans g3, ?_⟩
        rcases g4 with ⟨q1, q2, q3, rd2, q4, q5, q6, q7⟩ | ⟨q1, q2⟩
        · refine Or.inl ⟨q1, q2, q3, rd2, fun w u => ?_, q5, q6, fun i hi hi2 => ?_⟩
          · rw [M]; exact q4 w (nI v)
          · rw [q7 i hi hi2, pk_un hi, pk_un (by omega)]
        · refine Or.inr ⟨q1, fun w u => ?_⟩
          rw [M]; exact q2 w (nI v)
      · obtain ⟨a2, nb2, bid2, g1, g2, g3, g4⟩ := cB_bad hN T (bids_bad hN T (9 - (c + 1)) (c + 1 + 1) (by omega) (by omega) m1 (by omega)) q2 (upd bid c (nI v)) w1 n3 (nb := c + 1) (by omega)
        refine ⟨a2, nb2, f2, q2, bid2, by omega, g2, C.trans g4, Or.inr ⟨w1, fun w u => ?_⟩⟩
        obtain ⟨u2, o1⟩ := o1 (19 + c) (by omega) w u rd
        obtain ⟨m2, rfl⟩ := fuel (show 0 < m2 by omega)
        rw [pX9_readBids_L43, if_neg (show ¬ (1 : Int32) = 0 by decide), kb2_t (next9 hN T ha), if_pos h44, h3, if_neg n9, nI_k, nI_1, kb5_t' o1, pX9_readBids_L43, if_pos rfl]
        unfold pX9_readBids_L108
        rw [if_pos rfl]
        exact ⟨_, _, rfl⟩
    · obtain ⟨a2, f2, p2, g1, g2, g3, g4⟩ := L108_eq hN T ha p (nI c) bid (Or.inr rfl)
      have M : ∀ w u, pX9_readBids_L43 N text (nI n) (m2 + 1) 1 (nI a) w u rd = pX9_readBids_L108 N text (nI n) 1 (nI (nx text n a)) w u rd := by
        intro w u
        rw [pX9_readBids_L43, if_neg (show ¬ (1 : Int32) = 0 by decide), kb2_t (next9 hN T ha), if_neg h44]
      refine ⟨a2, c, f2, p2, bid, g1, g2, ?_, ?_⟩
      · unfold cB
        rw [if_neg n9, takes8 hN T ha 44, if_neg h44, kb2_e, if_pos rfl]
        unfold pX7_readBids_L61 pX7_readBids_L62
        rw [nI_1, pX7_readBids_L20, if_pos rfl, g3]
        by_cases h : (9 : Int32) < nI (c + 1)
        · rw [if_pos h]
        · rw [if_neg h]
      · rcases g4 with ⟨q1, q2, q3⟩ | ⟨q1, q2⟩
        · exact Or.inl ⟨q1, q2, by omega, rd, fun w u => ⟨u, by rw [M, q3]⟩, h3, hj, fun i _ _ => rfl⟩
        · refine Or.inr ⟨q1, fun w u => ?_⟩
          rw [M]
          exact q2 w u rd
theorem bids_eq (hN : 20000 ≤ N) (T : Txt n signs text) {a k : Nat} (ha : a < n) (hk : k ≤ 9) {bid rd : Nat → Int32} (p : Int32) (h2 : rd 3 = nI k) : ∃ (a2 nb2 : Nat) (f2 p2 : Int32) (bid2 : Nat → Int32), a < a2 ∧ a2 ≤ n ∧ pX7_readBids N signs (nI n) (nI a) 0 p (nI k) bid = some (nI a2, f2, p2, nI nb2, bid2) ∧
    ((f2 = 0 ∧ p2 = p ∧ nb2 ≤ 9 ∧ ∃ rd2 : Nat → Int32, (∀ w u, ∃ u2, pX9_readBids N text (nI n) (nI a) w u rd = some (1, nI a2, w, u2, rd2)) ∧ rd2 3 = nI nb2 ∧ (∀ j, j < nb2 → bid2 j = rd2 (19 + j)) ∧ (∀ i, ¬ i = 3 → (i < 19 ∨ 28 ≤ i) → rd2 i = rd i)) ∨ (¬ f2 = 0 ∧ ∀ w u, ∃ u2 rd2, pX9_readBids N text (nI n) (nI a) w u rd = some (0, p2, f2, u2, rd2))) := by
  by_cases hk0 : k = 0
  · subst hk0
    obtain ⟨v, b, f, q, n1, n2, n3, n4, n5, n6⟩ := num_lit hN T (L := 0) (U := 999) (lo := 0) (hi := 999) rfl rfl (by omega) (by omega) (a := a + 1) (by omega) 0 p
    obtain ⟨M, rfl⟩ := fuel (show 19999 < N by omega)
    have C : pX7_readBids (M + 1) signs (nI n) (nI a) 0 p (nI 0) bid = cB (M + 1) n signs M 1 b 1 f q (upd bid 0 (nI v)) := by
      unfold pX7_readBids pX7_readBids_L13
      rw [if_pos (show nI 0 ≤ (0 : Int32) by decide), kb3_t (word0 a 0 p), pX7_readBids_L20, if_neg (show ¬ (9 : Int32) < 1 by decide), if_neg (show ¬ (1 : Int32) = 0 by decide), kb4_t' n4, kb2_t (addB (by omega) (nI v) bid)]
      rfl
    rcases n6 rfl with ⟨rfl, rfl, -, -, o1⟩ | ⟨w1, o1⟩
    · have o1 := o1 19 (by omega)
      have o1 : ∀ w u rd, pX9_takesNumber (M + 1) 0 999 19 text (nI n) (nI (a + 1)) w u rd = _ := o1
      obtain ⟨a2, nb2, f2, p2, bid2, g1, g2, g3, g4⟩ := bids_ok hN T q 8 1 (by omega) (by omega) M (M + 1) (by omega) (by omega) b (upd bid 0 (nI v)) (upd (upd rd 19 (nI v)) 3 1) n3 pk_us (fun j hj => by
        have e : j = 0 := by omega
        subst e
        rw [pk_us, pk_un (by omega), pk_us])
      have MM : ∀ w u, pX9_readBids (M + 1) text (nI n) (nI a) w u rd = pX9_readBids_L43 (M + 1) text (nI n) (M + 1) 1 (nI b) w (nI v) (upd (upd rd 19 (nI v)) 3 1) := by
        intro w u
        unfold pX9_readBids
        rw [h2, if_pos (show nI 0 ≤ (0 : Int32) by decide), nI_1, kb5_t' (o1 _ _ _)]
      refine ⟨a2, nb2, f2, p2, bid2, by omega, g2, C.trans g3, ?_⟩
      rcases g4 with ⟨q1, q2, q3, rd2, q4, q5, q6, q7⟩ | ⟨q1, q2⟩
      · refine Or.inl ⟨q1, q2, q3, rd2, fun w u => ?_, q5, q6, fun i hi hi2 => ?_⟩
        · rw [MM]; exact q4 w (nI v)
        · rw [q7 i hi hi2, pk_un hi, pk_un (by omega)]
      · refine Or.inr ⟨q1, fun w u => ?_⟩
        rw [MM]; exact q2 w (nI v)
    · obtain ⟨a2, nb2, bid2, g1, g2, g3, g4⟩ := cB_bad hN T (bids_bad hN T 8 (1 + 1) (by omega) (by omega) M (by omega)) q (upd bid 0 (nI v)) w1 n3 (nb := 1) (by omega)
      refine ⟨a2, nb2, f, q, bid2, by omega, g2, C.trans g4, Or.inr ⟨w1, fun w u => ?_⟩⟩
      obtain ⟨u2, o1⟩ := o1 19 (by omega) w u rd
      have o1 : pX9_takesNumber (M + 1) 0 999 19 text (nI n) (nI (a + 1)) w u rd = _ := o1
      unfold pX9_readBids
      rw [h2, if_pos (show nI 0 ≤ (0 : Int32) by decide), nI_1, kb5_t' o1, pX9_readBids_L43, if_pos rfl]
      unfold pX9_readBids_L108
      rw [if_pos rfl]
      exact ⟨_, _, rfl⟩
  · have hk0 : ¬ nI k ≤ (0 : Int32) := nI_ge (a := 0) (by omega) (by omega)
    obtain ⟨a2, nb2, bid2, g1, g2, g3, g4⟩ := bids_bad hN T 9 1 (by omega) (by omega) N (by omega) 1 (a + 1) k 3 (nI a) bid (by decide) (by omega) hk
    refine ⟨a2, nb2, 3, nI a, bid2, by omega, g2, ?_, Or.inr ⟨by decide, fun w u => ⟨u, rd, ?_⟩⟩⟩
    · unfold pX7_readBids pX7_readBids_L13
      rw [if_neg hk0, kb3_t (word1 a p)]
      exact g4
    · unfold pX9_readBids
      rw [h2, if_neg hk0, flt9, kb2_e, if_neg (show ¬ ¬ ((0 : Int32) = 0 ∨ (0 : Int32) = 1) by decide)]
