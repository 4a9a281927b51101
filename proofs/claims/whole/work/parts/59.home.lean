/-! ===== in which order they come home ===== -/
def tbOk (g h : Nat) : Bool := decide ((((nI g >>> (nI h &&& 31)) &&& 1) = 1) ↔ g.testBit h = true) && (!(g.testBit h) || (decide (nI g &&& (((1 : Int32) <<< (nI h &&& 31)) ^^^ (-1)) = nI (g - 2 ^ h)) && decide (pc (g - 2 ^ h) + 1 = pc g)))
theorem tb_all : (List.range 64).all (fun g => (List.range 6).all (fun h => tbOk g h)) = true := by decide +kernel
theorem tb_ok {g h : Nat} (hg : g < 64) (hh : h < 6) : ((((nI g >>> (nI h &&& 31)) &&& 1) = 1) ↔ g.testBit h = true) ∧ (g.testBit h = true → nI g &&& (((1 : Int32) <<< (nI h &&& 31)) ^^^ (-1)) = nI (g - 2 ^ h) ∧ pc (g - 2 ^ h) + 1 = pc g) := by
  have h1 := List.all_eq_true.mp tb_all g (List.mem_range.mpr hg)
  have h2 := List.all_eq_true.mp h1 h (List.mem_range.mpr hh)
  unfold tbOk at h2
  simp only [Bool.and_eq_true, decide_eq_true_eq, Bool.or_eq_true, Bool.not_eq_true'] at h2
  refine ⟨h2.1, fun ht => ?_⟩
  rcases h2.2 with z | z
  · rw [z] at ht; cases ht
  · exact z
theorem some_all : (List.range 7).all (fun n => (List.range (2 ^ n)).all (fun g => decide (g = 0) || (List.range n).any (fun h => g.testBit h))) = true := by decide +kernel
theorem some_bit {n g : Nat} (hn : n ≤ 6) (hg : g < 2 ^ n) (h0 : g ≠ 0) : ∃ h, h < n ∧ g.testBit h = true := by
  have h1 := List.all_eq_true.mp some_all n (List.mem_range.mpr (by omega))
  have h2 := List.all_eq_true.mp h1 g (List.mem_range.mpr hg)
  simp only [Bool.or_eq_true, decide_eq_true_eq, List.any_eq_true] at h2
  rcases h2 with z | ⟨h, z1, z2⟩
  · exact absurd z h0
  · exact ⟨h, List.mem_range.mp z1, z2⟩
theorem pc_all : (List.range 7).all (fun n => (List.range (2 ^ n)).all (fun g => decide (pc g ≤ n) && (decide (g = 0) || decide (0 < pc g)))) = true := by decide +kernel
theorem pc_n {n g : Nat} (hn : n ≤ 6) (hg : g < 2 ^ n) : pc g ≤ n ∧ (g ≠ 0 → 0 < pc g) := by
  have h1 := List.all_eq_true.mp pc_all n (List.mem_range.mpr (by omega))
  have h2 := List.all_eq_true.mp h1 g (List.mem_range.mpr hg)
  simp only [Bool.and_eq_true, Bool.or_eq_true, decide_eq_true_eq] at h2
  exact ⟨h2.1, fun z => h2.2.resolve_left z⟩
/-- the first of those who are soonest -/
def isB (g : Nat) (q : Nat → Nat) (lo hi b : Nat) : Prop := lo ≤ b ∧ b < hi ∧ g.testBit b = true ∧ ∀ h, lo ≤ h → h < hi → g.testBit h = true → q b ≤ q h ∧ (h < b → q b < q h)
theorem isB_one {g : Nat} {q : Nat → Nat} {lo hi a b : Nat} (ha : isB g q lo hi a) (hb : isB g q lo hi b) : a = b := by
  obtain ⟨a1, a2, a3, a4⟩ := ha
  obtain ⟨b1, b2, b3, b4⟩ := hb
  obtain ⟨x1, x2⟩ := a4 b b1 b2 b3
  obtain ⟨y1, y2⟩ := b4 a a1 a2 a3
  rcases Nat.lt_trichotomy a b with z | z | z
  · have := y2 z; omega
  · exact z
  · have := x2 z; omega
theorem soon8 {g nH : Nat} (hg : g < 64) (hH : nH ≤ 6) {q : Nat → Nat} {days : Nat → Int32} (hd : ∀ h, h < nH → q h ≤ 99 ∧ days h = nI (q h)) : ∀ (k i : Nat), i + k = nH → ∀ (n : Nat), k < n → ∀ (v2 v3 : Int32), ((v2 = 0 ∧ v3 = 1000000000 ∧ ∀ h, h < i → ¬ g.testBit h = true) ∨ ∃ b, isB g q 0 i b ∧ v2 = nI b ∧ v3 = nI (q b)) → ∃ r, pX8_soonest_L9 (nI g) (nI nH) days n v2 v3 (nI i) = some r ∧ ((∀ h, h < nH → ¬ g.testBit h = true) ∨ ∃ b, isB g q 0 nH b ∧ r = nI b) := by
  intro k
  induction k with
  | zero =>
    intro i hi n hn v2 v3 hS
    obtain ⟨n, rfl⟩ := fuel hn
    have e : i = nH := by omega
    subst e
    refine ⟨v2, ?_, ?_⟩
    · rw [pX8_soonest_L9, if_pos (nI_le (Nat.le_refl _) (by omega))]
    · rcases hS with ⟨-, -, z⟩ | ⟨b, z1, z2, -⟩
      · exact Or.inl z
      · exact Or.inr ⟨b, z1, z2⟩
  | succ k ih =>
    intro i hi n hn v2 v3 hS
    obtain ⟨n, rfl⟩ := fuel hn
    have hle : ¬ nI nH ≤ nI i := nI_ge (by omega) (by omega)
    have tb := (tb_ok hg (show i < 6 by omega)).1
    obtain ⟨hq, hdi⟩ := hd i (by omega)
    rw [pX8_soonest_L9, if_neg hle]
    unfold pX8_soonest_L58
    rw [nI_1]
    by_cases hb : g.testBit i = true
    · rw [if_neg (fun z => bit0.mp z (tb.mpr hb)), if_neg (gI (n := 6) (by omega) (by decide)), nI_clamp (by omega), hdi]
      rcases hS with ⟨e1, e2, z⟩ | ⟨b, z1, e1, e2⟩
      · subst e1 e2
        have hlt : ¬ (1000000000 : Int32) ≤ nI (q i) := by
          rw [fa_le, nI_toInt (by omega)]
          have : (1000000000 : Int32).toInt = 1000000000 := by decide
          omega
        rw [if_neg hlt]
        refine ih (i + 1) (by omega) n (by omega) _ _ (Or.inr ⟨i, ⟨Nat.zero_le _, by omega, hb, fun h _ hh hbh => ?_⟩, rfl, rfl⟩)
        have : h = i := by
          rcases Nat.lt_or_ge h i with y | y
          · exact absurd hbh (z h y)
          · omega
        subst this
        exact ⟨Nat.le_refl _, fun y => absurd y (Nat.lt_irrefl _)⟩
      · subst e1 e2
        obtain ⟨b1, b2, b3, b4⟩ := z1
        obtain ⟨hqb, -⟩ := hd b (by omega)
        by_cases hc : q b ≤ q i
        · rw [if_pos (nI_le hc (by omega))]
          refine ih (i + 1) (by omega) n (by omega) _ _ (Or.inr ⟨b, ⟨b1, by omega, b3, fun h h0 hh hbh => ?_⟩, rfl, rfl⟩)
          rcases Nat.lt_or_ge h i with y | y
          · exact b4 h h0 y hbh
          · have : h = i := by omega
            subst this
            exact ⟨hc, fun y => by omega⟩
        · rw [if_neg (nI_ge (by omega) (by omega))]
          refine ih (i + 1) (by omega) n (by omega) _ _ (Or.inr ⟨i, ⟨Nat.zero_le _, by omega, hb, fun h h0 hh hbh => ?_⟩, rfl, rfl⟩)
          rcases Nat.lt_or_ge h i with y | y
          · have := (b4 h h0 y hbh).1
            exact ⟨by omega, fun _ => by omega⟩
          · have : h = i := by omega
            subst this
            exact ⟨Nat.le_refl _, fun y => absurd y (Nat.lt_irrefl _)⟩
    · rw [if_pos (bit0.mpr (fun z => hb (tb.mp z)))]
      refine ih (i + 1) (by omega) n (by omega) _ _ ?_
      rcases hS with ⟨e1, e2, z⟩ | ⟨b, ⟨b1, b2, b3, b4⟩, e1, e2⟩
      · refine Or.inl ⟨e1, e2, fun h hh hbh => ?_⟩
        rcases Nat.lt_or_ge h i with y | y
        · exact z h y hbh
        · have : h = i := by omega
          subst this
          exact hb hbh
      · refine Or.inr ⟨b, ⟨b1, by omega, b3, fun h h0 hh hbh => ?_⟩, e1, e2⟩
        rcases Nat.lt_or_ge h i with y | y
        · exact b4 h h0 y hbh
        · have : h = i := by omega
          subst this
          exact absurd hbh hb
/-- what one turn of the reference's comes to -/
def hStep (k19 : Int32 → Int32 → Int32 → Int32 → Int32 → Option Int32) (x1 v3 v4 v5 v6 : Int32) (g b : Nat) (d : Int32) : Option Int32 := k19 (nI (g - 2 ^ b)) (v3 + d) (v4 + (v3 + d)) (if v6 = x1 then nI b else v5) (v6 + 1)
theorem soon9 {g nH : Nat} (hg : g < 64) (hH : nH ≤ 6) {q : Nat → Nat} {told : Nat → Int32} (hd : ∀ h, h < nH → q h ≤ 99 ∧ told (28 + h) = nI (q h)) (hne : ∃ h, h < nH ∧ g.testBit h = true) (k19 : Int32 → Int32 → Int32 → Int32 → Int32 → Option Int32) (x1 v3 v4 v5 v6 : Int32) : ∀ (i : Nat), i ≤ nH → ∀ (n : Nat), i < n → ∀ (v7 : Int32), ((v7 = -1 ∧ ∀ h, i ≤ h → h < nH → ¬ g.testBit h = true) ∨ ∃ b, isB g q i nH b ∧ v7 = nI b) → ∃ b, isB g q 0 nH b ∧ pX9_homeOrder_L36 k19 x1 told n (nI g) v3 v4 v5 v6 v7 (nI i - 1) = hStep k19 x1 v3 v4 v5 v6 g b (told (28 + b)) := by
  intro i
  induction i with
  | zero =>
    intro hi n hn v7 hS
    obtain ⟨n, rfl⟩ := fuel hn
    rcases hS with ⟨-, z⟩ | ⟨b, hb, rfl⟩
    · obtain ⟨h, h1, h2⟩ := hne
      exact absurd h2 (z h (Nat.zero_le _) h1)
    · refine ⟨b, hb, ?_⟩
      obtain ⟨b1, b2, b3, b4⟩ := hb
      have e28 : (28 : Int32) + nI b = nI (28 + b) := nI_k 28 b
      obtain ⟨r1, r2⟩ := (tb_ok hg (show b < 6 by omega)).2 b3
      simp only [pX9_homeOrder_L36, kl]
      rw [if_pos (show nI 0 - 1 < 0 by decide), e28, if_neg (gI (n := 37) (by omega) (by decide)), nI_clamp (by omega), r1]
      unfold pX9_homeOrder_L134 hStep
      by_cases hx : v6 = x1
      · rw [if_pos hx, if_pos hx]
      · rw [if_neg hx, if_neg hx]
  | succ i ih =>
    intro hi n hn v7 hS
    obtain ⟨n, rfl⟩ := fuel hn
    have tb := (tb_ok hg (show i < 6 by omega)).1
    have e28 : (28 : Int32) + nI i = nI (28 + i) := nI_k 28 i
    obtain ⟨hq, hdi⟩ := hd i (by omega)
    rw [nI_pred, pX9_homeOrder_L36, if_neg (nI_pos (by omega)), kb1_t (has9 (nI g) (nI i))]
    unfold pX9_homeOrder_L83 pX9_homeOrder_L78 pX9_homeOrder_L85
    rw [addm1]
    by_cases hb : g.testBit i = true
    · rw [bI_t (tb.mpr hb), if_neg (show ¬ (1 : Int32) = 0 by decide)]
      have take : ∀ (w : ∀ h, i + 1 ≤ h → h < nH → g.testBit h = true → q i ≤ q h), isB g q i nH i := fun w => ⟨Nat.le_refl _, by omega, hb, fun h h0 h1 h2 => by
        rcases Nat.lt_or_ge i h with y | y
        · exact ⟨w h (by omega) h1 h2, fun y2 => by omega⟩
        · have : h = i := by omega
          subst this
          exact ⟨Nat.le_refl _, fun y => absurd y (Nat.lt_irrefl _)⟩⟩
      rcases hS with ⟨rfl, z⟩ | ⟨b, ⟨b1, b2, b3, b4⟩, rfl⟩
      · rw [if_pos (show (-1 : Int32) < 0 by decide)]
        exact ih (by omega) n (by omega) _ (Or.inr ⟨i, take (fun h h0 h1 h2 => absurd h2 (z h h0 h1)), rfl⟩)
      · obtain ⟨hqb, hdb⟩ := hd b b2
        have e28b : (28 : Int32) + nI b = nI (28 + b) := nI_k 28 b
        rw [if_neg (nI_pos (n := b) (by omega)), e28, e28b, if_neg (gI (n := 37) (by omega) (by decide)), if_neg (gI (n := 37) (by omega) (by decide)), nI_clamp (by omega), nI_clamp (by omega), hdi, hdb]
        by_cases hc : q b < q i
        · rw [if_pos (nI_lt hc (by omega))]
          refine ih (by omega) n (by omega) _ (Or.inr ⟨b, ⟨by omega, b2, b3, fun h h0 h1 h2 => ?_⟩, rfl⟩)
          rcases Nat.lt_or_ge i h with y | y
          · exact b4 h (by omega) h1 h2
          · have : h = i := by omega
            subst this
            exact ⟨by omega, fun _ => hc⟩
        · rw [if_neg (nI_nlt (by omega) (by omega))]
          exact ih (by omega) n (by omega) _ (Or.inr ⟨i, take (fun h h0 h1 h2 => by have := (b4 h h0 h1 h2).1; omega), rfl⟩)
    · rw [bI_f (fun z => hb (tb.mp z)), if_pos rfl]
      refine ih (by omega) n (by omega) _ ?_
      rcases hS with ⟨e, z⟩ | ⟨b, ⟨b1, b2, b3, b4⟩, e⟩
      · refine Or.inl ⟨e, fun h h0 h1 h2 => ?_⟩
        rcases Nat.lt_or_ge i h with y | y
        · exact z h (by omega) h1 h2
        · have : h = i := by omega
          subst this
          exact hb h2
      · refine Or.inr ⟨b, ⟨by omega, b2, b3, fun h h0 h1 h2 => ?_⟩, e⟩
        rcases Nat.lt_or_ge i h with y | y
        · exact b4 h (by omega) h1 h2
        · have : h = i := by omega
          subst this
          exact absurd h2 hb
/-- one turn of both -/
theorem turn {N g nH : Nat} (hN : 20000 ≤ N) (hH : nH ≤ 6) (hg : g < 2 ^ nH) (h0 : g ≠ 0) {days told : Nat → Int32} (hd : ∀ j, j < nH → days j = told (28 + j) ∧ ∃ q : Nat, q ≤ 99 ∧ told (28 + j) = nI q) : ∃ b, b < nH ∧ g.testBit b = true ∧ pX8_soonest N (nI g) (nI nH) days = some (nI b) ∧ ∀ (k19 : Int32 → Int32 → Int32 → Int32 → Int32 → Option Int32) (x1 v3 v4 v5 v6 : Int32), pX9_homeOrder_L36 k19 x1 told N (nI g) v3 v4 v5 v6 (-1) (nI nH - 1) = hStep k19 x1 v3 v4 v5 v6 g b (told (28 + b)) := by
  have hg64 := g64 hH hg
  have hq : ∀ h, h < nH → (told (28 + h)).toNatClampNeg ≤ 99 ∧ told (28 + h) = nI (told (28 + h)).toNatClampNeg := fun h hh => by
    obtain ⟨-, q, hq, e⟩ := hd h hh
    rw [e, nI_clamp (by omega)]
    exact ⟨hq, rfl⟩
  have hne := some_bit hH hg h0
  obtain ⟨r, s1, s2⟩ := soon8 (q := fun h => (told (28 + h)).toNatClampNeg) (days := days) hg64 hH (fun h hh => ⟨(hq h hh).1, by rw [(hd h hh).1]; exact (hq h hh).2⟩) nH 0 (by omega) N (by omega) 0 1000000000 (Or.inl ⟨rfl, rfl, fun h hh => absurd hh (Nat.not_lt_zero h)⟩)
  rcases s2 with z | ⟨b, hb, rfl⟩
  · obtain ⟨h, h1, h2⟩ := hne
    exact absurd h2 (z h h1)
  · refine ⟨b, hb.2.1, hb.2.2.1, s1, fun k19 x1 v3 v4 v5 v6 => ?_⟩
    obtain ⟨b2, hb2, e⟩ := soon9 (q := fun h => (told (28 + h)).toNatClampNeg) hg64 hH hq hne k19 x1 v3 v4 v5 v6 nH (Nat.le_refl _) N (by omega) (-1) (Or.inl ⟨rfl, fun h h1 h2 => absurd h1 (by omega)⟩)
    rw [isB_one hb hb2]
    exact e
theorem nI_nm1 {x : Nat} (hx : x < 2 ^ 31) : ¬ nI x = -1 := fun e => by
  have h1 := nI_toInt hx
  rw [e] at h1
  have e2 : (-1 : Int32).toInt = -1 := by decide
  omega
theorem home_done {N nH : Nat} (hN : 20000 ≤ N) (hH : nH ≤ 6) {days told : Nat → Int32} (h4 : told 4 = nI nH) (hd : ∀ j, j < nH → days j = told (28 + j) ∧ ∃ q : Nat, q ≤ 99 ∧ told (28 + j) = nI q) {x : Nat} (hx : x < 50) : ∀ (k g : Nat), g < 2 ^ nH → pc g = k → ∀ (n : Nat), k < n → ∀ (t : Nat), x < t → t + k ≤ 50 → ∀ (v3 v4 v5 : Int32), pX9_homeOrder_L19 N (nI x) told n (nI g) v3 v4 v5 (nI t) = some v5 := by
  intro k
  induction k with
  | zero =>
    intro g hg hk n hn t ht ht2 v3 v4 v5
    obtain ⟨n, rfl⟩ := fuel hn
    have hg0 : g = 0 := by
      rcases Nat.eq_zero_or_pos g with z | z
      · exact z
      · have := (pc_n hH hg).2 (by omega); omega
    subst hg0
    rw [pX9_homeOrder_L19, if_pos (show nI 0 = 0 from rfl), if_neg (nI_nm1 (by omega))]
  | succ k ih =>
    intro g hg hk n hn t ht ht2 v3 v4 v5
    obtain ⟨n, rfl⟩ := fuel hn
    have hg64 := g64 hH hg
    have h0 : g ≠ 0 := fun e => by
      subst e
      have : pc 0 = 0 := by decide
      omega
    obtain ⟨b, hb, hbt, -, hm⟩ := turn hN hH hg h0 hd
    obtain ⟨-, r2⟩ := (tb_ok hg64 (show b < 6 by omega)).2 hbt
    rw [pX9_homeOrder_L19, if_neg (nI_ne0 (by omega) (by omega)), h4, hm]
    unfold hStep
    rw [if_neg (show ¬ nI t = nI x from fun e => by have := nI_inj (by omega) (by omega) e; omega), nI_1]
    exact ih (g - 2 ^ b) (Nat.lt_of_le_of_lt (Nat.sub_le _ _) hg) (by omega) n (by omega) (t + 1) (by omega) (by omega) _ _ _
theorem home_sim {N nH : Nat} (hN : 20000 ≤ N) (hH : nH ≤ 6) {days told : Nat → Int32} (h4 : told 4 = nI nH) (hd : ∀ j, j < nH → days j = told (28 + j) ∧ ∃ q : Nat, q ≤ 99 ∧ told (28 + j) = nI q) (x1 : Int32) : ∀ (k g : Nat), g < 2 ^ nH → pc g = k → ∀ (n m : Nat), k < n → k < m → ∀ (t : Nat), t + k ≤ 6 → ∀ (v3 v4 : Int32), ∃ r, pX8_homeOrder_L16 N x1 (nI nH) days n (nI g) v3 v4 (nI t) = some r ∧ pX9_homeOrder_L19 N x1 told m (nI g) v3 v4 (-1) (nI t) = some r := by
  intro k
  induction k with
  | zero =>
    intro g hg hk n m hn hm t ht v3 v4
    obtain ⟨n, rfl⟩ := fuel hn
    obtain ⟨m, rfl⟩ := fuel hm
    have hg0 : g = 0 := by
      rcases Nat.eq_zero_or_pos g with z | z
      · exact z
      · have := (pc_n hH hg).2 (by omega); omega
    subst hg0
    rw [pX8_homeOrder_L16, pX9_homeOrder_L19, if_pos (show nI 0 = 0 from rfl), if_pos (show nI 0 = 0 from rfl)]
    unfold pX8_homeOrder_L77
    by_cases h6 : (6 : Int32) ≤ nI t
    · rw [if_pos h6]
      by_cases hx : x1 = -1
      · rw [if_pos hx]; exact ⟨_, rfl, rfl⟩
      · rw [if_neg hx]; exact ⟨_, rfl, rfl⟩
    · rw [if_neg h6]
      by_cases hx : x1 = -1
      · rw [if_pos hx]; exact ⟨_, rfl, rfl⟩
      · rw [if_neg hx]; exact ⟨_, rfl, rfl⟩
  | succ k ih =>
    intro g hg hk n m hn hm t ht v3 v4
    obtain ⟨n, rfl⟩ := fuel hn
    obtain ⟨m, rfl⟩ := fuel hm
    have hg64 := g64 hH hg
    have h0 : g ≠ 0 := fun e => by
      subst e
      have : pc 0 = 0 := by decide
      omega
    obtain ⟨b, hb, hbt, hc, hm2⟩ := turn hN hH hg h0 hd
    obtain ⟨r1, r2⟩ := (tb_ok hg64 (show b < 6 by omega)).2 hbt
    have hne : ¬ nI g = 0 := nI_ne0 (by omega) (by omega)
    simp only [pX8_homeOrder_L16, pX9_homeOrder_L19, kl]
    rw [if_neg (show ¬ (6 : Int32) ≤ nI t from nI_ge (b := 6) (by omega) (by decide)), if_neg hne, if_neg hne, kb1_t hc, h4, hm2]
    unfold hStep
    by_cases hx : nI t = x1
    · rw [if_pos hx, if_pos hx, nI_1]
      refine ⟨nI b, rfl, ?_⟩
      rw [← hx]
      exact home_done hN hH h4 hd (by omega) k (g - 2 ^ b) (Nat.lt_of_le_of_lt (Nat.sub_le _ _) hg) (by omega) m (by omega) (t + 1) (by omega) (by omega) _ _ _
    · rw [if_neg hx, if_neg hx, if_neg (gI (n := 6) (by omega) (by decide)), nI_clamp (by omega), r1, (hd b hb).1, nI_1]
      exact ih (g - 2 ^ b) (Nat.lt_of_le_of_lt (Nat.sub_le _ _) hg) (by omega) n m (by omega) (by omega) (t + 1) (by omega) _ _
theorem op_homeOrder {N nP nB nH nG : Nat} {kr_drawn : Int32} {tx_signs : Nat → Int32} {tx_length : Int32} {tx_place : Int32} {tl_stands : Int32} {tl_death : Int32} {tl_payers : Int32} {tl_bids : Int32} {tl_hostages : Int32} {tl_bags : Int32} {tl_bagMarks : Int32} {tl_shy : Nat → Int32} {tl_bidOf : Nat → Int32} {tl_daysOf : Nat → Int32} {nw_price : Int32} {nw_months : Int32} {nw_chest : Int32} {nw_given : Int32} {nw_fate : Int32} {nw_goods : Nat → Int32} {nw_rates : Nat → Int32} {pa_next : Int32} {pa_count : Int32} {ps : Nat → krS} {i0_held : Int32} {i0_drawn : Int32} {i0s_price : Int32} {i0s_months : Int32} {i0s_chest : Int32} {i0s_given : Int32} {i0s_fate : Int32} {i0s_goods : Nat → Int32} {i0s_rates : Nat → Int32} {i1_held : Int32} {i1_drawn : Int32} {i1s_price : Int32} {i1s_months : Int32} {i1s_chest : Int32} {i1s_given : Int32} {i1s_fate : Int32} {i1s_goods : Nat → Int32} {i1s_rates : Nat → Int32} {sc_sets : Nat → Int32} {sc_weights : Nat → Int32} {sc_count : Int32} {bk_whose : Nat → Int32} {bk_goods : Nat → Int32} {bk_count : Int32} {mo_told : Nat → Int32} {mo_st : Nat → Int32} {mo_isThere : Int32} {mo_seed : Int32} {mo_text : Nat → Int32} {mo_typed : Int32} {mo_faultAt : Int32} {mo_ahead : Nat → Int32} {mo_undoMany : Int32} {mo_weighings : Nat → Int32} {mo_weighed : Int32} {mo_book : Nat → Int32} {mo_entries : Int32} {mo_isKept : Nat → Int32} {mo_kept : Nat → Int32} {mo_seeds : Nat → Int32} (hN : 20000 ≤ N) (h : Rel nP nB nH nG kr_drawn tx_signs tx_length tx_place tl_stands tl_death tl_payers tl_bids tl_hostages tl_bags tl_bagMarks tl_shy tl_bidOf tl_daysOf nw_price nw_months nw_chest nw_given nw_fate nw_goods nw_rates pa_next pa_count ps i0_held i0_drawn i0s_price i0s_months i0s_chest i0s_given i0s_fate i0s_goods i0s_rates i1_held i1_drawn i1s_price i1s_months i1s_chest i1s_given i1s_fate i1s_goods i1s_rates sc_sets sc_weights sc_count bk_whose bk_goods bk_count mo_told mo_st mo_isThere mo_seed mo_text mo_typed mo_faultAt mo_ahead mo_undoMany mo_weighings mo_weighed mo_book mo_entries mo_isKept mo_kept mo_seeds) (x1 : Int32) : ∃ (r : Int32), pX8_homeOrder N x1 tl_hostages tl_daysOf nw_given = some (r) ∧ pX9_homeOrder N x1 mo_told mo_st = some (r) ∧ Rel nP nB nH nG kr_drawn tx_signs tx_length tx_place tl_stands tl_death tl_payers tl_bids tl_hostages tl_bags tl_bagMarks tl_shy tl_bidOf tl_daysOf nw_price nw_months nw_chest nw_given nw_fate nw_goods nw_rates pa_next pa_count ps i0_held i0_drawn i0s_price i0s_months i0s_chest i0s_given i0s_fate i0s_goods i0s_rates i1_held i1_drawn i1s_price i1s_months i1s_chest i1s_given i1s_fate i1s_goods i1s_rates sc_sets sc_weights sc_count bk_whose bk_goods bk_count mo_told mo_st mo_isThere mo_seed mo_text mo_typed mo_faultAt mo_ahead mo_undoMany mo_weighings mo_weighed mo_book mo_entries mo_isKept mo_kept mo_seeds := by
  have hh := h
  obtain ⟨-, ⟨-, -, -, -, -, ⟨a4, b4, hH⟩, -, -, -, -, hd⟩, ⟨-, -, -, -, e15, -, g, hg, s7⟩, -⟩ := h
  subst a4
  dsimp only at e15
  have hp := pc_n hH hg
  obtain ⟨r, c1, c2⟩ := home_sim hN hH b4 hd x1 (pc g) g hg rfl N N (by omega) (by omega) 0 (by omega) 0 0
  refine ⟨r, ?_, ?_, hh⟩
  · unfold pX8_homeOrder
    rw [e15, s7]
    exact c1
  · unfold pX9_homeOrder
    rw [s7]
    exact c2
