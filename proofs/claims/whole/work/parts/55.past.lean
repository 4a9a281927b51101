/-! ===== bits, counts ===== -/
def pc (q : Nat) : Nat := ((List.range 8).filter (fun k => q.testBit k)).length
theorem bitc : ∀ q, q < 256 → pJ6_bitCount_0f7a4 (nI q) = some (nI (pc q)) := by decide +kernel
theorem ones9_9 : ∀ q, q < 256 → pX9_ones_L4 9 0 (nI q) = some (nI (pc q)) := by decide +kernel
theorem pc_le (q : Nat) : pc q ≤ 8 := by
  unfold pc
  exact Nat.le_trans (List.length_filter_le _ _) (by rw [List.length_range]; exact Nat.le_refl 8)
theorem ones_more : ∀ (n : Nat) (v s x : Int32), pX9_ones_L4 n v s = some x → pX9_ones_L4 (n + 1) v s = some x := by
  intro n
  induction n with
  | zero => intro v s x h; exact absurd (show none = some _ from h) (by simp)
  | succ n ih =>
    intro v s x h
    rw [pX9_ones_L4] at h ⊢
    by_cases hs : s = 0
    · rw [if_pos hs] at h ⊢; exact h
    · rw [if_neg hs] at h ⊢; exact ih _ _ _ h
theorem ones_any {v s x : Int32} {n : Nat} (h : pX9_ones_L4 n v s = some x) : ∀ k, pX9_ones_L4 (n + k) v s = some x := by
  intro k
  induction k with
  | zero => exact h
  | succ k ih => exact ones_more _ _ _ _ ih
theorem ones9 {N : Nat} (hN : 20000 ≤ N) {q : Nat} (hq : q < 256) : pX9_ones N (nI q) = some (nI (pc q)) := by
  obtain ⟨k, rfl⟩ : ∃ k, N = 9 + k := ⟨N - 9, by omega⟩
  exact ones_any (ones9_9 q hq) k
theorem cost_eq {N : Nat} (hN : 20000 ≤ N) {price given : Int32} {st : Nat → Int32} {g : Nat} (hg : g < 64) (h14 : price = st 14) (h15 : given = st 15) (he : st 15 = nI g) : ∃ x, pX5_cost price given = some x ∧ pX9_cost N st = some x := by
  unfold pX5_cost pX9_cost
  rw [h14, h15, he, kb1_t (bitc g (by omega)), kb1_t (ones9 hN (by omega))]
  by_cases h : (0 : Int32) < st 14 - 10 * nI (pc g)
  · rw [if_pos h, if_pos (i_le_of_lt h)]; exact ⟨_, rfl, rfl⟩
  · rw [if_neg h]
    by_cases h2 : (0 : Int32) ≤ st 14 - 10 * nI (pc g)
    · rw [if_pos h2, i_asymm (i_nlt.mp h) h2]; exact ⟨_, rfl, rfl⟩
    · rw [if_neg h2]; exact ⟨_, rfl, rfl⟩
/-! ===== states are copied ===== -/
theorem rS_congr {nP nH : Nat} {v : krS} {f g : Nat → Int32} (h : rS nP nH v f) (hP : nP ≤ 6) (e : ∀ k, k < 17 → g k = f k) : rS nP nH v g := by
  obtain ⟨h1, h2, h3, h4, h5, h6, q, hq, h7⟩ := h
  refine ⟨fun j hj => ?_, by rw [e 12 (by omega)]; exact h2, by rw [e 13 (by omega)]; exact h3, by rw [e 14 (by omega)]; exact h4, by rw [e 15 (by omega)]; exact h5, by rw [e 16 (by omega)]; exact h6, q, hq, by rw [e 15 (by omega)]; exact h7⟩
  rw [e j (by omega), e (6 + j) (by omega)]
  exact h1 j hj
theorem rS_rows {nP nH : Nat} {p m c g f : Int32} {go go2 ra ra2 : Nat → Int32} {st : Nat → Int32} (h : rS nP nH (p, m, c, g, f, go, ra) st) (hP : nP ≤ 6) (e : ∀ k, k < 6 → go2 k = go k ∧ ra2 k = ra k) : rS nP nH (p, m, c, g, f, go2, ra2) st := by
  obtain ⟨h1, h2⟩ := h
  refine ⟨fun j hj => ?_, h2⟩
  obtain ⟨e1, e2⟩ := e j (by omega)
  obtain ⟨a, b, z⟩ := h1 j hj
  exact ⟨e1.trans a, e2.trans b, z⟩
theorem bec_loop {og orr : Nat → Int32} : ∀ (k i : Nat), i + k = 6 → ∀ (n : Nat), k < n → ∀ (p m c g f : Int32) (go ra : Nat → Int32), (∀ j, j < i → go j = og j ∧ ra j = orr j) → ∃ go2 ra2, pX5_become_L42 og orr n (nI i) p m c g f go ra = some (p, m, c, g, f, go2, ra2) ∧ ∀ j, j < 6 → go2 j = og j ∧ ra2 j = orr j := by
  intro k
  induction k with
  | zero =>
    intro i hi n hn p m c g f go ra h
    obtain ⟨n, rfl⟩ := fuel hn
    have e : i = 6 := by omega
    subst e
    refine ⟨go, ra, ?_, h⟩
    rw [pX5_become_L42, if_pos (by decide)]
  | succ k ih =>
    intro i hi n hn p m c g f go ra h
    obtain ⟨n, rfl⟩ := fuel hn
    have hle : ¬ (6 : Int32) ≤ nI i := nI_ge (b := 6) (by omega) (by decide)
    rw [pX5_become_L42, if_neg hle, if_neg (gI (n := 6) (by omega) (by decide)), nI_clamp (by omega), nI_1]
    refine ih (i + 1) (by omega) n (by omega) p m c g f _ _ (fun j hj => ?_)
    by_cases hji : j = i
    · subst hji; rw [pk_us, pk_us]; exact ⟨rfl, rfl⟩
    · rw [pk_un hji, pk_un hji]; exact h j (by omega)
theorem become_eq {N : Nat} (hN : 20000 ≤ N) (g0 r0 : Nat → Int32) (p m c g f : Int32) (go ra : Nat → Int32) : ∃ go2 ra2, pX5_become N g0 r0 p m c g f go ra = some (p, m, c, g, f, go2, ra2) ∧ ∀ j, j < 6 → go2 j = go j ∧ ra2 j = ra j :=
  bec_loop 6 0 (by omega) N (by omega) p m c g f g0 r0 (fun j hj => absurd hj (Nat.not_lt_zero j))
/-! ===== what is noted, and undone ===== -/
theorem nsub {a b : Nat} (h : b ≤ a) : nI a - nI b = nI (a - b) := pk_sub h
theorem note_loop {st : Nat → Int32} {c : Nat} (hc : c ≤ 19) : ∀ (k i : Nat), i + k = 17 → ∀ (n : Nat), k < n → ∀ (a : Nat → Int32), ∃ a2, pX9_note_L51 st n (nI i) a (nI c) = some (a2, nI (c + 1)) ∧ ∀ j, a2 j = if 17 * c + i ≤ j ∧ j < 17 * c + 17 then st (j - 17 * c) else a j := by
  intro k
  induction k with
  | zero =>
    intro i hi n hn a
    obtain ⟨n, rfl⟩ := fuel hn
    have e : i = 17 := by omega
    subst e
    refine ⟨a, ?_, fun j => by rw [if_neg (by omega)]⟩
    rw [pX9_note_L51, if_pos (by decide), nI_1]
  | succ k ih =>
    intro i hi n hn a
    obtain ⟨n, rfl⟩ := fuel hn
    have hle : ¬ (17 : Int32) ≤ nI i := nI_ge (b := 17) (by omega) (by decide)
    have e1 : (17 : Int32) * nI c + nI i = nI (17 * c + i) := by rw [nI_mk 17 c, nI_add]
    rw [pX9_note_L51, if_neg hle, if_neg (gI (n := 17) (by omega) (by decide)), e1, if_neg (gI (n := 340) (by omega) (by decide)), nI_clamp (by omega), nI_clamp (by omega), nI_1]
    obtain ⟨a2, h1, h2⟩ := ih (i + 1) (by omega) n (by omega) (upd a (17 * c + i) (st i))
    refine ⟨a2, h1, fun j => ?_⟩
    rw [h2 j]
    by_cases hj : j = 17 * c + i
    · subst hj
      rw [if_neg (by omega), if_pos (by omega), pk_us, Nat.add_sub_cancel_left]
    · by_cases hr : 17 * c + (i + 1) ≤ j ∧ j < 17 * c + 17
      · rw [if_pos hr, if_pos (by omega)]
      · rw [if_neg hr, if_neg (by omega), pk_un hj]
theorem shift_loop {N : Nat} {st : Nat → Int32} : ∀ (k i : Nat), i + k = 323 → ∀ (n : Nat), k < n → ∀ (a : Nat → Int32), ∃ a2, pX9_note_L11 N st (nI 20) n (nI i) a = pX9_note_L49 N st a2 (nI 20 - 1) ∧ ∀ j, a2 j = if i ≤ j ∧ j < 323 then a (j + 17) else a j := by
  intro k
  induction k with
  | zero =>
    intro i hi n hn a
    obtain ⟨n, rfl⟩ := fuel hn
    have e : i = 323 := by omega
    subst e
    refine ⟨a, ?_, fun j => by rw [if_neg (by omega)]⟩
    rw [pX9_note_L11, if_pos (by decide)]
  | succ k ih =>
    intro i hi n hn a
    obtain ⟨n, rfl⟩ := fuel hn
    have hle : ¬ (323 : Int32) ≤ nI i := nI_ge (b := 323) (by omega) (by decide)
    have e1 : nI i + (17 : Int32) = nI (i + 17) := nI_add i 17
    simp only [pX9_note_L11, kl]
    rw [if_neg hle, e1, if_neg (gI (n := 340) (by omega) (by decide)), if_neg (gI (n := 340) (by omega) (by decide)), nI_clamp (by omega), nI_clamp (by omega), nI_1]
    obtain ⟨a2, h1, h2⟩ := ih (i + 1) (by omega) n (by omega) (upd a i (a (i + 17)))
    refine ⟨a2, h1, fun j => ?_⟩
    rw [h2 j]
    by_cases hj : j = i
    · subst hj
      rw [if_neg (by omega), if_pos (by omega), pk_us]
    · by_cases hr : i + 1 ≤ j ∧ j < 323
      · rw [if_pos hr, if_pos (by omega), pk_un (by omega)]
      · rw [if_neg hr, if_neg (by omega), pk_un hj]
/-- note and push, on related rows -/
theorem push_note {N nP nH : Nat} (hN : 20000 ≤ N) (hP : nP ≤ 6) {next count many : Int32} {ps : Nat → krS} {ahead st : Nat → Int32} {p m c g f : Int32} {go ra : Nat → Int32} (h : rPa nP nH next count ps ahead many) (hs : rS nP nH (p, m, c, g, f, go, ra) st) :
    ∃ (zn zc : Int32) (zp : Nat → krS) (ya : Nat → Int32) (ym : Int32), pX2_push N next count ps p m c g f go ra = some (zn, zc, zp) ∧ pX9_note N st ahead many = some (ya, ym) ∧ rPa nP nH zn zc zp ya ym := by
  obtain ⟨a, cc, ha, hc, rfl, rfl, rfl, hr⟩ := h
  obtain ⟨go2, ra2, hb, hbe⟩ := become_eq hN (ps a).2.2.2.2.2.1 (ps a).2.2.2.2.2.2 p m c g f go ra
  have hs2 := rS_rows hs hP hbe
  have e1 : nI a + 1 - (nI a + 1) / 20 * 20 = nI ((a + 1) % 20) := by
    rw [nI_1]; exact pk_rem (d := 20) (by omega) (by decide) (by decide)
  have hpush : pX2_push N (nI a) (nI cc) ps p m c g f go ra = some (nI ((a + 1) % 20), nI (if cc < 20 then cc + 1 else 20), va_up ps a (p, m, c, g, f, go2, ra2)) := by
    unfold pX2_push
    simp only [kl]
    rw [if_neg (gI (n := 20) ha (by decide)), nI_clamp (by omega), kb7_t' hb, e1, nI_1]
    rcases Nat.lt_or_ge cc 19 with h9 | h9
    · rw [if_pos (show nI (cc + 1) < 20 from nI_lt (b := 20) (by omega) (by decide)), if_pos (by omega)]
    · rcases Nat.lt_or_ge cc 20 with h8 | h8
      · have e : cc = 19 := by omega
        subst e
        rw [if_neg (by decide), if_pos (by omega)]; rfl
      · have e : cc = 20 := by omega
        subst e
        rw [if_neg (by decide), if_neg (by omega)]; rfl
  rcases Nat.lt_or_ge cc 20 with hlt | hge
  · obtain ⟨a2, n1, n2⟩ := note_loop (st := st) (c := cc) (by omega) 17 0 (by omega) N (by omega) ahead
    have hnote : pX9_note N st ahead (nI cc) = some (a2, nI (cc + 1)) := by
      unfold pX9_note
      rw [if_neg (show ¬ nI cc = 20 from fun e => by have := nI_inj (b := 20) (by omega) (by decide) e; omega)]
      exact n1
    rw [if_pos hlt] at hpush
    refine ⟨_, _, _, _, _, hpush, hnote, (a + 1) % 20, cc + 1, by omega, by omega, rfl, rfl, rfl, fun i hi => ?_⟩
    by_cases hic : i = cc
    · subst hic
      have e2 : ((a + 1) % 20 + 20 - (i + 1) + i) % 20 = a := by omega
      rw [e2, va_up_self]
      refine rS_congr hs2 hP (fun k hk => ?_)
      rw [n2, if_pos (by omega), Nat.add_sub_cancel_left]
    · have e2 : ((a + 1) % 20 + 20 - (cc + 1) + i) % 20 = (a + 20 - cc + i) % 20 := by omega
      have e3 : (a + 20 - cc + i) % 20 ≠ a := by omega
      rw [e2, va_up_ne _ _ e3]
      refine rS_congr (hr i (by omega)) hP (fun k hk => ?_)
      rw [n2, if_neg (by omega)]
  · have e : cc = 20 := by omega
    subst e
    obtain ⟨b2, s1, s2⟩ := shift_loop (N := N) (st := st) 323 0 (by omega) N (by omega) ahead
    obtain ⟨a2, n1, n2⟩ := note_loop (st := st) (c := 19) (by omega) 17 0 (by omega) N (by omega) b2
    have hnote : pX9_note N st ahead (nI 20) = some (a2, nI 20) := by
      unfold pX9_note
      rw [if_pos (show nI 20 = 20 from rfl)]
      refine Eq.trans s1 ?_
      rw [show nI 20 - 1 = nI 19 from nI_pred 19]
      exact n1
    rw [if_neg (by omega)] at hpush
    refine ⟨_, _, _, _, _, hpush, hnote, (a + 1) % 20, 20, by omega, by omega, rfl, rfl, rfl, fun i hi => ?_⟩
    by_cases hic : i = 19
    · subst hic
      have e2 : ((a + 1) % 20 + 20 - 20 + 19) % 20 = a := by omega
      rw [e2, va_up_self]
      refine rS_congr hs2 hP (fun k hk => ?_)
      rw [n2, if_pos (by omega), Nat.add_sub_cancel_left]
    · have e2 : ((a + 1) % 20 + 20 - 20 + i) % 20 = (a + 20 - 20 + (i + 1)) % 20 := by omega
      have e3 : (a + 20 - 20 + (i + 1)) % 20 ≠ a := by omega
      rw [e2, va_up_ne _ _ e3]
      refine rS_congr (hr (i + 1) (by omega)) hP (fun k hk => ?_)
      rw [n2, if_neg (by omega), s2, if_pos (by omega)]
      congr 1
      omega
theorem undo_loop {ahead : Nat → Int32} {c : Nat} (hc : c ≤ 19) : ∀ (k i : Nat), i + k = 17 → ∀ (n : Nat), k < n → ∀ (st : Nat → Int32), ∃ s2, pX9_undo_L22 ahead n (nI i) st (nI c) = some (nI c, s2, nI c) ∧ ∀ j, s2 j = if i ≤ j ∧ j < 17 then ahead (17 * c + j) else st j := by
  intro k
  induction k with
  | zero =>
    intro i hi n hn st
    obtain ⟨n, rfl⟩ := fuel hn
    have e : i = 17 := by omega
    subst e
    refine ⟨st, ?_, fun j => by rw [if_neg (by omega)]⟩
    rw [pX9_undo_L22, if_pos (by decide)]
  | succ k ih =>
    intro i hi n hn st
    obtain ⟨n, rfl⟩ := fuel hn
    have hle : ¬ (17 : Int32) ≤ nI i := nI_ge (b := 17) (by omega) (by decide)
    have e1 : (17 : Int32) * nI c + nI i = nI (17 * c + i) := by rw [nI_mk 17 c, nI_add]
    simp only [pX9_undo_L22, kl]
    rw [if_neg hle, if_neg (gI (n := 17) (by omega) (by decide)), e1, if_neg (gI (n := 340) (by omega) (by decide)), nI_clamp (by omega), nI_clamp (by omega), nI_1]
    obtain ⟨a2, h1, h2⟩ := ih (i + 1) (by omega) n (by omega) (upd st i (ahead (17 * c + i)))
    refine ⟨a2, h1, fun j => ?_⟩
    rw [h2 j]
    by_cases hj : j = i
    · subst hj
      rw [if_neg (by omega), if_pos (by omega), pk_us]
    · by_cases hr : i + 1 ≤ j ∧ j < 17
      · rw [if_pos hr, if_pos (by omega)]
      · rw [if_neg hr, if_neg (by omega), pk_un hj]
