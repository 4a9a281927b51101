/-! ===== from clause to clause ===== -/
theorem kb15_t' {t0 t1 t2 t3 t4 t5 t6 t7 t8 t9 t10 t11 t12 t13 t14 ρ : Type} {o : Option (t0 × t1 × t2 × t3 × t4 × t5 × t6 × t7 × t8 × t9 × t10 × t11 × t12 × t13 × t14)} {x0 : t0} {x1 : t1} {x2 : t2} {x3 : t3} {x4 : t4} {x5 : t5} {x6 : t6} {x7 : t7} {x8 : t8} {x9 : t9} {x10 : t10} {x11 : t11} {x12 : t12} {x13 : t13} {x14 : t14} {f : t0 → t1 → t2 → t3 → t4 → t5 → t6 → t7 → t8 → t9 → t10 → t11 → t12 → t13 → t14 → Option ρ} (h : o = some (x0, x1, x2, x3, x4, x5, x6, x7, x8, x9, x10, x11, x12, x13, x14)) : kb15 o f = f x0 x1 x2 x3 x4 x5 x6 x7 x8 x9 x10 x11 x12 x13 x14 := by rw [h]; rfl
theorem kb16_t' {t0 t1 t2 t3 t4 t5 t6 t7 t8 t9 t10 t11 t12 t13 t14 t15 ρ : Type} {o : Option (t0 × t1 × t2 × t3 × t4 × t5 × t6 × t7 × t8 × t9 × t10 × t11 × t12 × t13 × t14 × t15)} {x0 : t0} {x1 : t1} {x2 : t2} {x3 : t3} {x4 : t4} {x5 : t5} {x6 : t6} {x7 : t7} {x8 : t8} {x9 : t9} {x10 : t10} {x11 : t11} {x12 : t12} {x13 : t13} {x14 : t14} {x15 : t15} {f : t0 → t1 → t2 → t3 → t4 → t5 → t6 → t7 → t8 → t9 → t10 → t11 → t12 → t13 → t14 → t15 → Option ρ} (h : o = some (x0, x1, x2, x3, x4, x5, x6, x7, x8, x9, x10, x11, x12, x13, x14, x15)) : kb16 o f = f x0 x1 x2 x3 x4 x5 x6 x7 x8 x9 x10 x11 x12 x13 x14 x15 := by rw [h]; rfl
theorem L25_stop {N n : Nat} {signs : Nat → Int32} {m v a : Nat} {f p stands price death payers bids hostages bags marks : Int32} {goods shy bidOf daysOf : Nat → Int32} (h : ¬ f = 0 ∨ n ≤ a) (ha : a < 2 ^ 31) : pX7_readInto_L25 N signs (nI n) (m + 1) (nI v) (nI a) f p stands price death payers bids hostages bags marks goods shy bidOf daysOf = some (0, nI a, f, p, stands, price, death, payers, bids, hostages, bags, marks, goods, shy, bidOf, daysOf) := by
  rw [pX7_readInto_L25]
  unfold pX7_readInto_L65
  by_cases h1 : (240 : Int32) ≤ nI v
  · rw [if_pos h1]
  · rw [if_neg h1]
    by_cases h2 : nI n ≤ nI a
    · rw [if_pos h2]
    · rw [if_neg h2]
      rcases h with h | h
      · rw [if_neg h]
      · exact absurd (nI_le h ha) h2
theorem loop_eq {N n : Nat} {signs text : Nat → Int32} (hN : 20000 ≤ N) (T : Txt n signs text) (p : Int32) : ∀ (k a : Nat), a ≤ n → n ≤ a + k → ∀ (v m1 m2 pl : Nat), v ≤ a → k + 1 < m1 → k + 1 < m2 → pl ≤ n → nx text n pl = a → ∀ (nP nB nH nG : Nat) (price death payers bids hostages bags marks : Int32) (goods shy bidOf daysOf rd : Nat → Int32), Rd nP nB nH nG price death payers bids hostages bags marks goods shy bidOf daysOf rd → ∀ (w u : Int32),
    ∃ (a2 : Int32) (f2 p2 price2 death2 payers2 bids2 hostages2 bags2 marks2 : Int32) (goods2 shy2 bidOf2 daysOf2 : Nat → Int32), pX7_readInto_L25 N signs (nI n) m1 (nI v) (nI a) 0 p 1 price death payers bids hostages bags marks goods shy bidOf daysOf = some (0, a2, f2, p2, 1, price2, death2, payers2, bids2, hostages2, bags2, marks2, goods2, shy2, bidOf2, daysOf2) ∧
      ((f2 = 0 ∧ p2 = p ∧ ∃ (qP qB qH qG : Nat) (rd2 : Nat → Int32) (pl2 u2 : Int32), Rd qP qB qH qG price2 death2 payers2 bids2 hostages2 bags2 marks2 goods2 shy2 bidOf2 daysOf2 rd2 ∧ rd2 0 = rd 0 ∧ pX9_readText_L82 N text (nI n) m2 1 (nI pl) w u rd = some (1, pl2, w, u2, rd2)) ∨ (¬ f2 = 0 ∧ ∃ u2 rd2, pX9_readText_L82 N text (nI n) m2 1 (nI pl) w u rd = some (0, p2, f2, u2, rd2))) := by
  have T1 := T.1
  have stop : ∀ (a : Nat), a = n → ∀ (v m1 m2 pl : Nat), 0 < m1 → 0 < m2 → pl ≤ n → nx text n pl = a → ∀ (nP nB nH nG : Nat) (price death payers bids hostages bags marks : Int32) (goods shy bidOf daysOf rd : Nat → Int32), Rd nP nB nH nG price death payers bids hostages bags marks goods shy bidOf daysOf rd → ∀ (w u : Int32),
    ∃ (a2 : Int32) (f2 p2 price2 death2 payers2 bids2 hostages2 bags2 marks2 : Int32) (goods2 shy2 bidOf2 daysOf2 : Nat → Int32), pX7_readInto_L25 N signs (nI n) m1 (nI v) (nI a) 0 p 1 price death payers bids hostages bags marks goods shy bidOf daysOf = some (0, a2, f2, p2, 1, price2, death2, payers2, bids2, hostages2, bags2, marks2, goods2, shy2, bidOf2, daysOf2) ∧
      ((f2 = 0 ∧ p2 = p ∧ ∃ (qP qB qH qG : Nat) (rd2 : Nat → Int32) (pl2 u2 : Int32), Rd qP qB qH qG price2 death2 payers2 bids2 hostages2 bags2 marks2 goods2 shy2 bidOf2 daysOf2 rd2 ∧ rd2 0 = rd 0 ∧ pX9_readText_L82 N text (nI n) m2 1 (nI pl) w u rd = some (1, pl2, w, u2, rd2)) ∨ (¬ f2 = 0 ∧ ∃ u2 rd2, pX9_readText_L82 N text (nI n) m2 1 (nI pl) w u rd = some (0, p2, f2, u2, rd2))) := by
    intro a ha v m1 m2 pl hm1 hm2 hpl hnx nP nB nH nG price death payers bids hostages bags marks goods shy bidOf daysOf rd R w u
    obtain ⟨m1, rfl⟩ := fuel hm1
    obtain ⟨m2, rfl⟩ := fuel hm2
    refine ⟨nI a, 0, p, price, death, payers, bids, hostages, bags, marks, goods, shy, bidOf, daysOf, L25_stop (Or.inr (by omega)) (by omega), Or.inl ⟨rfl, rfl, nP, nB, nH, nG, rd, nI a, u, R, rfl, ?_⟩⟩
    rw [pX9_readText_L82, if_neg (show ¬ (1 : Int32) = 0 by decide), kb2_t (next9 hN T hpl), hnx, sg_ge (by omega), if_pos (show (-1 : Int32) < 0 by decide), if_neg (u_ok rfl)]
  intro k
  induction k with
  | zero =>
    intro a ha hk v m1 m2 pl hv hm1 hm2 hpl hnx
    exact stop a (by omega) v m1 m2 pl (by omega) (by omega) hpl hnx
  | succ k ih =>
    intro a ha hk v m1 m2 pl hv hm1 hm2 hpl hnx
    by_cases han : a = n
    · exact stop a han v m1 m2 pl (by omega) (by omega) hpl hnx
    · intro nP nB nH nG price death payers bids hostages bags marks goods shy bidOf daysOf rd R w u
      obtain ⟨m1, rfl⟩ := fuel hm1
      obtain ⟨m2, rfl⟩ := fuel hm2
      have hlt : a < n := by omega
      have hx : ¬ text a = 32 := by
        have := (nx_le (text := text) hpl).2.2
        rw [hnx] at this
        exact this hlt
      obtain ⟨q, hq, eq⟩ := (T.2 a hlt).2
      obtain ⟨a2, f2, p2, price2, death2, payers2, bids2, hostages2, bags2, marks2, goods2, shy2, bidOf2, daysOf2, g1, g2, g3, g4⟩ := clause_eq hN T hlt hx p R
      have C : pX7_readInto_L25 N signs (nI n) (m1 + 1) (nI v) (nI a) 0 p 1 price death payers bids hostages bags marks goods shy bidOf daysOf = pX7_readInto_L25 N signs (nI n) m1 (nI (v + 1)) (nI (nx text n a2)) f2 p2 1 price2 death2 payers2 bids2 hostages2 bags2 marks2 goods2 shy2 bidOf2 daysOf2 := by
        rw [pX7_readInto_L25, if_neg (k240n (by omega)), if_neg (nI_ge hlt (by omega)), if_pos rfl, kb15_t' g3, kb1_t (skip8 hN T g2), nI_1]
      have M : pX9_readText_L82 N text (nI n) (m2 + 1) 1 (nI pl) w u rd = kb5 (pX9_readClause N text (nI n) (nI a) w u rd) fun r8 w9 w10 w11 w12 => pX9_readText_L82 N text (nI n) m2 r8 w9 w10 w11 w12 := by
        rw [pX9_readText_L82, if_neg (show ¬ (1 : Int32) = 0 by decide), kb2_t (next9 hN T hpl), hnx, sg_lt hlt, eq, if_neg (nI_pos (by omega))]
      obtain ⟨l1, l2, -⟩ := nx_le (text := text) g2
      rcases g4 with ⟨rfl, rfl, h1, qP, qB, qH, qG, rd2, R2, h0, h2⟩ | ⟨h1, h2⟩
      · obtain ⟨u2, h2⟩ := h2 w u
        obtain ⟨a3, f3, p3, price3, death3, payers3, bids3, hostages3, bags3, marks3, goods3, shy3, bidOf3, daysOf3, e1, e2⟩ := ih (nx text n a2) l2 (by omega) (v + 1) m1 m2 a2 (by omega) (by omega) (by omega) g2 rfl qP qB qH qG price2 death2 payers2 bids2 hostages2 bags2 marks2 goods2 shy2 bidOf2 daysOf2 rd2 R2 w u2
        refine ⟨a3, f3, p3, price3, death3, payers3, bids3, hostages3, bags3, marks3, goods3, shy3, bidOf3, daysOf3, C.trans e1, ?_⟩
        rw [M, kb5_t' h2, ← h0]
        exact e2
      · obtain ⟨u2, rd2, h2⟩ := h2 w u
        obtain ⟨m1, rfl⟩ := fuel (show 0 < m1 by omega)
        obtain ⟨m2, rfl⟩ := fuel (show 0 < m2 by omega)
        refine ⟨nI (nx text n a2), f2, p2, price2, death2, payers2, bids2, hostages2, bags2, marks2, goods2, shy2, bidOf2, daysOf2, C.trans (L25_stop (Or.inl h1) (by omega)), Or.inr ⟨h1, u2, rd2, ?_⟩⟩
        rw [M, kb5_t' h2, pX9_readText_L82, if_pos rfl, if_neg (show ¬ ¬ ((0 : Int32) = 0 ∨ (0 : Int32) = 1) by decide)]
/-- what the reference does once its numbers are cleared -/
def kT (N n : Nat) (text : Nat → Int32) (w u : Int32) (rd : Nat → Int32) : Option (Int32 × Int32 × Int32 × Int32 × (Nat → Int32)) :=
    kb2 (pX9_next N text (nI n) 0) fun r15 w16 =>
    (if 0 ≤ r15 then
    kb3 (pX9_takes N 107 text (nI n) w16 w) fun r19 w20 w21 =>
    (if r19 = 0 then
    pX9_readText_L80 N text (nI n) w20 w21 u rd
    else
    kb5 (pX9_takesNumber N 1 999 0 text (nI n) w20 w21 u rd) fun r24 w25 w26 w27 w28 =>
    (if r24 = 0 then
    pX9_readText_L80 N text (nI n) w25 w26 w27 w28
    else
    kb5 (pX9_takesNumber N 0 99 1 text (nI n) w25 w26 w27 w28) fun r31 w32 w33 w34 w35 =>
    (if r31 = 0 then
    pX9_readText_L80 N text (nI n) w32 w33 w34 w35
    else
    kb3 (pX9_takes N 59 text (nI n) w32 w33) fun r38 w39 w40 =>
    (if r38 = 0 then
    pX9_readText_L80 N text (nI n) w39 w40 w34 w35
    else
    pX9_readText_L81 N text (nI n) 1 w39 w40 w34 w35))))
    else
    some (1, w16, w, u, rd))
theorem clr_eq {N n : Nat} {text : Nat → Int32} (w u : Int32) : ∀ (k i : Nat), i + k = 37 → ∀ m, k < m → ∀ rd : Nat → Int32, (∀ j, j < i → rd j = 0) → ∃ rd0 : Nat → Int32, (∀ j, j < 37 → rd0 j = 0) ∧ pX9_readText_L7 N text (nI n) w u m (nI i) 0 rd = kT N n text w u rd0 := by
  intro k
  induction k with
  | zero =>
    intro i hi m hm rd h
    obtain ⟨m, rfl⟩ := fuel hm
    have e : i = 37 := by omega
    subst e
    refine ⟨rd, h, ?_⟩
    rw [pX9_readText_L7, if_pos (show (37 : Int32) ≤ nI 37 by decide)]
    rfl
  | succ k ih =>
    intro i hi m hm rd h
    obtain ⟨m, rfl⟩ := fuel hm
    rw [pX9_readText_L7, if_neg (show ¬ (37 : Int32) ≤ nI i from nI_ge (b := 37) (by omega) (by decide)), if_neg (gI (n := 37) (by omega) (by decide)), nI_clamp (by omega), nI_1]
    refine ih (i + 1) (by omega) m (by omega) _ (fun j hj => ?_)
    by_cases e : j = i
    · subst e; rw [pk_us]
    · rw [pk_un e]; exact h j (by omega)
theorem L80_eq {N n : Nat} {text : Nat → Int32} (hN : 20000 ≤ N) (a w u : Int32) (rd : Nat → Int32) : pX9_readText_L80 N text (nI n) a w u rd = some (0, a, w, u, rd) := by
  obtain ⟨N, rfl⟩ := fuel (show 0 < N by omega)
  unfold pX9_readText_L80 pX9_readText_L81
  rw [pX9_readText_L82, if_pos rfl, if_neg (show ¬ ¬ ((0 : Int32) = 0 ∨ (0 : Int32) = 1) by decide)]
theorem text_eq {N n : Nat} {signs text : Nat → Int32} (hN : 20000 ≤ N) (T : Txt n signs text) (goods shy bidOf daysOf : Nat → Int32) (w u : Int32) (rd : Nat → Int32) :
    ∃ (a2 f2 p2 stands2 price2 death2 payers2 bids2 hostages2 bags2 marks2 : Int32) (goods2 shy2 bidOf2 daysOf2 : Nat → Int32), pX7_readInto N signs (nI n) goods shy bidOf daysOf = some (0, a2, f2, p2, stands2, price2, death2, payers2, bids2, hostages2, bags2, marks2, goods2, shy2, bidOf2, daysOf2) ∧
      ((f2 = 0 ∧ p2 = -1 ∧ ∃ (qP qB qH qG : Nat) (rd2 : Nat → Int32) (pl2 w2 u2 : Int32), Rd qP qB qH qG price2 death2 payers2 bids2 hostages2 bags2 marks2 goods2 shy2 bidOf2 daysOf2 rd2 ∧ ((stands2 = 1 ∧ 0 < rd2 0) ∨ (stands2 = 0 ∧ ¬ 0 < rd2 0)) ∧ pX9_readText N text (nI n) w u rd = some (1, pl2, w2, u2, rd2)) ∨ (¬ f2 = 0 ∧ ∃ u2 rd2, pX9_readText N text (nI n) w u rd = some (0, p2, f2, u2, rd2))) := by
  have T1 := T.1
  obtain ⟨rd0, z0, ez⟩ := clr_eq (N := N) (n := n) (text := text) w u 37 0 (by omega) N (by omega) rd (fun j hj => absurd hj (Nat.not_lt_zero j))
  have M0 : pX9_readText N text (nI n) w u rd = kT N n text w u rd0 := ez
  clear ez
  obtain ⟨l1, l2, l3⟩ := nx_le (text := text) (n := n) (a := 0) (by omega)
  have sk : pX7_skipBlanks N signs (nI n) 0 = some (nI (nx text n 0)) := skip8 hN T (a := 0) (by omega)
  have nt : pX9_next N text (nI n) 0 = some (sg text n (nx text n 0), nI (nx text n 0)) := next9 hN T (a := 0) (by omega)
  have C0 : pX7_readInto N signs (nI n) goods shy bidOf daysOf = pX7_readInto_L25 N signs (nI n) N (nI 0) (nI (nx text n 0)) 0 (-1) 0 0 0 0 0 0 0 0 goods shy bidOf daysOf := by
    unfold pX7_readInto pX6_clear
    rw [kb8_e, kb1_t sk]
    rfl
  by_cases hlt : nx text n 0 < n
  · obtain ⟨q, hq, eq⟩ := (T.2 _ hlt).2
    have hge : 0 ≤ sg text n (nx text n 0) := by rw [sg_lt hlt, eq]; exact nI_pos' (by omega)
    have tk : pX9_takes N 107 text (nI n) (nI (nx text n 0)) w = if text (nx text n 0) = 107 then some (1, nI (nx text n 0 + 1), w) else some (0, nI (nx text n 0), 1) := by
      rw [takes9 hN T l2, nx_nx (by omega), sg_lt hlt]
    have e8 : pX7_here signs (nI n) (nI (nx text n 0)) = some (text (nx text n 0)) := by rw [here8 T l2, sg_lt hlt]
    obtain ⟨M, rfl⟩ := fuel (show 19999 < N by omega)
    by_cases h107 : text (nx text n 0) = 107
    · obtain ⟨v, b, f, q1, n1, n2, n3, n4, n5, n6⟩ := num_lit hN T (L := 1) (U := 999) (lo := 1) (hi := 999) rfl rfl (by omega) (by omega) (a := nx text n 0 + 1) (by omega) 0 (-1)
      obtain ⟨v2, b2, f2, q2, m1, m2, m3, m4, m5, m6⟩ := num_lit hN T (L := 0) (U := 99) (lo := 0) (hi := 99) rfl rfl (by omega) (by omega) n3 f q1
      obtain ⟨b3, f3, q3, c2, c3, c4, c5, c6⟩ := close_eq hN T m3 f2 q2
      obtain ⟨l4, l5, -⟩ := nx_le (text := text) c3
      have C1 : pX7_readInto_L25 (M + 1) signs (nI n) (M + 1) (nI 0) (nI (nx text n 0)) 0 (-1) 0 0 0 0 0 0 0 0 goods shy bidOf daysOf = pX7_readInto_L25 (M + 1) signs (nI n) M (nI 1) (nI (nx text n b3)) f3 q3 1 (nI v) (nI v2) 0 0 0 0 0 goods shy bidOf daysOf := by
        have R1 : pX7_readClause (M + 1) signs (nI n) (nI (nx text n 0)) 0 (-1) 0 0 0 0 0 0 0 0 goods shy bidOf daysOf = some (nI b3, f3, q3, 1, nI v, nI v2, 0, 0, 0, 0, 0, goods, shy, bidOf, daysOf) := by
          unfold pX7_readClause pX7_readClause_L28 pX7_readKing
          rw [kb1_t e8, if_pos rfl, if_pos h107, if_neg (show ¬ text (nx text n 0) = 98 by rw [h107]; decide), if_neg (show ¬ text (nx text n 0) = 104 by rw [h107]; decide), if_pos h107, kb3_t (word0 _ 0 (-1)), kb4_t' n4, kb4_t' m4, kb3_t c4, kb6_e]
        rw [pX7_readInto_L25, if_neg (show ¬ (240 : Int32) ≤ nI 0 by decide), if_neg (nI_ge hlt (by omega)), if_pos rfl, kb15_t' R1, kb1_t (skip8 hN T c3), nI_1]
      have bad : ¬ f3 = 0 → (∃ u2 rd2, kT (M + 1) n text w u rd0 = some (0, q3, f3, u2, rd2)) → ∃ (a2 f2 p2 stands2 price2 death2 payers2 bids2 hostages2 bags2 marks2 : Int32) (goods2 shy2 bidOf2 daysOf2 : Nat → Int32), pX7_readInto (M + 1) signs (nI n) goods shy bidOf daysOf = some (0, a2, f2, p2, stands2, price2, death2, payers2, bids2, hostages2, bags2, marks2, goods2, shy2, bidOf2, daysOf2) ∧
      ((f2 = 0 ∧ p2 = -1 ∧ ∃ (qP qB qH qG : Nat) (rd2 : Nat → Int32) (pl2 w2 u2 : Int32), Rd qP qB qH qG price2 death2 payers2 bids2 hostages2 bags2 marks2 goods2 shy2 bidOf2 daysOf2 rd2 ∧ ((stands2 = 1 ∧ 0 < rd2 0) ∨ (stands2 = 0 ∧ ¬ 0 < rd2 0)) ∧ pX9_readText (M + 1) text (nI n) w u rd = some (1, pl2, w2, u2, rd2)) ∨ (¬ f2 = 0 ∧ ∃ u2 rd2, pX9_readText (M + 1) text (nI n) w u rd = some (0, p2, f2, u2, rd2))) := by
        intro hb hm
        obtain ⟨M, rfl⟩ := fuel (show 19998 < M by omega)
        obtain ⟨u2, rd2, hm⟩ := hm
        exact ⟨_, _, _, _, _, _, _, _, _, _, _, _, _, _, _, (C0.trans C1).trans (L25_stop (Or.inl hb) (by omega)), Or.inr ⟨hb, u2, rd2, M0.trans hm⟩⟩
      rcases n6 rfl with ⟨rfl, rfl, z1, z2, o1⟩ | ⟨w1, o1⟩
      · have o1 := o1 0 (by omega)
        have o1 : ∀ w u rd, pX9_takesNumber (M + 1) 1 999 0 text (nI n) (nI (nx text n 0 + 1)) w u rd = _ := o1
        rcases m6 rfl with ⟨rfl, rfl, -, z4, o2⟩ | ⟨w2, o2⟩
        · have o2 := o2 1 (by omega)
          have o2 : ∀ w u rd, pX9_takesNumber (M + 1) 0 99 1 text (nI n) (nI b) w u rd = _ := o2
          rcases c6 rfl with ⟨rfl, rfl, o3⟩ | ⟨w3, o3⟩
          · have K1 : kT (M + 1) n text w u rd0 = pX9_readText_L82 (M + 1) text (nI n) (M + 1) 1 (nI b3) w (nI v2) (upd (upd rd0 0 (nI v)) 1 (nI v2)) := by
              unfold kT
              rw [kb2_t nt, if_pos hge, tk, if_pos h107, kb3_e, if_neg (show ¬ (1 : Int32) = 0 by decide), kb5_t' (o1 _ _ _), if_neg (show ¬ (1 : Int32) = 0 by decide), kb5_t' (o2 _ _ _), if_neg (show ¬ (1 : Int32) = 0 by decide), kb3_t (o3 w), if_neg (show ¬ (1 : Int32) = 0 by decide)]
              rfl
            have zz : ∀ j, j < 37 → ¬ j = 0 → ¬ j = 1 → upd (upd rd0 0 (nI v)) 1 (nI v2) j = 0 := fun j h1 h2 h3 => by rw [pk_un h3, pk_un h2]; exact z0 j h1
            have R : Rd 0 0 0 0 (nI v) (nI v2) 0 0 0 0 0 goods shy bidOf daysOf (upd (upd rd0 0 (nI v)) 1 (nI v2)) := ⟨by rw [pk_un (by omega), pk_us], by rw [pk_us], ⟨rfl, zz 2 (by omega) (by omega) (by omega), by omega⟩, ⟨rfl, zz 3 (by omega) (by omega) (by omega), by omega⟩, ⟨rfl, zz 4 (by omega) (by omega) (by omega), by omega⟩, ⟨rfl, zz 5 (by omega) (by omega) (by omega), by omega⟩, ⟨zz 6 (by omega) (by omega) (by omega), 0, by omega, rfl⟩, fun j hj => absurd hj (Nat.not_lt_zero j), fun j hj => absurd hj (Nat.not_lt_zero j), fun j hj => absurd hj (Nat.not_lt_zero j)⟩
            obtain ⟨a3, f3, p3, price3, death3, payers3, bids3, hostages3, bags3, marks3, goods3, shy3, bidOf3, daysOf3, e1, e2⟩ := loop_eq hN T (-1) n (nx text n b3) l5 (by omega) 1 M (M + 1) b3 (by omega) (by omega) (by omega) c3 rfl 0 0 0 0 (nI v) (nI v2) 0 0 0 0 0 goods shy bidOf daysOf _ R w (nI v2)
            refine ⟨a3, f3, p3, 1, price3, death3, payers3, bids3, hostages3, bags3, marks3, goods3, shy3, bidOf3, daysOf3, (C0.trans C1).trans e1, ?_⟩
            rw [M0, K1]
            rcases e2 with ⟨y1, y2, qP, qB, qH, qG, rd2, pl2, u2, y3, y4, y5⟩ | ⟨y1, y2⟩
            · refine Or.inl ⟨y1, y2, qP, qB, qH, qG, rd2, pl2, w, u2, y3, Or.inl ⟨rfl, ?_⟩, y5⟩
              rw [y4, pk_un (by omega), pk_us]
              exact nI_lt (a := 0) (by omega) (by omega)
            · exact Or.inr ⟨y1, y2⟩
          · refine bad w3 ⟨nI v2, upd (upd rd0 0 (nI v)) 1 (nI v2), ?_⟩
            unfold kT
            rw [kb2_t nt, if_pos hge, tk, if_pos h107, kb3_e, if_neg (show ¬ (1 : Int32) = 0 by decide), kb5_t' (o1 _ _ _), if_neg (show ¬ (1 : Int32) = 0 by decide), kb5_t' (o2 _ _ _), if_neg (show ¬ (1 : Int32) = 0 by decide), kb3_t (o3 w), if_pos rfl, L80_eq hN]
        · obtain ⟨rfl, rfl⟩ := c5 w2
          obtain ⟨u2, o2⟩ := o2 1 (by omega) w (nI v) (upd rd0 0 (nI v))
          have o2 : pX9_takesNumber (M + 1) 0 99 1 text (nI n) (nI b) w (nI v) (upd rd0 0 (nI v)) = _ := o2
          refine bad w2 ⟨u2, upd rd0 0 (nI v), ?_⟩
          unfold kT
          rw [kb2_t nt, if_pos hge, tk, if_pos h107, kb3_e, if_neg (show ¬ (1 : Int32) = 0 by decide), kb5_t' (o1 _ _ _), if_neg (show ¬ (1 : Int32) = 0 by decide), kb5_t' o2, if_pos rfl, L80_eq hN]
      · obtain ⟨rfl, rfl⟩ := m5 w1
        obtain ⟨rfl, rfl⟩ := c5 w1
        obtain ⟨u2, o1⟩ := o1 0 (by omega) w u rd0
        have o1 : pX9_takesNumber (M + 1) 1 999 0 text (nI n) (nI (nx text n 0 + 1)) w u rd0 = _ := o1
        refine bad w1 ⟨u2, rd0, ?_⟩
        unfold kT
        rw [kb2_t nt, if_pos hge, tk, if_pos h107, kb3_e, if_neg (show ¬ (1 : Int32) = 0 by decide), kb5_t' o1, if_pos rfl, L80_eq hN]
    · have R1 : pX7_readClause (M + 1) signs (nI n) (nI (nx text n 0)) 0 (-1) 0 0 0 0 0 0 0 0 goods shy bidOf daysOf = some (nI (nx text n 0), 1, nI (nx text n 0), 0, 0, 0, 0, 0, 0, 0, 0, goods, shy, bidOf, daysOf) := by
        unfold pX7_readClause
        rw [kb1_t e8, if_pos rfl, if_neg h107, fail0, kb2_e]
      have C1 : pX7_readInto_L25 (M + 1) signs (nI n) (M + 1) (nI 0) (nI (nx text n 0)) 0 (-1) 0 0 0 0 0 0 0 0 goods shy bidOf daysOf = pX7_readInto_L25 (M + 1) signs (nI n) M (nI 1) (nI (nx text n (nx text n 0))) 1 (nI (nx text n 0)) 0 0 0 0 0 0 0 0 goods shy bidOf daysOf := by
        rw [pX7_readInto_L25, if_neg (show ¬ (240 : Int32) ≤ nI 0 by decide), if_neg (nI_ge hlt (by omega)), if_pos rfl, kb15_t' R1, kb1_t (skip8 hN T l2), nI_1]
      rw [nx_nx (by omega)] at C1
      obtain ⟨M, rfl⟩ := fuel (show 19998 < M by omega)
      refine ⟨_, _, _, _, _, _, _, _, _, _, _, _, _, _, _, (C0.trans C1).trans (L25_stop (Or.inl (by decide)) (by omega)), Or.inr ⟨by decide, u, rd0, ?_⟩⟩
      rw [M0]
      unfold kT
      rw [kb2_t nt, if_pos hge, tk, if_neg h107, kb3_e, if_pos rfl, L80_eq hN]
  · obtain ⟨M, rfl⟩ := fuel (show 19999 < N by omega)
    refine ⟨_, _, _, _, _, _, _, _, _, _, _, _, _, _, _, C0.trans (L25_stop (Or.inr (by omega)) (by omega)), Or.inl ⟨rfl, rfl, 0, 0, 0, 0, rd0, nI (nx text n 0), w, u, ⟨(z0 0 (by omega)).symm, (z0 1 (by omega)).symm, ⟨rfl, z0 2 (by omega), by omega⟩, ⟨rfl, z0 3 (by omega), by omega⟩, ⟨rfl, z0 4 (by omega), by omega⟩, ⟨rfl, z0 5 (by omega), by omega⟩, ⟨z0 6 (by omega), 0, by omega, rfl⟩, fun j hj => absurd hj (Nat.not_lt_zero j), fun j hj => absurd hj (Nat.not_lt_zero j), fun j hj => absurd hj (Nat.not_lt_zero j)⟩, Or.inr ⟨rfl, ?_⟩, ?_⟩⟩
    · rw [z0 0 (by omega)]; decide
    · rw [M0]
      unfold kT
      rw [kb2_t nt, sg_ge hlt, if_neg (show ¬ (0 : Int32) ≤ -1 by decide)]
