/-! ===== the whole text ===== -/
def Rd (nP nB nH nG : Nat) (price death payers bids hostages bags marks : Int32) (goods shy bidOf daysOf rd : Nat → Int32) : Prop :=
  price = rd 0 ∧ death = rd 1 ∧ (payers = nI nP ∧ rd 2 = nI nP ∧ nP ≤ 6) ∧ (bids = nI nB ∧ rd 3 = nI nB ∧ nB ≤ 9) ∧ (hostages = nI nH ∧ rd 4 = nI nH ∧ nH ≤ 6) ∧ (bags = nI nG ∧ rd 5 = nI nG ∧ nG ≤ 8) ∧ (rd 6 = marks ∧ ∃ q : Nat, q ≤ 99 ∧ marks = nI q) ∧
  (∀ j, j < nP → (goods j = rd (7 + j) ∧ ∃ q : Nat, q ≤ 999 ∧ rd (7 + j) = nI q) ∧ (shy j = rd (13 + j) ∧ ∃ q : Nat, q ≤ 9 ∧ rd (13 + j) = nI q)) ∧ (∀ j, j < nB → bidOf j = rd (19 + j)) ∧ (∀ j, j < nH → daysOf j = rd (28 + j) ∧ ∃ q : Nat, q ≤ 99 ∧ rd (28 + j) = nI q)
theorem king1 {N n : Nat} {signs text : Nat → Int32} (hN : 20000 ≤ N) (T : Txt n signs text) {a : Nat} (ha : a < n) (p : Int32) : ∃ a2 x y : Nat, a < a2 ∧ a2 ≤ n ∧ pX7_readKing N signs (nI n) (nI a) 0 p 1 = some (nI a2, 3, nI a, 1, nI x, nI y) := by
  obtain ⟨v, b, f, q, n1, n2, n3, n4, n5, -⟩ := num_lit hN T (L := 1) (U := 999) (lo := 1) (hi := 999) rfl rfl (by omega) (by omega) (a := a + 1) (by omega) 3 (nI a)
  obtain ⟨rfl, rfl⟩ := n5 (by decide)
  obtain ⟨v2, b2, f2, q2, m1, m2, m3, m4, m5, -⟩ := num_lit hN T (L := 0) (U := 99) (lo := 0) (hi := 99) rfl rfl (by omega) (by omega) n3 3 (nI a)
  obtain ⟨rfl, rfl⟩ := m5 (by decide)
  obtain ⟨b3, f3, q3, c2, c3, c4, c5, -⟩ := close_eq hN T m3 3 (nI a)
  obtain ⟨rfl, rfl⟩ := c5 (by decide)
  refine ⟨b3, v, v2, by omega, c3, ?_⟩
  unfold pX7_readKing
  rw [kb3_t (word1 a p), kb4_t' n4, kb4_t' m4, kb3_t c4]
theorem u_ok {x : Int32} (h : x = 1) : ¬ ¬ (x = 0 ∨ x = 1) := fun z => z (Or.inr h)
theorem kb6_t' {t0 t1 t2 t3 t4 t5 ρ : Type} {o : Option (t0 × t1 × t2 × t3 × t4 × t5)} {x0 : t0} {x1 : t1} {x2 : t2} {x3 : t3} {x4 : t4} {x5 : t5} {f : t0 → t1 → t2 → t3 → t4 → t5 → Option ρ} (h : o = some (x0, x1, x2, x3, x4, x5)) : kb6 o f = f x0 x1 x2 x3 x4 x5 := by rw [h]; rfl
theorem clause_eq {N n nP nB nH nG : Nat} {signs text : Nat → Int32} (hN : 20000 ≤ N) (T : Txt n signs text) {a : Nat} (ha : a < n) (hx : ¬ text a = 32) (p : Int32) {price death payers bids hostages bags marks : Int32} {goods shy bidOf daysOf rd : Nat → Int32} (R : Rd nP nB nH nG price death payers bids hostages bags marks goods shy bidOf daysOf rd) :
    ∃ (a2 : Nat) (f2 p2 price2 death2 payers2 bids2 hostages2 bags2 marks2 : Int32) (goods2 shy2 bidOf2 daysOf2 : Nat → Int32), a ≤ a2 ∧ a2 ≤ n ∧ pX7_readClause N signs (nI n) (nI a) 0 p 1 price death payers bids hostages bags marks goods shy bidOf daysOf = some (nI a2, f2, p2, 1, price2, death2, payers2, bids2, hostages2, bags2, marks2, goods2, shy2, bidOf2, daysOf2) ∧
      ((f2 = 0 ∧ p2 = p ∧ a < a2 ∧ ∃ (qP qB qH qG : Nat) (rd2 : Nat → Int32), Rd qP qB qH qG price2 death2 payers2 bids2 hostages2 bags2 marks2 goods2 shy2 bidOf2 daysOf2 rd2 ∧ rd2 0 = rd 0 ∧ ∀ w u, ∃ u2, pX9_readClause N text (nI n) (nI a) w u rd = some (1, nI a2, w, u2, rd2)) ∨ (¬ f2 = 0 ∧ ∀ w u, ∃ u2 rd2, pX9_readClause N text (nI n) (nI a) w u rd = some (0, p2, f2, u2, rd2))) := by
  obtain ⟨r0, r1, ⟨rp1, rp2, rp3⟩, ⟨rb1, rb2, rb3⟩, ⟨rh1, rh2, rh3⟩, ⟨rg1, rg2, rg3⟩, ⟨r6, r6q⟩, rP, rB, rH⟩ := R
  subst rp1 rb1 rh1 rg1
  have e8 : pX7_here signs (nI n) (nI a) = some (text a) := by rw [here8 T (by omega), sg_lt ha]
  have e9 : pX9_next N text (nI n) (nI a) = some (text a, nI a) := by rw [next9 hN T (by omega), nx_id (fun _ => hx), sg_lt ha]
  unfold pX7_readClause pX7_readClause_L28 pX9_readClause
  rw [kb1_t e8, if_neg (show ¬ (1 : Int32) = 0 by decide)]
  by_cases h98 : text a = 98
  · obtain ⟨a2, nb2, f2, p2, bid2, g1, g2, g3, g4⟩ := bids_eq hN T ha rb3 (bid := bidOf) p rb2
    refine ⟨a2, f2, p2, price, death, nI nP, nI nb2, nI nH, nI nG, marks, goods, shy, bid2, daysOf, by omega, g2, ?_, ?_⟩
    · rw [if_pos h98, kb5_t' g3]
    · rcases g4 with ⟨q1, q2, q3, rd2, q4, q5, q6, q7⟩ | ⟨q1, q2⟩
      · refine Or.inl ⟨q1, q2, g1, nP, nb2, nH, nG, rd2, ⟨?_, ?_, ⟨rfl, ?_, rp3⟩, ⟨rfl, q5, q3⟩, ⟨rfl, ?_, rh3⟩, ⟨rfl, ?_, rg3⟩, ⟨?_, r6q⟩, fun j hj => ?_, q6, fun j hj => ?_⟩, q7 0 (by omega) (by omega), fun w u => ?_⟩
        · rw [q7 0 (by omega) (by omega)]; exact r0
        · rw [q7 1 (by omega) (by omega)]; exact r1
        · rw [q7 2 (by omega) (by omega)]; exact rp2
        · rw [q7 4 (by omega) (by omega)]; exact rh2
        · rw [q7 5 (by omega) (by omega)]; exact rg2
        · rw [q7 6 (by omega) (by omega)]; exact r6
        · rw [q7 (7 + j) (by omega) (by omega), q7 (13 + j) (by omega) (by omega)]; exact rP j hj
        · rw [q7 (28 + j) (by omega) (by omega)]; exact rH j hj
        · obtain ⟨u2, q4⟩ := q4 w u
          refine ⟨u2, ?_⟩
          rw [kb2_t e9, if_neg (show ¬ text a = 112 by rw [h98]; decide), if_pos h98, kb5_t' q4, if_neg (u_ok rfl)]
      · refine Or.inr ⟨q1, fun w u => ?_⟩
        obtain ⟨u2, rd2, q2⟩ := q2 w u
        refine ⟨u2, rd2, ?_⟩
        rw [kb2_t e9, if_neg (show ¬ text a = 112 by rw [h98]; decide), if_pos h98, kb5_t' q2, if_neg (show ¬ ¬ ((0 : Int32) = 0 ∨ (0 : Int32) = 1) by decide)]
  · rw [if_neg h98]
    by_cases h104 : text a = 104
    · obtain ⟨a2, k2, f2, p2, d2, g1, g2, g3, g4⟩ := hostage_eq hN T ha rh3 (days := daysOf) p rh2
      refine ⟨a2, f2, p2, price, death, nI nP, nI nB, nI k2, nI nG, marks, goods, shy, bidOf, d2, by omega, g2, ?_, ?_⟩
      · rw [if_pos h104, kb5_t' g3]
      · rcases g4 with ⟨q1, q2, q3, rfl, x, hx9, rfl, q4⟩ | ⟨q1, q2⟩
        · refine Or.inl ⟨q1, q2, g1, nP, nB, nH + 1, nG, upd (upd rd 4 (nI (nH + 1))) (28 + nH) (nI x), ⟨?_, ?_, ⟨rfl, ?_, rp3⟩, ⟨rfl, ?_, rb3⟩, ⟨rfl, ?_, by omega⟩, ⟨rfl, ?_, rg3⟩, ⟨?_, r6q⟩, fun j hj => ?_, fun j hj => ?_, fun j hj => ?_⟩, ?_, fun w u => ?_⟩
          rotate_right
          · obtain ⟨u2, q4⟩ := q4 w u
            refine ⟨u2, ?_⟩
            rw [kb2_t e9, if_neg (show ¬ text a = 112 by rw [h104]; decide), if_neg h98, if_pos h104, kb5_t' q4, if_neg (u_ok rfl)]
          · rw [pk_un (by omega), pk_un (by omega)]; exact r0
          · rw [pk_un (by omega), pk_un (by omega)]; exact r1
          · rw [pk_un (by omega), pk_un (by omega)]; exact rp2
          · rw [pk_un (by omega), pk_un (by omega)]; exact rb2
          · rw [pk_un (by omega), pk_us]
          · rw [pk_un (by omega), pk_un (by omega)]; exact rg2
          · rw [pk_un (by omega), pk_un (by omega)]; exact r6
          · rw [pk_un (by omega), pk_un (by omega), pk_un (by omega), pk_un (by omega)]; exact rP j hj
          · rw [pk_un (by omega), pk_un (by omega)]; exact rB j hj
          · by_cases e : j = nH
            · subst e
              rw [pk_us, pk_us]
              exact ⟨rfl, x, hx9, rfl⟩
            · rw [pk_un (by omega), pk_un (by omega), pk_un (by omega)]; exact rH j (by omega)
          · rw [pk_un (by omega), pk_un (by omega)]
        · refine Or.inr ⟨q1, fun w u => ?_⟩
          obtain ⟨u2, rd2, q2⟩ := q2 w u
          refine ⟨u2, rd2, ?_⟩
          rw [kb2_t e9, if_neg (show ¬ text a = 112 by rw [h104]; decide), if_neg h98, if_pos h104, kb5_t' q2, if_neg (show ¬ ¬ ((0 : Int32) = 0 ∨ (0 : Int32) = 1) by decide)]
    · rw [if_neg h104]
      by_cases h107 : text a = 107
      · obtain ⟨a2, x, y, g1, g2, g3⟩ := king1 hN T ha p
        refine ⟨a2, 3, nI a, nI x, nI y, nI nP, nI nB, nI nH, nI nG, marks, goods, shy, bidOf, daysOf, by omega, g2, ?_, Or.inr ⟨by decide, fun w u => ⟨u, rd, ?_⟩⟩⟩
        · rw [if_pos h107, kb6_t' g3]
        · unfold pX9_readClause_L63
          rw [kb2_t e9, if_neg (show ¬ text a = 112 by rw [h107]; decide), if_neg h98, if_neg h104, if_neg (show ¬ text a = 119 by rw [h107]; decide), if_pos h107, flt9, kb2_e, if_neg (show ¬ ¬ ((0 : Int32) = 0 ∨ (0 : Int32) = 1) by decide)]
      · rw [if_neg h107]
        by_cases h112 : text a = 112
        · obtain ⟨a2, k2, f2, p2, g2', s2', g1, g2, g3, g4⟩ := payer_eq hN T ha rp3 (goods := goods) (shy := shy) p rp2
          refine ⟨a2, f2, p2, price, death, nI k2, nI nB, nI nH, nI nG, marks, g2', s2', bidOf, daysOf, by omega, g2, ?_, ?_⟩
          · rw [if_pos h112, kb6_t' g3]
          · rcases g4 with ⟨q1, q2, q3, rfl, x, y, hx9, hy9, rfl, rfl, q4⟩ | ⟨q1, q2⟩
            · refine Or.inl ⟨q1, q2, g1, nP + 1, nB, nH, nG, upd (upd (upd rd 2 (nI (nP + 1))) (7 + nP) (nI x)) (13 + nP) (nI y), ⟨?_, ?_, ⟨rfl, ?_, by omega⟩, ⟨rfl, ?_, rb3⟩, ⟨rfl, ?_, rh3⟩, ⟨rfl, ?_, rg3⟩, ⟨?_, r6q⟩, fun j hj => ?_, fun j hj => ?_, fun j hj => ?_⟩, ?_, fun w u => ?_⟩
              rotate_right
              · obtain ⟨u2, q4⟩ := q4 w u
                refine ⟨u2, ?_⟩
                rw [kb2_t e9, if_pos h112, kb5_t' q4, if_neg (u_ok rfl)]
              · rw [pk_un (by omega), pk_un (by omega), pk_un (by omega)]; exact r0
              · rw [pk_un (by omega), pk_un (by omega), pk_un (by omega)]; exact r1
              · rw [pk_un (by omega), pk_un (by omega), pk_us]
              · rw [pk_un (by omega), pk_un (by omega), pk_un (by omega)]; exact rb2
              · rw [pk_un (by omega), pk_un (by omega), pk_un (by omega)]; exact rh2
              · rw [pk_un (by omega), pk_un (by omega), pk_un (by omega)]; exact rg2
              · rw [pk_un (by omega), pk_un (by omega), pk_un (by omega)]; exact r6
              · by_cases e : j = nP
                · subst e
                  rw [pk_us, pk_us, pk_us, pk_un (k := 13 + j) (by omega), pk_us]
                  exact ⟨⟨rfl, x, hx9, rfl⟩, rfl, y, hy9, rfl⟩
                · rw [pk_un (k := nP) e, pk_un (k := nP) e, pk_un (k := 13 + nP) (by omega), pk_un (k := 7 + nP) (by omega), pk_un (k := 2) (by omega), pk_un (k := 13 + nP) (by omega), pk_un (k := 7 + nP) (by omega), pk_un (k := 2) (by omega)]
                  exact rP j (by omega)
              · rw [pk_un (by omega), pk_un (by omega), pk_un (by omega)]; exact rB j hj
              · rw [pk_un (by omega), pk_un (by omega), pk_un (by omega)]; exact rH j hj
              · rw [pk_un (by omega), pk_un (by omega), pk_un (by omega)]
            · refine Or.inr ⟨q1, fun w u => ?_⟩
              obtain ⟨u2, rd2, q2⟩ := q2 w u
              refine ⟨u2, rd2, ?_⟩
              rw [kb2_t e9, if_pos h112, kb5_t' q2, if_neg (show ¬ ¬ ((0 : Int32) = 0 ∨ (0 : Int32) = 1) by decide)]
        · rw [if_neg h112]
          by_cases h119 : text a = 119
          · obtain ⟨a2, g, m, f2, p2, g1, g2, g3, g4⟩ := bags_eq hN T ha rg3 p rg2
            refine ⟨a2, f2, p2, price, death, nI nP, nI nB, nI nH, nI g, nI m, goods, shy, bidOf, daysOf, by omega, g2, ?_, ?_⟩
            · rw [if_pos h119, kb5_t' g3]
            · rcases g4 with ⟨q1, q2, q3, q5, q4⟩ | ⟨q1, q2⟩
              · refine Or.inl ⟨q1, q2, g1, nP, nB, nH, g, upd (upd rd 6 (nI m)) 5 (nI g), ⟨?_, ?_, ⟨rfl, ?_, rp3⟩, ⟨rfl, ?_, rb3⟩, ⟨rfl, ?_, rh3⟩, ⟨rfl, ?_, q3⟩, ⟨?_, m, q5, rfl⟩, fun j hj => ?_, fun j hj => ?_, fun j hj => ?_⟩, ?_, fun w u => ?_⟩
                rotate_right
                · obtain ⟨u2, q4⟩ := q4 w u
                  refine ⟨u2, ?_⟩
                  rw [kb2_t e9, if_neg h112, if_neg h98, if_neg h104, if_pos h119, kb5_t' q4, if_neg (u_ok rfl)]
                · rw [pk_un (by omega), pk_un (by omega)]; exact r0
                · rw [pk_un (by omega), pk_un (by omega)]; exact r1
                · rw [pk_un (by omega), pk_un (by omega)]; exact rp2
                · rw [pk_un (by omega), pk_un (by omega)]; exact rb2
                · rw [pk_un (by omega), pk_un (by omega)]; exact rh2
                · rw [pk_us]
                · rw [pk_un (by omega), pk_us]
                · rw [pk_un (by omega), pk_un (by omega), pk_un (by omega), pk_un (by omega)]; exact rP j hj
                · rw [pk_un (by omega), pk_un (by omega)]; exact rB j hj
                · rw [pk_un (by omega), pk_un (by omega)]; exact rH j hj
                · rw [pk_un (by omega), pk_un (by omega)]
              · refine Or.inr ⟨q1, fun w u => ?_⟩
                obtain ⟨u2, rd2, q2⟩ := q2 w u
                refine ⟨u2, rd2, ?_⟩
                rw [kb2_t e9, if_neg h112, if_neg h98, if_neg h104, if_pos h119, kb5_t' q2, if_neg (show ¬ ¬ ((0 : Int32) = 0 ∨ (0 : Int32) = 1) by decide)]
          · refine ⟨a, 1, nI a, price, death, nI nP, nI nB, nI nH, nI nG, marks, goods, shy, bidOf, daysOf, by omega, by omega, ?_, Or.inr ⟨by decide, fun w u => ⟨u, rd, ?_⟩⟩⟩
            · rw [if_neg h119, fail0, kb2_e]
            · unfold pX9_readClause_L63
              rw [kb2_t e9, if_neg h112, if_neg h98, if_neg h104, if_neg h119, if_neg h107, flt9, kb2_e, if_neg (show ¬ ¬ ((0 : Int32) = 0 ∨ (0 : Int32) = 1) by decide)]
