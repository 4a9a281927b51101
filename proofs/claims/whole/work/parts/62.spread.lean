/-! ===== the spread ===== -/
/-- what a row of k digits in base five sums to -/
def sA (F : Nat → Nat → Nat) : Nat → Nat → Nat
  | 0, _ => 0
  | k + 1, r => sA F k (r / 5) + F k (r % 5)
/-- digit q of a row of k digits -/
def sD : Nat → Nat → Nat → Nat
  | 0, _, _ => 0
  | k + 1, r, q => if q = k then r % 5 else sD k (r / 5) q
theorem sA_app (F : Nat → Nat → Nat) (p r d : Nat) (hd : d < 5) : sA F (p + 1) (r * 5 + d) = sA F p r + F p d := by
  rw [sA, show (r * 5 + d) / 5 = r by omega, show (r * 5 + d) % 5 = d by omega]
theorem sD_app (p r d q : Nat) (hd : d < 5) (hq : q < p) : sD (p + 1) (r * 5 + d) q = sD p r q := by
  rw [sD, if_neg (by omega), show (r * 5 + d) / 5 = r by omega]
theorem sD_last (p r d : Nat) (hd : d < 5) : sD (p + 1) (r * 5 + d) p = d := by
  rw [sD, if_pos rfl]; omega
theorem sD_lt : ∀ (k r q : Nat), sD k r q < 5
  | 0, _, _ => by rw [sD]; omega
  | k + 1, r, q => by
    rw [sD]
    by_cases h : q = k
    · rw [if_pos h]; omega
    · rw [if_neg h]; exact sD_lt k _ q
theorem sA_le {F : Nat → Nat → Nat} {c nP : Nat} (h : ∀ p d, p < nP → d < 5 → F p d ≤ c) : ∀ (k : Nat), k ≤ nP → ∀ r, sA F k r ≤ k * c
  | 0, _, r => by rw [sA]; omega
  | k + 1, hk, r => by
    have h1 := sA_le h k (by omega) (r / 5)
    have h2 := h k (r % 5) (by omega) (by omega)
    rw [sA, Nat.add_mul]; omega
theorem d5 (r j : Nat) : r / 5 ^ (j + 1) = r / 5 / 5 ^ j := by
  rw [Nat.div_div_eq_div_mul, Nat.pow_succ, Nat.mul_comm]
theorem sA_lo (F : Nat → Nat → Nat) (p : Nat) : ∀ (j r : Nat), sA F p (r / 5 ^ j) ≤ sA F (p + j) r
  | 0, r => by rw [Nat.pow_zero, Nat.div_one]; exact Nat.le_refl _
  | j + 1, r => by
    have h := sA_lo F p j (r / 5)
    rw [d5, ← Nat.add_assoc, sA]; omega
theorem mx_ge {f : Nat → Nat} : ∀ {n k : Nat}, k < n → f k ≤ mx f n
  | 0, _, h => absurd h (Nat.not_lt_zero _)
  | n + 1, k, h => by
    rw [mx]
    by_cases e : k = n
    · subst e; omega
    · have := mx_ge (f := f) (n := n) (k := k) (by omega); omega
theorem sA_hi (F : Nat → Nat → Nat) (p : Nat) : ∀ (j r : Nat), sA F (p + j) r ≤ sA F p (r / 5 ^ j) + sm (fun i => mx (F (p + i)) 5) j
  | 0, r => by rw [Nat.pow_zero, Nat.div_one, sm]; exact Nat.le_refl _
  | j + 1, r => by
    have h := sA_hi F p j (r / 5)
    have h2 : F (p + j) (r % 5) ≤ mx (F (p + j)) 5 := mx_ge (by omega)
    rw [d5, ← Nat.add_assoc, sA, sm]; omega
theorem sm_front (f : Nat → Nat) : ∀ n, sm f (n + 1) = f 0 + sm (fun k => f (k + 1)) n
  | 0 => by rw [sm, sm, sm]; omega
  | n + 1 => by rw [sm, sm_front f n, sm]; omega
def lst (hd : Nat → Nat) : Option Nat → Nat
  | none => 1000000000
  | some b => hd b
/-- the first row below n that is good enough and hides least -/
def bs (ok : Nat → Bool) (hd : Nat → Nat) : Nat → Option Nat
  | 0 => none
  | n + 1 => if ok n = true ∧ hd n < lst hd (bs ok hd n) then some n else bs ok hd n
theorem bs_t {ok : Nat → Bool} {hd : Nat → Nat} {n : Nat} (h : ok n = true ∧ hd n < lst hd (bs ok hd n)) : bs ok hd (n + 1) = some n := by rw [bs, if_pos h]
theorem bs_f {ok : Nat → Bool} {hd : Nat → Nat} {n : Nat} (h : ¬ (ok n = true ∧ hd n < lst hd (bs ok hd n))) : bs ok hd (n + 1) = bs ok hd n := by rw [bs, if_neg h]
theorem bs_skip (ok : Nat → Bool) (hd : Nat → Nat) (lo : Nat) : ∀ k, (∀ r, lo ≤ r → r < lo + k → ¬ (ok r = true ∧ hd r < lst hd (bs ok hd lo))) → bs ok hd (lo + k) = bs ok hd lo
  | 0, _ => rfl
  | k + 1, h => by
    have ih := bs_skip ok hd lo k (fun r h1 h2 => h r h1 (by omega))
    rw [← Nat.add_assoc, bs_f, ih]
    rw [ih]
    exact h (lo + k) (by omega) (by omega)
theorem lst_lt {hd : Nat → Nat} (h : ∀ r, hd r ≤ 5994) : ∀ o, lst hd o < 2 ^ 31
  | none => by rw [lst]; omega
  | some b => by have := h b; rw [lst]; omega
def Sc (nP : Nat) (o : Option Nat) (best : Nat → Int32) : Prop := ∀ b, o = some b → ∀ q, q < nP → best q = nI (sD nP b q * 25)
theorem try_eq {N nP mu : Nat} (hN : 20000 ≤ N) (hP : nP ≤ 6) (hmu : mu ≤ 9999) {P H : Nat → Nat → Nat} (bP : ∀ p d, p < nP → d < 5 → P p d ≤ 999) (bH : ∀ p d, p < nP → d < 5 → H p d ≤ 999) {paid hidden most : Nat → Int32}
    (hp : ∀ p d, p < nP → d < 5 → paid (p * 5 + d) = nI (P p d)) (hh : ∀ p d, p < nP → d < 5 → hidden (p * 5 + d) = nI (H p d)) (hm : ∀ p j, p + j = nP → most p = nI (sm (fun i => mx (P (p + i)) 5) j)) :
    ∀ (j p : Nat), p + j = nP → ∀ dd, j < dd → ∀ (r0 : Nat) (tried best : Nat → Int32), (∀ q, q < p → tried q = nI (sD p r0 q * 25)) → Sc nP (bs (fun r => decide (mu ≤ sA P nP r)) (sA H nP) (r0 * 5 ^ j)) best →
      ∃ tried2 best2, pX4_tryFrom N paid hidden most (nI nP) (nI mu) dd (nI p) (nI (sA P p r0)) (nI (sA H p r0)) tried best (nI (lst (sA H nP) (bs (fun r => decide (mu ≤ sA P nP r)) (sA H nP) (r0 * 5 ^ j)))) = some (tried2, best2, nI (lst (sA H nP) (bs (fun r => decide (mu ≤ sA P nP r)) (sA H nP) ((r0 + 1) * 5 ^ j)))) ∧ (∀ q, q < p → tried2 q = tried q) ∧ Sc nP (bs (fun r => decide (mu ≤ sA P nP r)) (sA H nP) ((r0 + 1) * 5 ^ j)) best2 := by
  have aP : ∀ k r, k ≤ nP → sA P k r ≤ 5994 := fun k r hk => by have := sA_le bP k hk r; omega
  have aH : ∀ k r, k ≤ nP → sA H k r ≤ 5994 := fun k r hk => by have := sA_le bH k hk r; omega
  have hL := lst_lt (hd := sA H nP) (fun r => aH nP r (Nat.le_refl _))
  intro j
  induction j with
  | zero =>
    intro p hpj dd hdd r0 tried best ht hS
    obtain ⟨dd, rfl⟩ := fuel hdd
    have e : p = nP := by omega
    subst e
    rw [Nat.pow_zero, Nat.mul_one] at hS
    rw [Nat.pow_zero, Nat.mul_one, Nat.mul_one, pX4_tryFrom]
    have b1 := aP p r0 (Nat.le_refl _)
    have b2 := aH p r0 (Nat.le_refl _)
    have b3 := hL (bs (fun r => decide (mu ≤ sA P p r)) (sA H p) r0)
    by_cases h1 : lst (sA H p) (bs (fun r => decide (mu ≤ sA P p r)) (sA H p) r0) ≤ sA H p r0
    · rw [if_pos (nI_le h1 (by omega)), bs_f (fun z => by have := z.2; omega)]
      exact ⟨_, _, rfl, fun q _ => rfl, hS⟩
    · have em : most p = nI 0 := hm p 0 rfl
      rw [if_neg (nI_ge (by omega) b3), if_neg (gI (n := 7) (by omega) (by decide)), nI_clamp (by omega), em, nI_add, Nat.add_zero]
      by_cases h2 : mu ≤ sA P p r0
      · rw [if_pos (nI_le h2 (by omega)), if_neg (nI_nlt (Nat.le_refl _) (by omega)), bs_t ⟨decide_eq_true h2, by omega⟩]
        refine ⟨_, _, rfl, fun q _ => rfl, fun b hb q hq => ?_⟩
        cases hb
        show (if 0 ≤ q ∧ q < 0 + 6 then tried (0 + (q - 0)) else best q) = _
        rw [if_pos ⟨by omega, by omega⟩, Nat.zero_add, Nat.sub_zero]
        exact ht q hq
      · rw [if_neg (nI_ge (by omega) (by omega)), bs_f (fun z => h2 (of_decide_eq_true z.1))]
        exact ⟨_, _, rfl, fun q _ => rfl, hS⟩
  | succ j ih =>
    intro p hpj dd hdd r0 tried best ht hS
    obtain ⟨dd, rfl⟩ := fuel hdd
    have b1 := aP p r0 (by omega)
    have b2 := aH p r0 (by omega)
    have b3 := hL (bs (fun r => decide (mu ≤ sA P nP r)) (sA H nP) (r0 * 5 ^ (j + 1)))
    have eR : (r0 + 1) * 5 ^ (j + 1) = r0 * 5 ^ (j + 1) + 5 ^ (j + 1) := by rw [Nat.add_mul, Nat.one_mul]
    have pos : 0 < 5 ^ (j + 1) := Nat.pow_pos (by decide)
    have hdv : ∀ r, r0 * 5 ^ (j + 1) ≤ r → r < r0 * 5 ^ (j + 1) + 5 ^ (j + 1) → r / 5 ^ (j + 1) = r0 := by
      intro r h1 h2
      refine Nat.div_eq_of_lt_le ?_ ?_
      · exact h1
      · rw [Nat.add_mul, Nat.one_mul]; exact h2
    rw [pX4_tryFrom]
    by_cases h1 : lst (sA H nP) (bs (fun r => decide (mu ≤ sA P nP r)) (sA H nP) (r0 * 5 ^ (j + 1))) ≤ sA H p r0
    · have es : bs (fun r => decide (mu ≤ sA P nP r)) (sA H nP) ((r0 + 1) * 5 ^ (j + 1)) = bs (fun r => decide (mu ≤ sA P nP r)) (sA H nP) (r0 * 5 ^ (j + 1)) := by
        rw [eR]
        refine bs_skip _ _ _ _ (fun r h3 h4 z => ?_)
        have h5 := sA_lo H p (j + 1) r
        rw [hdv r h3 h4, hpj] at h5
        have := z.2
        omega
      rw [if_pos (nI_le h1 (by omega)), es]
      exact ⟨_, _, rfl, fun q _ => rfl, hS⟩
    · rw [if_neg (nI_ge (by omega) b3), if_neg (gI (n := 7) (by omega) (by decide)), nI_clamp (by omega), hm p (j + 1) hpj, nI_add]
      have b4 : sm (fun i => mx (P (p + i)) 5) (j + 1) ≤ (j + 1) * 999 := sm_le (fun k hk => mx_le (fun d hd => bP (p + k) d (by omega) hd))
      by_cases h2 : mu ≤ sA P p r0 + sm (fun i => mx (P (p + i)) 5) (j + 1)
      · rw [if_pos (nI_le h2 (by omega)), if_pos (nI_lt (by omega) (by omega))]
        have loop : ∀ (k d : Nat), d + k = 5 → ∀ n, k < n → ∀ (tried best : Nat → Int32), (∀ q, q < p → tried q = nI (sD p r0 q * 25)) → Sc nP (bs (fun r => decide (mu ≤ sA P nP r)) (sA H nP) ((r0 * 5 + d) * 5 ^ j)) best →
            ∃ tried2 best2, pX4_tryFrom_L56 (pX4_tryFrom N paid hidden most (nI nP) (nI mu) dd) (nI p) (nI (sA P p r0)) (nI (sA H p r0)) paid hidden n (nI d) tried best (nI (lst (sA H nP) (bs (fun r => decide (mu ≤ sA P nP r)) (sA H nP) ((r0 * 5 + d) * 5 ^ j)))) = some (tried2, best2, nI (lst (sA H nP) (bs (fun r => decide (mu ≤ sA P nP r)) (sA H nP) ((r0 * 5 + 5) * 5 ^ j)))) ∧ (∀ q, q < p → tried2 q = tried q) ∧ Sc nP (bs (fun r => decide (mu ≤ sA P nP r)) (sA H nP) ((r0 * 5 + 5) * 5 ^ j)) best2 := by
          intro k
          induction k with
          | zero =>
            intro d hdk n hn tried best ht hS
            obtain ⟨n, rfl⟩ := fuel hn
            have e : d = 5 := by omega
            subst e
            rw [pX4_tryFrom_L56, if_pos (by decide)]
            exact ⟨_, _, rfl, fun q _ => rfl, hS⟩
          | succ k ihk =>
            intro d hdk n hn tried best ht hS
            obtain ⟨n, rfl⟩ := fuel hn
            have e5 : nI p * 5 + nI d = nI (p * 5 + d) := by
              have := pk_mul p 5
              rw [show (5 : Int32) = nI 5 from rfl, this, nI_add]
            have e25 : nI d * 25 = nI (d * 25) := pk_mul d 25
            have hd5 : ¬ (5 : Int32) ≤ nI d := nI_ge (b := 5) (by omega) (by decide)
            have ht2 : ∀ q, q < p + 1 → upd tried p (nI (d * 25)) q = nI (sD (p + 1) (r0 * 5 + d) q * 25) := by
              intro q hq
              by_cases e : q = p
              · subst e
                rw [pk_us, sD_last q r0 d (by omega)]
              · rw [pk_un e, sD_app p r0 d q (by omega) (by omega)]
                exact ht q (by omega)
            obtain ⟨t2, s2, f1, f2, f3⟩ := ih (p + 1) (by omega) dd (by omega) (r0 * 5 + d) (upd tried p (nI (d * 25))) best ht2 hS
            rw [sA_app P p r0 d (by omega), sA_app H p r0 d (by omega)] at f1
            rw [pX4_tryFrom_L56, if_neg hd5, if_neg (gI (n := 6) (by omega) (by decide)), e5, if_neg (gI (n := 30) (by omega) (by decide)), nI_clamp (by omega), nI_clamp (by omega), hp p d (by omega) (by omega), hh p d (by omega) (by omega), nI_add, nI_add, nI_1, nI_1, e25, kb3_t f1]
            obtain ⟨t3, s3, g1, g2, g3⟩ := ihk (d + 1) (by omega) n (by omega) t2 s2 (fun q hq => by rw [f2 q (by omega), pk_un (by omega)]; exact ht q hq) f3
            refine ⟨t3, s3, g1, fun q hq => ?_, g3⟩
            rw [g2 q hq, f2 q (by omega), pk_un (by omega)]
        have e0 : r0 * 5 ^ (j + 1) = (r0 * 5 + 0) * 5 ^ j := by
          show r0 * 5 ^ (j + 1) = r0 * 5 * 5 ^ j
          rw [Nat.pow_succ, Nat.mul_comm (5 ^ j), ← Nat.mul_assoc]
        have e1 : (r0 + 1) * 5 ^ (j + 1) = (r0 * 5 + 5) * 5 ^ j := by rw [Nat.pow_succ, Nat.mul_comm (5 ^ j), ← Nat.mul_assoc, Nat.add_mul r0 1 5]
        rw [e0] at hS ⊢
        rw [e1]
        exact loop 5 0 (by omega) N (by omega) tried best ht hS
      · have es : bs (fun r => decide (mu ≤ sA P nP r)) (sA H nP) ((r0 + 1) * 5 ^ (j + 1)) = bs (fun r => decide (mu ≤ sA P nP r)) (sA H nP) (r0 * 5 ^ (j + 1)) := by
          rw [eR]
          refine bs_skip _ _ _ _ (fun r h3 h4 z => ?_)
          have h5 := sA_hi P p (j + 1) r
          rw [hdv r h3 h4, hpj] at h5
          have := of_decide_eq_true z.1
          omega
        rw [if_neg (nI_ge (by omega) (by omega)), es]
        exact ⟨_, _, rfl, fun q _ => rfl, hS⟩
theorem lay_eq {p : Nat} (hp6 : p < 6) {g s : Int32} {P H : Nat → Nat → Nat} (bP : ∀ d, d < 5 → P p d ≤ 999) (hp : ∀ d, d < 5 → fPay g s (nI (d * 25)) = nI (P p d)) (hh : ∀ d, d < 5 → g - fTell g s (nI (d * 25)) = nI (H p d)) :
    ∀ (k d : Nat), d + k = 5 → ∀ n, k < n → ∀ (paid hidden : Nat → Int32), (∀ e, e < d → paid (p * 5 + e) = nI (P p e) ∧ hidden (p * 5 + e) = nI (H p e)) →
      ∃ paid2 hidden2, pX4_layOut_L6 (nI p) g s n (nI (mx (P p) d)) (nI d) paid hidden = some (nI (mx (P p) 5), paid2, hidden2) ∧ (∀ e, e < 5 → paid2 (p * 5 + e) = nI (P p e) ∧ hidden2 (p * 5 + e) = nI (H p e)) ∧ (∀ i, i < p * 5 ∨ p * 5 + 5 ≤ i → paid2 i = paid i ∧ hidden2 i = hidden i) := by
  intro k
  induction k with
  | zero =>
    intro d hdk n hn paid hidden hi
    obtain ⟨n, rfl⟩ := fuel hn
    have e : d = 5 := by omega
    subst e
    rw [pX4_layOut_L6, if_pos (by decide)]
    exact ⟨_, _, rfl, hi, fun i _ => ⟨rfl, rfl⟩⟩
  | succ k ih =>
    intro d hdk n hn paid hidden hi
    obtain ⟨n, rfl⟩ := fuel hn
    have e5 : nI p * 5 + nI d = nI (p * 5 + d) := by
      have := pk_mul p 5
      rw [show (5 : Int32) = nI 5 from rfl, this, nI_add]
    have e25 : nI d * 25 = nI (d * 25) := pk_mul d 25
    have hd5 : ¬ (5 : Int32) ≤ nI d := nI_ge (b := 5) (by omega) (by decide)
    have bm : mx (P p) d ≤ 999 := mx_le (fun e he => bP e (by omega))
    have bd := bP d (by omega)
    have em : (if nI (mx (P p) d) < nI (P p d) then nI (P p d) else nI (mx (P p) d)) = nI (mx (P p) (d + 1)) := by
      rw [mx]
      by_cases h : mx (P p) d < P p d
      · rw [if_pos (nI_lt h (by omega)), Nat.max_eq_right (by omega)]
      · rw [if_neg (nI_nlt (by omega) (by omega)), Nat.max_eq_left (by omega)]
    rw [pX4_layOut_L6, if_neg hd5, kb1_t (pays8 _ _ _), e5, if_neg (gI (n := 30) (by omega) (by decide)), kb1_t (tells8 _ _ _), nI_clamp (by omega), e25, hp d (by omega), hh d (by omega)]
    simp only [kl]
    rw [pk_us, em, nI_1]
    obtain ⟨p2, h2, f1, f2, f3⟩ := ih (d + 1) (by omega) n (by omega) (upd paid (p * 5 + d) (nI (P p d))) (upd hidden (p * 5 + d) (nI (H p d))) (fun e he => by
      by_cases h : e = d
      · subst h; rw [pk_us, pk_us]; exact ⟨rfl, rfl⟩
      · rw [pk_un (by omega), pk_un (by omega)]; exact hi e (by omega))
    refine ⟨p2, h2, f1, f2, fun i h => ?_⟩
    have := f3 i h
    rw [pk_un (by omega), pk_un (by omega)] at this
    exact this
theorem find_eq {N nP : Nat} (hN : 20000 ≤ N) (hP : nP ≤ 6) {goods shy : Nat → Int32} {P H : Nat → Nat → Nat} (bP : ∀ p d, p < nP → d < 5 → P p d ≤ 999) (hp : ∀ p d, p < nP → d < 5 → fPay (goods p) (shy p) (nI (d * 25)) = nI (P p d)) (hh : ∀ p d, p < nP → d < 5 → goods p - fTell (goods p) (shy p) (nI (d * 25)) = nI (H p d)) (tried best : Nat → Int32) (a b c : Int32) :
    ∀ (k : Nat), k ≤ nP → ∀ n, k < n → ∀ (paid hidden most : Nat → Int32), (∀ p d, k ≤ p → p < nP → d < 5 → paid (p * 5 + d) = nI (P p d) ∧ hidden (p * 5 + d) = nI (H p d)) → (∀ p j, k ≤ p → p + j = nP → most p = nI (sm (fun i => mx (P (p + i)) 5) j)) →
      ∃ paid2 hidden2 most2, pX4_find_L37 N tried best goods shy n (nI k - 1) paid hidden most a b c = (kb3 (pX4_tryFrom N paid2 hidden2 most2 a b 8 0 0 0 tried best c) fun w3 w4 w5 => (if w5 = 1000000000 then some (0, paid2, hidden2, most2, w3, w4, a, b, w5) else some (1, paid2, hidden2, most2, w3, w4, a, b, w5))) ∧
        (∀ p d, p < nP → d < 5 → paid2 (p * 5 + d) = nI (P p d)) ∧ (∀ p d, p < nP → d < 5 → hidden2 (p * 5 + d) = nI (H p d)) ∧ (∀ p j, p + j = nP → most2 p = nI (sm (fun i => mx (P (p + i)) 5) j)) := by
  intro k
  induction k with
  | zero =>
    intro hk n hn paid hidden most i1 i2
    obtain ⟨n, rfl⟩ := fuel hn
    rw [pX4_find_L37, if_pos (by decide)]
    exact ⟨_, _, _, rfl, fun p d h1 h2 => (i1 p d (by omega) h1 h2).1, fun p d h1 h2 => (i1 p d (by omega) h1 h2).2, fun p j h => i2 p j (by omega) h⟩
  | succ k ih =>
    intro hk n hn paid hidden most i1 i2
    obtain ⟨n, rfl⟩ := fuel hn
    obtain ⟨p2, h2, f1, f2, f3⟩ := lay_eq (p := k) (by omega) (g := goods k) (s := shy k) (P := P) (H := H) (fun d hd => bP k d (by omega) hd) (fun d hd => hp k d (by omega) hd) (fun d hd => hh k d (by omega) hd) 5 0 (by omega) N (by omega) paid hidden (fun e he => absurd he (Nat.not_lt_zero e))
    have f1 : pX4_layOut N (nI k) (goods k) (shy k) paid hidden = _ := f1
    rw [nI_pred, pX4_find_L37, if_neg (nI_pos (by omega)), nI_1, if_neg (gI (n := 7) (by omega) (by decide)), if_neg (gI (n := 6) (by omega) (by decide)), nI_clamp (n := k) (by omega), nI_clamp (n := k + 1) (by omega), kb3_t f1]
    simp only [kl]
    rw [if_neg (show ¬ (nI k < 0 ∨ 7 ≤ k) from fun z => z.elim (nI_pos (by omega)) (by omega)), i2 (k + 1) (nP - (k + 1)) (by omega) (by omega), nI_add, addm1]
    refine ih (by omega) n (by omega) _ _ _ (fun p d h1 h3 h4 => ?_) (fun p j h1 h3 => ?_)
    · by_cases e : p = k
      · subst e; exact f2 d h4
      · have := f3 (p * 5 + d) (Or.inr (by omega))
        rw [this.1, this.2]
        exact i1 p d (by omega) h3 h4
    · by_cases e : p = k
      · subst e
        obtain ⟨j, rfl⟩ : ∃ q, j = q + 1 := ⟨j - 1, by omega⟩
        rw [pk_us, sm_front, show nP - (p + 1) = j by omega, Nat.add_comm (mx (P (p + 0)) 5), sm_cong (f := fun i => mx (P (p + 1 + i)) 5) (g := fun k => mx (P (p + (k + 1))) 5) (fun i _ => by rw [Nat.add_assoc p 1 i, Nat.add_comm 1 i])]
        rfl
      · rw [pk_un e]
        exact i2 p j (by omega) h3
theorem row_eq {nP : Nat} (hP : nP ≤ 6) {told st : Nat → Int32} {P H : Nat → Nat → Nat} (hp : ∀ p d, p < nP → d < 5 → fPay (st p) (told (13 + p)) (nI (d * 25)) = nI (P p d)) (hh : ∀ p d, p < nP → d < 5 → st p - fTell (st p) (told (13 + p)) (nI (d * 25)) = nI (H p d)) (k66 : Int32 → Int32 → Int32 → Int32 → Option (Int32)) (x1 v3 v4 v5 v6 : Int32) :
    ∀ (k : Nat), k ≤ nP → ∀ n, k < n → ∀ (v7 v8 v9 : Nat), v7 < 2 ^ 31 → pX9_spread_L92 k66 x1 told st n v3 v4 v5 v6 (nI v7) (nI v8) (nI v9) (nI k - 1) = (if nI (v8 + sA P k v7) < x1 then pX9_spread_L170 k66 v3 v4 v5 v6 else (if v4 < 0 then pX9_spread_L162 k66 v3 v6 (nI (v9 + sA H k v7)) else (if v4 ≤ nI (v9 + sA H k v7) then pX9_spread_L170 k66 v3 v4 v5 v6 else pX9_spread_L162 k66 v3 v6 (nI (v9 + sA H k v7))))) := by
  intro k
  induction k with
  | zero =>
    intro hk n hn v7 v8 v9 hv
    obtain ⟨n, rfl⟩ := fuel hn
    rw [pX9_spread_L92, if_pos (by decide)]
    rfl
  | succ k ih =>
    intro hk n hn v7 v8 v9 hv
    obtain ⟨n, rfl⟩ := fuel hn
    have er : (nI v7 - nI v7 / 5 * 5) * 25 = nI (v7 % 5 * 25) := by
      have h := pk_rem (a := v7) (d := 5) hv (by decide) (by decide)
      have h : nI v7 - nI v7 / 5 * 5 = nI (v7 % 5) := h
      rw [h]; exact pk_mul (v7 % 5) 25
    have eq5 : nI v7 / 5 = nI (v7 / 5) := pk_div (d := 5) hv (by decide) (by decide)
    rw [nI_pred, pX9_spread_L92, if_neg (nI_pos (by omega)), er, kb1_t (pays9 (by omega) _ _ _), kb1_t (hides9 (by omega) _ _ _), hp k (v7 % 5) (by omega) (by omega), hh k (v7 % 5) (by omega) (by omega), eq5, nI_add, nI_add, addm1, ih (by omega) n (by omega) (v7 / 5) _ _ (by omega)]
    rw [sA, sA, Nat.add_assoc v8, Nat.add_assoc v9, Nat.add_comm (P k (v7 % 5)), Nat.add_comm (H k (v7 % 5))]
theorem dig_eq {j : Nat} : ∀ (k : Nat), k ≤ 6 → j < k → ∀ n, k < n → ∀ (v : Nat), v < 2 ^ 31 → pX9_spread_L198 (nI j) n (nI v) (nI k - 1) = some (nI (sD k v j * 25)) := by
  intro k
  induction k with
  | zero => intro _ h; exact absurd h (Nat.not_lt_zero j)
  | succ k ih =>
    intro hk hj n hn v hv
    obtain ⟨n, rfl⟩ := fuel hn
    rw [nI_pred, pX9_spread_L198, sD]
    by_cases e : j = k
    · subst e
      have er : (nI v - nI v / 5 * 5) * 25 = nI (v % 5 * 25) := by
        have h := pk_rem (a := v) (d := 5) hv (by decide) (by decide)
        have h : nI v - nI v / 5 * 5 = nI (v % 5) := h
        rw [h]; exact pk_mul (v % 5) 25
      rw [if_pos (nI_le (Nat.le_refl _) (by omega)), if_pos rfl, er]
    · have eq5 : nI v / 5 = nI (v / 5) := pk_div (d := 5) hv (by decide) (by decide)
      rw [if_neg (nI_ge (by omega) (by omega)), if_neg e, eq5, addm1]
      exact ih (by omega) (by omega) n (by omega) (v / 5) (by omega)
def m4 (hd : Nat → Nat) : Option Nat → Int32
  | none => -1
  | some b => nI (hd b)
def m5 : Option Nat → Int32
  | none => 0
  | some b => nI b
theorem rows_eq {N nP mu : Nat} (hN : 20000 ≤ N) (hP : nP ≤ 6) (hmu : mu ≤ 9999) {told st : Nat → Int32} (h2 : told 2 = nI nP) {P H : Nat → Nat → Nat} (bP : ∀ p d, p < nP → d < 5 → P p d ≤ 999) (bH : ∀ p d, p < nP → d < 5 → H p d ≤ 999) (hp : ∀ p d, p < nP → d < 5 → fPay (st p) (told (13 + p)) (nI (d * 25)) = nI (P p d)) (hh : ∀ p d, p < nP → d < 5 → st p - fTell (st p) (told (13 + p)) (nI (d * 25)) = nI (H p d)) (x2 : Int32) {T : Nat} (hT : T ≤ 15625) :
    ∀ (k i : Nat), i + k = T → ∀ n, k < n → ∀ o, o = bs (fun r => decide (mu ≤ sA P nP r)) (sA H nP) i → ∀ o2, o2 = bs (fun r => decide (mu ≤ sA P nP r)) (sA H nP) T → pX9_spread_L66 N (nI mu) x2 told st n (nI T) (m4 (sA H nP) o) (m5 o) (nI i) = (if m4 (sA H nP) o2 < 0 then some (m4 (sA H nP) o2) else (if 0 ≤ x2 then pX9_spread_L198 x2 N (m5 o2) (nI nP - 1) else some (m4 (sA H nP) o2))) := by
  intro k
  induction k with
  | zero =>
    intro i hi n hn o ho o2 ho2
    obtain ⟨n, rfl⟩ := fuel hn
    have e : i = T := by omega
    subst e
    have e2 : o = o2 := by rw [ho, ho2]
    subst e2
    rw [pX9_spread_L66, if_pos (nI_le (Nat.le_refl _) (by omega)), h2]
  | succ k ih =>
    intro i hi n hn o ho o2 ho2
    obtain ⟨n, rfl⟩ := fuel hn
    have a1 := sA_le bP nP (Nat.le_refl _) i
    have a2 := sA_le bH nP (Nat.le_refl _) i
    have r := row_eq hP hp hh (pX9_spread_L66 N (nI mu) x2 told st n) (nI mu) (nI T) (m4 (sA H nP) o) (m5 o) (nI i) nP (Nat.le_refl _) N (by omega) i 0 0 (by omega)
    have r : pX9_spread_L92 (pX9_spread_L66 N (nI mu) x2 told st n) (nI mu) told st N (nI T) (m4 (sA H nP) o) (m5 o) (nI i) (nI i) 0 0 (nI nP - 1) = _ := r
    rw [pX9_spread_L66, if_neg (nI_ge (by omega) (by omega)), h2, r, Nat.zero_add, Nat.zero_add]
    unfold pX9_spread_L162 pX9_spread_L170
    rw [nI_1]
    by_cases hok : mu ≤ sA P nP i
    · rw [if_neg (nI_nlt hok (by omega))]
      cases o with
      | none =>
        have e : some i = bs (fun r => decide (mu ≤ sA P nP r)) (sA H nP) (i + 1) := (bs_t ⟨decide_eq_true hok, by rw [← ho, lst]; omega⟩).symm
        rw [if_pos (show m4 (sA H nP) none < 0 by rw [m4]; decide)]
        exact ih (i + 1) (by omega) n (by omega) (some i) e o2 ho2
      | some b =>
        have a3 := sA_le bH nP (Nat.le_refl _) b
        rw [if_neg (show ¬ m4 (sA H nP) (some b) < 0 from nI_pos (by omega))]
        by_cases hl : sA H nP b ≤ sA H nP i
        · have e : some b = bs (fun r => decide (mu ≤ sA P nP r)) (sA H nP) (i + 1) := by
            rw [bs_f (fun z => by have := z.2; rw [← ho, lst] at this; omega)]; exact ho
          rw [if_pos (show m4 (sA H nP) (some b) ≤ nI (sA H nP i) from nI_le hl (by omega))]
          exact ih (i + 1) (by omega) n (by omega) (some b) e o2 ho2
        · have e : some i = bs (fun r => decide (mu ≤ sA P nP r)) (sA H nP) (i + 1) := (bs_t ⟨decide_eq_true hok, by rw [← ho, lst]; omega⟩).symm
          rw [if_neg (show ¬ m4 (sA H nP) (some b) ≤ nI (sA H nP i) from nI_ge (by omega) (by omega))]
          exact ih (i + 1) (by omega) n (by omega) (some i) e o2 ho2
    · have e : o = bs (fun r => decide (mu ≤ sA P nP r)) (sA H nP) (i + 1) := by
        rw [bs_f (fun z => hok (of_decide_eq_true z.1))]; exact ho
      rw [if_pos (nI_lt (by omega) (by omega))]
      exact ih (i + 1) (by omega) n (by omega) o e o2 ho2
theorem five_eq {N nP : Nat} (hP : nP ≤ 6) {told st : Nat → Int32} (h2 : told 2 = nI nP) (x1 x2 : Int32) : ∀ (k i : Nat), i + k = nP → ∀ n, k < n → pX9_spread_L36 N x1 x2 told st n (nI (5 ^ i)) (nI i) = pX9_spread_L66 N x1 x2 told st N (nI (5 ^ nP)) (-1) 0 0 := by
  intro k
  induction k with
  | zero =>
    intro i hi n hn
    obtain ⟨n, rfl⟩ := fuel hn
    have e : i = nP := by omega
    subst e
    rw [pX9_spread_L36, h2, if_pos (nI_le (Nat.le_refl _) (by omega))]
  | succ k ih =>
    intro i hi n hn
    obtain ⟨n, rfl⟩ := fuel hn
    have e : nI (5 ^ i) * 5 = nI (5 ^ (i + 1)) := by rw [Nat.pow_succ]; exact pk_mul (5 ^ i) 5
    rw [pX9_spread_L36, h2, if_neg (nI_ge (by omega) (by omega)), e, nI_1]
    exact ih (i + 1) (by omega) n (by omega)
theorem bs_lt {ok : Nat → Bool} {hd : Nat → Nat} {b : Nat} : ∀ {n : Nat}, bs ok hd n = some b → b < n
  | 0, h => by rw [bs] at h; cases h
  | n + 1, h => by
    by_cases e : ok n = true ∧ hd n < lst hd (bs ok hd n)
    · rw [bs_t e] at h; cases h; omega
    · rw [bs_f e] at h; have := bs_lt h; omega
theorem spr_eq {N nP mu : Nat} (hN : 20000 ≤ N) (hP : nP ≤ 6) (hmu : mu ≤ 9999) {told st shy goods : Nat → Int32} (h2 : told 2 = nI nP) (hs : ∀ j, j < nP → shy j = told (13 + j) ∧ ∃ q : Nat, q ≤ 9 ∧ told (13 + j) = nI q) (hg : ∀ j, j < nP → goods j = st j ∧ ∃ q : Nat, q ≤ 999 ∧ st j = nI q) (paid hidden most tried best : Nat → Int32) :
    (∃ (paid2 hidden2 most2 tried2 best2 : Nat → Int32), pX4_find N (nI mu) paid hidden most tried best goods (nI nP) shy = some (0, paid2, hidden2, most2, tried2, best2, nI nP, nI mu, 1000000000) ∧ ∀ x2, pX9_spread_L36 N (nI mu) x2 told st N 1 0 = some (-1)) ∨
    (∃ (paid2 hidden2 most2 tried2 best2 : Nat → Int32) (L : Int32), pX4_find N (nI mu) paid hidden most tried best goods (nI nP) shy = some (1, paid2, hidden2, most2, tried2, best2, nI nP, nI mu, L) ∧ pX9_spread_L36 N (nI mu) (-1) told st N 1 0 = some L ∧ ∀ j, j < nP → pX9_spread_L36 N (nI mu) (nI j) told st N 1 0 = some (best2 j)) := by
  obtain ⟨P, rP⟩ : ∃ P : Nat → Nat → Nat, P = fun p d => (fPay (st p) (told (13 + p)) (nI (d * 25))).toNatClampNeg := ⟨_, rfl⟩
  obtain ⟨H, rH⟩ : ∃ H : Nat → Nat → Nat, H = fun p d => (st p - fTell (st p) (told (13 + p)) (nI (d * 25))).toNatClampNeg := ⟨_, rfl⟩
  have kP : ∀ p d, p < nP → d < 5 → P p d ≤ 999 ∧ fPay (st p) (told (13 + p)) (nI (d * 25)) = nI (P p d) := by
    intro p d hp hd
    obtain ⟨-, q, hq, e1⟩ := hg p hp
    obtain ⟨-, s, hs, e2⟩ := hs p hp
    have h1 := pay_nI (q := q) (s := s) (r := d * 25) hq hs (by omega)
    have h2 := pay_le (q := q) (s := s) (r := d * 25) (by omega)
    have e : P p d = q * (100 - s * (d * 25) / 10) / 100 * (d * 25) / 100 := by
      rw [rP]
      show (fPay (st p) (told (13 + p)) (nI (d * 25))).toNatClampNeg = _
      rw [e1, e2, h1, nI_clamp (by omega)]
    rw [e, e1, e2]
    exact ⟨by omega, h1⟩
  have kH : ∀ p d, p < nP → d < 5 → H p d ≤ 999 ∧ st p - fTell (st p) (told (13 + p)) (nI (d * 25)) = nI (H p d) := by
    intro p d hp hd
    obtain ⟨-, q, hq, e1⟩ := hg p hp
    obtain ⟨-, s, hs, e2⟩ := hs p hp
    have h1 := tell_nI (q := q) (s := s) (r := d * 25) hq hs (by omega)
    have h2 := tell_le (q := q) (s := s) (r := d * 25)
    have h3 := pk_sub (a := q) (b := q * (100 - s * (d * 25) / 10) / 100) h2
    have e : H p d = q - q * (100 - s * (d * 25) / 10) / 100 := by
      rw [rH]
      show (st p - fTell (st p) (told (13 + p)) (nI (d * 25))).toNatClampNeg = _
      rw [e1, e2, h1, h3, nI_clamp (by omega)]
    rw [e, e1, e2, h1]
    exact ⟨by omega, h3⟩
  clear rP rH
  have bP : ∀ p d, p < nP → d < 5 → P p d ≤ 999 := fun p d a b => (kP p d a b).1
  have bH : ∀ p d, p < nP → d < 5 → H p d ≤ 999 := fun p d a b => (kH p d a b).1
  have T : 5 ^ nP ≤ 15625 := Nat.pow_le_pow_right (n := 5) (by decide) hP
  have R : ∀ x2 o2, o2 = bs (fun r => decide (mu ≤ sA P nP r)) (sA H nP) (5 ^ nP) → pX9_spread_L36 N (nI mu) x2 told st N 1 0 = _ := fun x2 o2 ho2 =>
    (five_eq hP h2 (nI mu) x2 nP 0 (by omega) N (by omega)).trans (rows_eq hN hP hmu h2 bP bH (fun p d a b => (kP p d a b).2) (fun p d a b => (kH p d a b).2) x2 T (5 ^ nP) 0 (by omega) N (by omega) none rfl o2 ho2)
  obtain ⟨p2, hi2, m2, f1, f2, f3, f4⟩ := find_eq (goods := goods) (shy := shy) hN hP bP (fun p d a b => by rw [(hg p a).1, (hs p a).1]; exact (kP p d a b).2) (fun p d a b => by rw [(hg p a).1, (hs p a).1]; exact (kH p d a b).2) tried best (nI nP) (nI mu) 1000000000 nP (Nat.le_refl _) N (by omega) paid hidden (upd most nP 0) (fun p d a b => absurd b (by omega)) (fun p j a b => by
    have e : p = nP := by omega
    have e2 : j = 0 := by omega
    subst e e2
    rw [pk_us]; rfl)
  obtain ⟨t3, s3, g1, -, g3⟩ := try_eq hN hP hmu bP bH f2 f3 f4 nP 0 (by omega) 8 (by omega) 0 tried best (fun q h => absurd h (Nat.not_lt_zero q)) (fun b hb => by rw [Nat.zero_mul, bs] at hb; cases hb)
  rw [Nat.zero_mul, bs, Nat.zero_add, Nat.one_mul] at g1
  rw [Nat.zero_add, Nat.one_mul] at g3
  have g1 : pX4_tryFrom N p2 hi2 m2 (nI nP) (nI mu) 8 0 0 0 tried best 1000000000 = _ := g1
  have F0 : pX4_find N (nI mu) paid hidden most tried best goods (nI nP) shy = pX4_find_L37 N tried best goods shy N (nI nP - 1) paid hidden (upd most nP 0) (nI nP) (nI mu) 1000000000 := by
    unfold pX4_find
    rw [if_neg (gI (n := 7) (by omega) (by decide)), nI_clamp (by omega)]
  have F := F0.trans f1
  rw [kb3_t g1] at F
  cases ho : bs (fun r => decide (mu ≤ sA P nP r)) (sA H nP) (5 ^ nP) with
  | none =>
    rw [ho] at F
    rw [if_pos (show nI (lst (sA H nP) none) = 1000000000 from rfl)] at F
    refine Or.inl ⟨p2, hi2, m2, t3, s3, F, fun x2 => ?_⟩
    rw [R x2 none ho.symm, if_pos (show m4 (sA H nP) none < 0 by rw [m4]; decide), m4]
  | some b =>
    have hb := bs_lt ho
    have a2 := sA_le bH nP (Nat.le_refl _) b
    rw [ho] at F
    rw [if_neg (show ¬ nI (lst (sA H nP) (some b)) = 1000000000 from fun z => by
      have := nI_inj (b := 1000000000) (by rw [lst]; omega) (by decide) z
      rw [lst] at this; omega)] at F
    refine Or.inr ⟨p2, hi2, m2, t3, s3, nI (sA H nP b), F, ?_, fun j hj => ?_⟩
    · rw [R (-1) (some b) ho.symm, if_neg (show ¬ m4 (sA H nP) (some b) < 0 from nI_pos (by omega)), if_neg (by decide), m4]
    · rw [R (nI j) (some b) ho.symm, if_neg (show ¬ m4 (sA H nP) (some b) < 0 from nI_pos (by omega)), if_pos (nI_pos' (by omega)), m5, dig_eq nP hP hj N (by omega) b (by omega), g3 b ho j hj]
theorem op_spread {N nP nB nH nG : Nat} {kr_drawn : Int32} {tx_signs : Nat → Int32} {tx_length : Int32} {tx_place : Int32} {tl_stands : Int32} {tl_death : Int32} {tl_payers : Int32} {tl_bids : Int32} {tl_hostages : Int32} {tl_bags : Int32} {tl_bagMarks : Int32} {tl_shy : Nat → Int32} {tl_bidOf : Nat → Int32} {tl_daysOf : Nat → Int32} {nw_price : Int32} {nw_months : Int32} {nw_chest : Int32} {nw_given : Int32} {nw_fate : Int32} {nw_goods : Nat → Int32} {nw_rates : Nat → Int32} {pa_next : Int32} {pa_count : Int32} {ps : Nat → krS} {i0_held : Int32} {i0_drawn : Int32} {i0s_price : Int32} {i0s_months : Int32} {i0s_chest : Int32} {i0s_given : Int32} {i0s_fate : Int32} {i0s_goods : Nat → Int32} {i0s_rates : Nat → Int32} {i1_held : Int32} {i1_drawn : Int32} {i1s_price : Int32} {i1s_months : Int32} {i1s_chest : Int32} {i1s_given : Int32} {i1s_fate : Int32} {i1s_goods : Nat → Int32} {i1s_rates : Nat → Int32} {sc_sets : Nat → Int32} {sc_weights : Nat → Int32} {sc_count : Int32} {bk_whose : Nat → Int32} {bk_goods : Nat → Int32} {bk_count : Int32} {mo_told : Nat → Int32} {mo_st : Nat → Int32} {mo_isThere : Int32} {mo_seed : Int32} {mo_text : Nat → Int32} {mo_typed : Int32} {mo_faultAt : Int32} {mo_ahead : Nat → Int32} {mo_undoMany : Int32} {mo_weighings : Nat → Int32} {mo_weighed : Int32} {mo_book : Nat → Int32} {mo_entries : Int32} {mo_isKept : Nat → Int32} {mo_kept : Nat → Int32} {mo_seeds : Nat → Int32} (hN : 20000 ≤ N) (h : Rel nP nB nH nG kr_drawn tx_signs tx_length tx_place tl_stands tl_death tl_payers tl_bids tl_hostages tl_bags tl_bagMarks tl_shy tl_bidOf tl_daysOf nw_price nw_months nw_chest nw_given nw_fate nw_goods nw_rates pa_next pa_count ps i0_held i0_drawn i0s_price i0s_months i0s_chest i0s_given i0s_fate i0s_goods i0s_rates i1_held i1_drawn i1s_price i1s_months i1s_chest i1s_given i1s_fate i1s_goods i1s_rates sc_sets sc_weights sc_count bk_whose bk_goods bk_count mo_told mo_st mo_isThere mo_seed mo_text mo_typed mo_faultAt mo_ahead mo_undoMany mo_weighings mo_weighed mo_book mo_entries mo_isKept mo_kept mo_seeds) (sp_paid : Nat → Int32) (sp_hidden : Nat → Int32) (sp_mostFrom : Nat → Int32) (sp_tried : Nat → Int32) (sp_best : Nat → Int32) (sp_payers : Int32) (sp_much : Int32) (sp_leastHidden : Int32) (x1 : Int32) (x2 : Int32) : ∃ (r : Int32) (z_sp_paid : Nat → Int32) (z_sp_hidden : Nat → Int32) (z_sp_mostFrom : Nat → Int32) (z_sp_tried : Nat → Int32) (z_sp_best : Nat → Int32) (z_sp_payers : Int32) (z_sp_much : Int32) (z_sp_leastHidden : Int32), pX8_spread N x1 x2 tl_payers tl_shy nw_goods sp_paid sp_hidden sp_mostFrom sp_tried sp_best sp_payers sp_much sp_leastHidden = some (r, z_sp_paid, z_sp_hidden, z_sp_mostFrom, z_sp_tried, z_sp_best, z_sp_payers, z_sp_much, z_sp_leastHidden) ∧ pX9_spread N x1 x2 mo_told mo_st = some (r) ∧ Rel nP nB nH nG kr_drawn tx_signs tx_length tx_place tl_stands tl_death tl_payers tl_bids tl_hostages tl_bags tl_bagMarks tl_shy tl_bidOf tl_daysOf nw_price nw_months nw_chest nw_given nw_fate nw_goods nw_rates pa_next pa_count ps i0_held i0_drawn i0s_price i0s_months i0s_chest i0s_given i0s_fate i0s_goods i0s_rates i1_held i1_drawn i1s_price i1s_months i1s_chest i1s_given i1s_fate i1s_goods i1s_rates sc_sets sc_weights sc_count bk_whose bk_goods bk_count mo_told mo_st mo_isThere mo_seed mo_text mo_typed mo_faultAt mo_ahead mo_undoMany mo_weighings mo_weighed mo_book mo_entries mo_isKept mo_kept mo_seeds := by
  have hh := h
  obtain ⟨-, ⟨-, -, -, ⟨a2, b2, hP⟩, -, -, -, -, hsh, -, -⟩, ⟨hg, -⟩, -⟩ := h
  subst a2
  have hg2 : ∀ j, j < nP → nw_goods j = mo_st j ∧ ∃ q : Nat, q ≤ 999 ∧ mo_st j = nI q := fun j hj => by
    obtain ⟨g1, -, q, r, hq, -, e, -⟩ := hg j hj
    exact ⟨g1, q, hq, e⟩
  have key : (x2 = -1 ∨ ∃ j : Nat, j < nP ∧ x2 = nI j) → ∃ (r : Int32) (a b c d e : Nat → Int32) (f g i : Int32), pX8_spread_L16 N x1 x2 (nI nP) tl_shy nw_goods sp_paid sp_hidden sp_mostFrom sp_tried sp_best sp_payers sp_much sp_leastHidden = some (r, a, b, c, d, e, f, g, i) ∧ pX9_spread_L16 N x1 x2 mo_told mo_st = some r := by
    intro hx2
    unfold pX8_spread_L16 pX9_spread_L16
    rw [kb1_t (isMuch8 x1), kb1_t (much9 x1)]
    by_cases hb : 0 ≤ x1 ∧ x1 ≤ 9999
    · rw [bI_t hb, if_neg (show ¬ (1 : Int32) = 0 by decide), if_neg (show ¬ (1 : Int32) = 0 by decide)]
      obtain ⟨mu, hmu, rfl⟩ := i_of_le (n := 9999) (by decide) hb.1 hb.2
      rcases spr_eq hN hP hmu b2 hsh hg2 sp_paid sp_hidden sp_mostFrom sp_tried sp_best with ⟨p2, h2, m2, t2, s2, F, G⟩ | ⟨p2, h2, m2, t2, s2, L, F, G1, G2⟩
      · rw [kb9_t' F, if_pos rfl, G x2]
        exact ⟨_, _, _, _, _, _, _, _, _, rfl, rfl⟩
      · rw [kb9_t' F, if_neg (show ¬ (1 : Int32) = 0 by decide)]
        rcases hx2 with rfl | ⟨j, hj, rfl⟩
        · rw [if_pos rfl, G1]
          exact ⟨_, _, _, _, _, _, _, _, _, rfl, rfl⟩
        · rw [if_neg (nI_nm1 (by omega)), if_neg (gI (n := 6) (by omega) (by decide)), nI_clamp (by omega), G2 j hj]
          exact ⟨_, _, _, _, _, _, _, _, _, rfl, rfl⟩
    · rw [bI_f hb, if_pos rfl, if_pos rfl]
      exact ⟨_, _, _, _, _, _, _, _, _, rfl, rfl⟩
  unfold pX8_spread pX9_spread
  by_cases hx : x2 = -1
  · rw [if_pos hx, if_pos hx]
    obtain ⟨r, a, b, c, d, e, f, g, i, k1, k2⟩ := key (Or.inl hx)
    exact ⟨r, a, b, c, d, e, f, g, i, k1, k2, hh⟩
  · rw [if_neg hx, if_neg hx, kb1_t (isPayer8 x2 (n := nP) (by omega)), kb1_t (isPayer9 x2 b2)]
    by_cases hj : ∃ j : Nat, j < nP ∧ x2 = nI j
    · rw [bI_t ((in_pred (by omega)).mpr hj), if_neg (show ¬ (1 : Int32) = 0 by decide), if_neg (show ¬ (1 : Int32) = 0 by decide)]
      obtain ⟨r, a, b, c, d, e, f, g, i, k1, k2⟩ := key (Or.inr hj)
      exact ⟨r, a, b, c, d, e, f, g, i, k1, k2, hh⟩
    · rw [bI_f (fun z => hj ((in_pred (by omega)).mp z)), if_pos rfl, if_pos rfl]
      exact ⟨_, _, _, _, _, _, _, _, _, rfl, rfl, hh⟩
