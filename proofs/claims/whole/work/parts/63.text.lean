/-! ===== reading the text ===== -/
def sg (text : Nat → Int32) (n b : Nat) : Int32 := if b < n then text b else -1
def nb (text : Nat → Int32) : Nat → Nat → Nat
  | 0, a => a
  | k + 1, a => if text a = 32 then nb text k (a + 1) else a
def nx (text : Nat → Int32) (n a : Nat) : Nat := nb text (n - a) a
def Txt (n : Nat) (signs text : Nat → Int32) : Prop := n ≤ 240 ∧ ∀ j, j < n → signs j = text j ∧ ∃ q : Nat, q ≤ 255 ∧ text j = nI q
theorem nb_spec (text : Nat → Int32) : ∀ (k a : Nat), a ≤ nb text k a ∧ nb text k a ≤ a + k ∧ (nb text k a < a + k → ¬ text (nb text k a) = 32)
  | 0, a => by rw [nb]; exact ⟨by omega, by omega, fun h => absurd h (by omega)⟩
  | k + 1, a => by
    rw [nb]
    by_cases h : text a = 32
    · rw [if_pos h]
      obtain ⟨h1, h2, h3⟩ := nb_spec text k (a + 1)
      exact ⟨by omega, by omega, fun z => h3 (by omega)⟩
    · rw [if_neg h]
      exact ⟨by omega, by omega, fun _ => h⟩
theorem nx_le {text : Nat → Int32} {n a : Nat} (h : a ≤ n) : a ≤ nx text n a ∧ nx text n a ≤ n ∧ (nx text n a < n → ¬ text (nx text n a) = 32) := by
  obtain ⟨h1, h2, h3⟩ := nb_spec text (n - a) a
  unfold nx
  exact ⟨h1, by omega, fun z => h3 (by omega)⟩
theorem nx_id {text : Nat → Int32} {n b : Nat} (hb : b < n → ¬ text b = 32) : nx text n b = b := by
  unfold nx
  cases e : n - b with
  | zero => rw [nb]
  | succ k => rw [nb, if_neg (hb (by omega))]
theorem nx_nx {text : Nat → Int32} {n a : Nat} (h : a ≤ n) : nx text n (nx text n a) = nx text n a := nx_id (nx_le h).2.2
theorem sg_lt {text : Nat → Int32} {n b : Nat} (h : b < n) : sg text n b = text b := if_pos h
theorem sg_ge {text : Nat → Int32} {n b : Nat} (h : ¬ b < n) : sg text n b = -1 := if_neg h
theorem sg_x {text : Nat → Int32} {n b : Nat} {x : Int32} (hx : ¬ x = -1) (h : sg text n b = x) : b < n := by
  by_cases hb : b < n
  · exact hb
  · rw [sg_ge hb] at h; exact absurd h.symm hx
theorem k240p {v : Nat} (h : 240 ≤ v) (hv : v < 2 ^ 31) : (240 : Int32) ≤ nI v := nI_le h hv
theorem k240n {v : Nat} (h : v < 240) : ¬ (240 : Int32) ≤ nI v := nI_ge h (by decide)
theorem k3p {v : Nat} (h : 3 ≤ v) (hv : v < 2 ^ 31) : (3 : Int32) ≤ nI v := nI_le h hv
theorem k3n {v : Nat} (h : v < 3) : ¬ (3 : Int32) ≤ nI v := nI_ge h (by decide)
theorem k3lt {v : Nat} (h : 3 < v) (hv : v < 2 ^ 31) : (3 : Int32) < nI v := nI_lt h hv
theorem k3nlt {v : Nat} (h : v ≤ 3) : ¬ (3 : Int32) < nI v := nI_nlt h (by decide)
theorem k999p {v : Nat} (h : v ≤ 999) : nI v ≤ (999 : Int32) := nI_le h (by decide)
theorem k999n {v : Nat} (h : 999 < v) (hv : v < 2 ^ 31) : ¬ nI v ≤ (999 : Int32) := nI_ge h hv
variable {N n : Nat} {signs text : Nat → Int32}
theorem here8 (T : Txt n signs text) {b : Nat} (hb : b ≤ n) : pX7_here signs (nI n) (nI b) = some (sg text n b) := by
  obtain ⟨T1, T2⟩ := T
  unfold pX7_here
  rw [if_neg (nI_pos (by omega))]
  by_cases h : b < n
  · rw [if_neg (nI_ge h (by omega)), if_neg (gI (n := 240) (by omega) (by decide)), nI_clamp (by omega), sg_lt h, (T2 b h).1]
  · rw [if_pos (nI_le (by omega) (by omega)), sg_ge h]
theorem skipL (T : Txt n signs text) : ∀ (k a : Nat), a + k = n → ∀ v m, v ≤ a → k < m → pX7_skipBlanks_L2 signs (nI n) m (nI v) (nI a) = some (nI (nb text k a)) := by
  have T1 := T.1
  intro k
  induction k with
  | zero =>
    intro a ha v m hv hm
    obtain ⟨m, rfl⟩ := fuel hm
    rw [pX7_skipBlanks_L2, nb]
    by_cases h : 240 ≤ v
    · rw [if_pos (k240p h (by omega))]
    · rw [if_neg (k240n (by omega)), kb1_t (here8 T (by omega)), sg_ge (by omega), if_neg (by decide)]
  | succ k ih =>
    intro a ha v m hv hm
    obtain ⟨m, rfl⟩ := fuel hm
    rw [pX7_skipBlanks_L2, nb, if_neg (k240n (by omega)), kb1_t (here8 T (by omega)), sg_lt (by omega)]
    by_cases h : text a = 32
    · rw [if_pos h, if_pos h, nI_1, nI_1]
      exact ih (a + 1) (by omega) (v + 1) m (by omega) (by omega)
    · rw [if_neg h, if_neg h]
theorem skip8 (hN : 20000 ≤ N) (T : Txt n signs text) {a : Nat} (ha : a ≤ n) : pX7_skipBlanks N signs (nI n) (nI a) = some (nI (nx text n a)) :=
  have T1 := T.1
  skipL T (n - a) a (by omega) 0 N (by omega) (by omega)
theorem nextL (T : Txt n signs text) : ∀ (k a : Nat), a + k = n → ∀ m, k < m → pX9_next_L0 text (nI n) m (nI a) = some (sg text n (nb text k a), nI (nb text k a)) := by
  have T1 := T.1
  intro k
  induction k with
  | zero =>
    intro a ha m hm
    obtain ⟨m, rfl⟩ := fuel hm
    rw [pX9_next_L0, nb, if_pos (nI_le (by omega) (by omega))]
    unfold pX9_next_L38
    rw [if_pos (nI_le (by omega) (by omega)), sg_ge (by omega)]
  | succ k ih =>
    intro a ha m hm
    obtain ⟨m, rfl⟩ := fuel hm
    rw [pX9_next_L0, nb, if_neg (nI_ge (by omega) (by omega)), if_neg (gI (n := 240) (by omega) (by decide)), nI_clamp (by omega)]
    by_cases h : text a = 32
    · rw [if_pos h, if_pos h, nI_1]
      exact ih (a + 1) (by omega) m (by omega)
    · rw [if_neg h, if_neg h]
      unfold pX9_next_L38
      rw [if_neg (nI_ge (by omega) (by omega)), if_neg (gI (n := 240) (by omega) (by decide)), nI_clamp (by omega), sg_lt (by omega)]
theorem next9 (hN : 20000 ≤ N) (T : Txt n signs text) {a : Nat} (ha : a ≤ n) : pX9_next N text (nI n) (nI a) = some (sg text n (nx text n a), nI (nx text n a)) :=
  have T1 := T.1
  nextL T (n - a) a (by omega) N (by omega)
theorem takes8 (hN : 20000 ≤ N) (T : Txt n signs text) {a : Nat} (ha : a ≤ n) (x : Int32) : pX7_takes N x signs (nI n) (nI a) = if sg text n (nx text n a) = x then some (1, nI (nx text n a + 1)) else some (0, nI (nx text n a)) := by
  unfold pX7_takes
  rw [kb1_t (skip8 hN T ha), kb1_t (here8 T (nx_le ha).2.1), nI_1]
theorem takes9 (hN : 20000 ≤ N) (T : Txt n signs text) {a : Nat} (ha : a ≤ n) (x w : Int32) : pX9_takes N x text (nI n) (nI a) w = if sg text n (nx text n a) = x then some (1, nI (nx text n a + 1), w) else some (0, nI (nx text n a), 1) := by
  unfold pX9_takes pX9_faults
  rw [kb2_t (next9 hN T ha), nI_1, kb2_e, if_neg (show ¬ ¬ ((0 : Int32) = 0 ∨ (0 : Int32) = 1) by decide)]
theorem fail0 (c q p : Int32) : pX7_fail c q 0 p = some (c, q) := by
  unfold pX7_fail; rw [if_pos rfl]
theorem failn {f : Int32} (h : ¬ f = 0) (c q p : Int32) : pX7_fail c q f p = some (f, p) := by
  unfold pX7_fail; rw [if_neg h]
theorem fail_eq (c q f p : Int32) : ∃ f2 p2, pX7_fail c q f p = some (f2, p2) ∧ (¬ f = 0 → f2 = f ∧ p2 = p) ∧ (f = 0 → f2 = c ∧ p2 = q) := by
  by_cases h : f = 0
  · subst h
    exact ⟨c, q, fail0 c q p, fun z => absurd rfl z, fun _ => ⟨rfl, rfl⟩⟩
  · exact ⟨f, p, failn h c q p, fun _ => ⟨rfl, rfl⟩, fun z => absurd z h⟩
theorem close_eq (hN : 20000 ≤ N) (T : Txt n signs text) {a : Nat} (ha : a ≤ n) (f p : Int32) : ∃ (a2 : Nat) (f2 p2 : Int32), a ≤ a2 ∧ a2 ≤ n ∧ pX7_close N signs (nI n) (nI a) f p = some (nI a2, f2, p2) ∧ (¬ f = 0 → f2 = f ∧ p2 = p) ∧ (f = 0 → (f2 = 0 ∧ p2 = p ∧ ∀ w, pX9_takes N 59 text (nI n) (nI a) w = some (1, nI a2, w)) ∨ (¬ f2 = 0 ∧ ∀ w, pX9_takes N 59 text (nI n) (nI a) w = some (0, p2, f2))) := by
  obtain ⟨l1, l2, -⟩ := nx_le (text := text) ha
  unfold pX7_close
  by_cases h : sg text n (nx text n a) = 59
  · have h3 := sg_x (by decide) h
    refine ⟨nx text n a + 1, f, p, by omega, by omega, ?_, fun _ => ⟨rfl, rfl⟩, fun z => Or.inl ⟨z, rfl, fun w => ?_⟩⟩
    · rw [takes8 hN T ha 59, if_pos h, kb2_e, if_neg (show ¬ (1 : Int32) = 0 by decide)]
    · rw [takes9 hN T ha 59 w, if_pos h]
  · obtain ⟨f2, p2, e1, e2, e3⟩ := fail_eq 1 (nI (nx text n a)) f p
    refine ⟨nx text n a, f2, p2, l1, l2, ?_, e2, fun z => Or.inr ⟨?_, fun w => ?_⟩⟩
    · rw [takes8 hN T ha 59, if_neg h, kb2_e, if_pos rfl, kb2_t e1]
    · rw [(e3 z).1]; decide
    · rw [takes9 hN T ha 59 w, if_neg h, (e3 z).1, (e3 z).2]
theorem isFig8 (x : Int32) : pX7_isFigure x = some (bI (48 ≤ x ∧ x ≤ 57)) := by
  unfold pX7_isFigure
  by_cases h0 : x < 48
  · rw [if_pos h0, bI_f (fun z => i_nlt.mpr z.1 h0)]
  · rw [if_neg h0]
    by_cases h1 : 57 < x
    · rw [if_pos h1, bI_f (fun z => i_nlt.mpr z.2 h1)]
    · rw [if_neg h1, bI_t ⟨i_nlt.mp h0, i_nlt.mp h1⟩]
theorem isFig9 (x : Int32) : pX9_in x.toInt64 48 57 = some (bI (48 ≤ x ∧ x ≤ 57)) := in_k x 48 57 (by decide) (by decide)
theorem fig_d {x : Int32} (h : 48 ≤ x ∧ x ≤ 57) : ∃ d : Nat, d ≤ 9 ∧ x = nI (48 + d) := by
  obtain ⟨j, hj, e⟩ := i_of_le (x := x) (n := 57) (by decide) (by have := h.1; rw [fa_le] at this ⊢; exact Int.le_trans (by decide) this) h.2
  have h1 : 48 ≤ j := by
    rcases Nat.lt_or_ge j 48 with z | z
    · have := nI_ge (b := 48) z (by decide)
      rw [← e] at this
      exact absurd h.1 this
    · exact z
  exact ⟨j - 48, by omega, by rw [e]; congr 1; omega⟩
theorem figs (T : Txt n signs text) (lo hi f p : Int32) {s : Nat} : ∀ (k c : Nat), s + c + k = n → ∀ m1, k < m1 → ∀ (v w : Nat), v ≤ 999 → w ≤ 9999 → (c ≤ 3 → v = w) → (c ≤ 2 → v ≤ 99) → (c ≤ 1 → v ≤ 9) → (c = 0 → v = 0) →
    ∃ (e v2 w2 : Nat), s + c ≤ e ∧ e ≤ n ∧ v2 ≤ 999 ∧ w2 ≤ 9999 ∧ (e ≤ s + 3 → v2 = w2) ∧ (e < n → ¬ (48 ≤ text e ∧ text e ≤ 57)) ∧ (s + c < e → 48 ≤ text (s + c) ∧ text (s + c) ≤ 57) ∧ pX7_number_L15 lo hi signs (nI n) f p m1 (nI s) (nI v) (nI c) (nI (s + c)) = pX7_number_L70 lo hi f p (nI s) (nI v2) (nI e) ∧
      ∀ x wr rd m2, k < m2 → pX9_takesNumber_L34 lo hi x text (nI n) wr rd m2 (nI s) (nI (s + c)) (nI w) = pX9_takesNumber_L121 lo hi x wr rd (nI s) (nI e) (nI w2) := by
  have T1 := T.1
  intro k
  induction k with
  | zero =>
    intro c hc m1 hm1 v w hv hw h3 h2 h1 h0
    obtain ⟨m1, rfl⟩ := fuel hm1
    refine ⟨s + c, v, w, by omega, by omega, hv, hw, fun z => h3 (by omega), fun z => absurd z (by omega), fun z => absurd z (by omega), ?_, fun x wr rd m2 hm2 => ?_⟩
    · rw [pX7_number_L15]
      by_cases h : 240 ≤ c
      · rw [if_pos (k240p h (by omega))]
      · rw [if_neg (k240n (by omega)), kb1_t (here8 T (by omega)), sg_ge (by omega), kb1_t (isFig8 _), bI_f (by decide), if_pos rfl]
    · obtain ⟨m2, rfl⟩ := fuel hm2
      rw [pX9_takesNumber_L34, if_pos (nI_le (by omega) (by omega))]
  | succ k ih =>
    intro c hc m1 hm1 v w hv hw h3 h2 h1 h0
    obtain ⟨m1, rfl⟩ := fuel hm1
    by_cases hf : 48 ≤ text (s + c) ∧ text (s + c) ≤ 57
    · obtain ⟨d, hd, ed⟩ := fig_d hf
      by_cases hc3 : 3 ≤ c
      · obtain ⟨w1, hw1, ew1⟩ : ∃ w1 : Nat, w1 ≤ 9999 ∧ ∀ x wr rd m2, k < m2 → pX9_takesNumber_L34 lo hi x text (nI n) wr rd (m2 + 1) (nI s) (nI (s + c)) (nI w) = pX9_takesNumber_L34 lo hi x text (nI n) wr rd m2 (nI s) (nI (s + (c + 1))) (nI w1) := by
          by_cases h9 : w ≤ 999
          · refine ⟨10 * w + (48 + d) - 48, by omega, fun x wr rd m2 hm2 => ?_⟩
            rw [pX9_takesNumber_L34, if_neg (nI_ge (by omega) (by omega)), if_neg (gI (n := 240) (by omega) (by decide)), nI_clamp (by omega), kb1_t (isFig9 _), bI_t hf, if_neg (show ¬ (1 : Int32) = 0 by decide), if_pos (k999p h9), ed, nI_mk, nI_add]
            have := pk_sub (a := 10 * w + (48 + d)) (b := 48) (by omega)
            have : nI (10 * w + (48 + d)) - 48 = nI (10 * w + (48 + d) - 48) := this
            rw [this]
            unfold pX9_takesNumber_L105
            rw [nI_1, Nat.add_assoc]
          · refine ⟨w, hw, fun x wr rd m2 hm2 => ?_⟩
            rw [pX9_takesNumber_L34, if_neg (nI_ge (by omega) (by omega)), if_neg (gI (n := 240) (by omega) (by decide)), nI_clamp (by omega), kb1_t (isFig9 _), bI_t hf, if_neg (show ¬ (1 : Int32) = 0 by decide), if_neg (k999n (by omega) (by omega))]
            unfold pX9_takesNumber_L105
            rw [nI_1, Nat.add_assoc]
        obtain ⟨e, v2, w2, g1, g2, g3, g4, g5, g6, -, g7, g8⟩ := ih (c + 1) (by omega) m1 (by omega) v w1 hv hw1 (fun z => absurd z (by omega)) (fun z => absurd z (by omega)) (fun z => absurd z (by omega)) (fun z => absurd z (by omega))
        refine ⟨e, v2, w2, by omega, g2, g3, g4, g5, g6, fun _ => hf, ?_, fun x wr rd m2 hm2 => ?_⟩
        · rw [pX7_number_L15, if_neg (k240n (by omega)), kb1_t (here8 T (by omega)), sg_lt (by omega), kb1_t (isFig8 _), bI_t hf, if_neg (show ¬ (1 : Int32) = 0 by decide), if_pos (k3p hc3 (by omega))]
          unfold pX7_number_L54
          rw [nI_1, nI_1, Nat.add_assoc]
          exact g7
        · obtain ⟨m2, rfl⟩ := fuel hm2
          rw [ew1 x wr rd m2 (by omega)]
          exact g8 x wr rd m2 (by omega)
      · have evw := h3 (by omega)
        subst evw
        have b2 := h2 (by omega)
        obtain ⟨e, v2, w2, g1, g2, g3, g4, g5, g6, -, g7, g8⟩ := ih (c + 1) (by omega) m1 (by omega) (10 * v + d) (10 * v + d) (by omega) (by omega) (fun _ => rfl) (fun z => by have := h1 (by omega); omega) (fun z => by have := h0 (by omega); omega) (fun z => absurd z (by omega))
        have e10 : nI v * 10 + nI (48 + d) - 48 = nI (10 * v + d) := by
          have h1 : nI v * 10 = nI (v * 10) := pk_mul v 10
          have h2 : nI (v * 10 + (48 + d)) - 48 = nI (v * 10 + (48 + d) - 48) := pk_sub (a := v * 10 + (48 + d)) (b := 48) (by omega)
          rw [h1, nI_add, h2]; congr 1; omega
        have e10' : 10 * nI v + nI (48 + d) - 48 = nI (10 * v + d) := by
          have h2 : nI (10 * v + (48 + d)) - 48 = nI (10 * v + (48 + d) - 48) := pk_sub (a := 10 * v + (48 + d)) (b := 48) (by omega)
          rw [nI_mk, nI_add, h2]; congr 1; omega
        refine ⟨e, v2, w2, by omega, g2, g3, g4, g5, g6, fun _ => hf, ?_, fun x wr rd m2 hm2 => ?_⟩
        · rw [pX7_number_L15, if_neg (k240n (by omega)), kb1_t (here8 T (by omega)), sg_lt (by omega), kb1_t (isFig8 _), bI_t hf, if_neg (show ¬ (1 : Int32) = 0 by decide), if_neg (k3n (by omega)), kb1_t (here8 T (by omega)), sg_lt (by omega), ed, e10]
          unfold pX7_number_L54
          rw [nI_1, nI_1, Nat.add_assoc]
          exact g7
        · obtain ⟨m2, rfl⟩ := fuel hm2
          rw [pX9_takesNumber_L34, if_neg (nI_ge (by omega) (by omega)), if_neg (gI (n := 240) (by omega) (by decide)), nI_clamp (by omega), kb1_t (isFig9 _), bI_t hf, if_neg (show ¬ (1 : Int32) = 0 by decide), if_pos (k999p hv), ed, e10']
          unfold pX9_takesNumber_L105
          rw [nI_1, Nat.add_assoc]
          exact g8 x wr rd m2 (by omega)
    · refine ⟨s + c, v, w, by omega, by omega, hv, hw, fun z => h3 (by omega), fun _ => hf, fun z => absurd z (by omega), ?_, fun x wr rd m2 hm2 => ?_⟩
      · rw [pX7_number_L15, if_neg (k240n (by omega)), kb1_t (here8 T (by omega)), sg_lt (by omega), kb1_t (isFig8 _), bI_f hf, if_pos rfl]
      · obtain ⟨m2, rfl⟩ := fuel hm2
        rw [pX9_takesNumber_L34, if_neg (nI_ge (by omega) (by omega)), if_neg (gI (n := 240) (by omega) (by decide)), nI_clamp (by omega), kb1_t (isFig9 _), bI_f hf, if_pos rfl]
theorem num_eq (hN : 20000 ≤ N) (T : Txt n signs text) {a : Nat} (ha : a ≤ n) {lo hi : Nat} (hlo : lo ≤ 999) (hhi : hi ≤ 999) (f p : Int32) : ∃ (v a2 : Nat) (f2 p2 : Int32), v ≤ 999 ∧ a ≤ a2 ∧ a2 ≤ n ∧ pX7_number N (nI lo) (nI hi) signs (nI n) (nI a) f p = some (nI v, nI a2, f2, p2) ∧ (¬ f = 0 → f2 = f ∧ p2 = p) ∧
    (f = 0 → (f2 = 0 ∧ p2 = p ∧ lo ≤ v ∧ v ≤ hi ∧ ∀ x : Nat, x < 37 → ∀ w u rd, pX9_takesNumber N (nI lo) (nI hi) (nI x) text (nI n) (nI a) w u rd = some (1, nI a2, w, nI v, upd rd x (nI v))) ∨ (¬ f2 = 0 ∧ ∀ x : Nat, x < 37 → ∀ w u rd, ∃ u2, pX9_takesNumber N (nI lo) (nI hi) (nI x) text (nI n) (nI a) w u rd = some (0, p2, f2, u2, rd))) := by
  have T1 := T.1
  obtain ⟨l1, l2, -⟩ := nx_le (text := text) ha
  have F := figs T (nI lo) (nI hi) f p (s := nx text n a) (n - nx text n a) 0 (by omega) N (by omega) 0 0 (by omega) (by omega) (fun _ => rfl) (fun _ => by omega) (fun _ => by omega) (fun _ => rfl)
  obtain ⟨e, v, w, g1, g2, g3, g4, g5, g6, gf, g7, g8⟩ := F
  have g7 : pX7_number_L15 (nI lo) (nI hi) signs (nI n) f p N (nI (nx text n a)) 0 0 (nI (nx text n a)) = _ := g7
  have C : pX7_number N (nI lo) (nI hi) signs (nI n) (nI a) f p = pX7_number_L70 (nI lo) (nI hi) f p (nI (nx text n a)) (nI v) (nI e) := by
    unfold pX7_number
    rw [kb1_t (skip8 hN T ha)]
    exact g7
  by_cases hs : e = nx text n a
  · have nf : ¬ (48 ≤ sg text n (nx text n a) ∧ sg text n (nx text n a) ≤ 57) := by
      by_cases hb : nx text n a < n
      · rw [sg_lt hb]
        have := g6 (by omega)
        rw [hs] at this
        exact this
      · rw [sg_ge hb]; decide
    obtain ⟨f2, p2, e1, e2, e3⟩ := fail_eq 1 (nI (nx text n a)) f p
    refine ⟨v, e, f2, p2, g3, by omega, g2, ?_, e2, fun z => Or.inr ⟨by rw [(e3 z).1]; decide, fun x hx w u rd => ⟨u, ?_⟩⟩⟩
    · rw [C]
      unfold pX7_number_L70
      rw [if_pos (by rw [hs]), kb2_t e1]
    · unfold pX9_takesNumber pX9_faults
      rw [kb2_t (next9 hN T ha), kb1_t (isFig9 _), bI_f nf, if_pos rfl, kb2_e, if_neg (show ¬ ¬ ((0 : Int32) = 0 ∨ (0 : Int32) = 1) by decide), (e3 z).1, (e3 z).2]
  · have hb : nx text n a < n := by omega
    by_cases nf : 48 ≤ text (nx text n a) ∧ text (nx text n a) ≤ 57
    · have M : ∀ x wr u rd, pX9_takesNumber N (nI lo) (nI hi) x text (nI n) (nI a) wr u rd = pX9_takesNumber_L121 (nI lo) (nI hi) x wr rd (nI (nx text n a)) (nI e) (nI w) := by
        intro x wr u rd
        unfold pX9_takesNumber
        rw [kb2_t (next9 hN T ha), kb1_t (isFig9 _), sg_lt hb, bI_t nf, if_neg (show ¬ (1 : Int32) = 0 by decide)]
        exact g8 x wr rd N (by omega)
      have hne : ¬ nI e = nI (nx text n a) := fun z => hs (nI_inj (by omega) (by omega) z)
      have es : nI e - nI (nx text n a) = nI (e - nx text n a) := pk_sub (by omega)
      obtain ⟨f2, p2, e1, e2, e3⟩ := fail_eq 2 (nI (nx text n a)) f p
      have bad : pX7_number_L109 f p (nI (nx text n a)) (nI v) (nI e) = some (nI v, nI e, f2, p2) := by
        unfold pX7_number_L109
        rw [kb2_t e1]
      have bad9 : f = 0 → ∀ rd, pX9_takesNumber_L147 rd (nI (nx text n a)) (nI e) (nI w) = some (0, p2, f2, nI w, rd) := by
        intro z rd
        unfold pX9_takesNumber_L147 pX9_faults
        rw [kb2_e, if_neg (show ¬ ¬ ((0 : Int32) = 0 ∨ (0 : Int32) = 1) by decide), (e3 z).1, (e3 z).2]
      by_cases h3 : 3 < e - nx text n a
      · refine ⟨v, e, f2, p2, g3, by omega, g2, ?_, e2, fun z => Or.inr ⟨by rw [(e3 z).1]; decide, fun x hx wr u rd => ⟨nI w, ?_⟩⟩⟩
        · rw [C]
          unfold pX7_number_L70
          rw [if_neg hne, es, if_pos (k3lt h3 (by omega)), bad]
        · rw [M]
          unfold pX9_takesNumber_L121
          rw [es, if_pos (k3lt h3 (by omega)), bad9 z]
      · have ev := g5 (by omega)
        subst ev
        by_cases hr : lo ≤ v ∧ v ≤ hi
        · refine ⟨v, e, f, p, g3, by omega, g2, ?_, fun _ => ⟨rfl, rfl⟩, fun z => Or.inl ⟨z, rfl, hr.1, hr.2, fun x hx wr u rd => ?_⟩⟩
          · rw [C]
            unfold pX7_number_L70
            rw [if_neg hne, es, if_neg (k3nlt (by omega)), if_neg (nI_nlt hr.1 (by omega)), if_pos (nI_le hr.2 (by omega))]
          · rw [M]
            unfold pX9_takesNumber_L121
            rw [es, if_neg (k3nlt (by omega)), kb1_t (in_eq _ _ _), bI_t ⟨nI_le hr.1 (by omega), nI_le hr.2 (by omega)⟩, if_neg (show ¬ (1 : Int32) = 0 by decide), if_neg (gI (n := 37) hx (by decide)), nI_clamp (by omega)]
        · refine ⟨v, e, f2, p2, g3, by omega, g2, ?_, e2, fun z => Or.inr ⟨by rw [(e3 z).1]; decide, fun x hx wr u rd => ⟨nI v, ?_⟩⟩⟩
          · rw [C]
            unfold pX7_number_L70
            rw [if_neg hne, es, if_neg (k3nlt (by omega)), bad]
            by_cases h1 : v < lo
            · rw [if_pos (nI_lt h1 (by omega))]
            · rw [if_neg (nI_nlt (by omega) (by omega)), if_neg (nI_ge (by omega) (by omega))]
          · rw [M]
            unfold pX9_takesNumber_L121
            rw [es, if_neg (k3nlt (by omega)), kb1_t (in_eq _ _ _), bI_f (fun q => hr ⟨?_, ?_⟩), if_pos rfl, bad9 z]
            · rcases Nat.lt_or_ge v lo with y | y
              · exact absurd q.1 (nI_ge y (by omega))
              · exact y
            · rcases Nat.lt_or_ge hi v with y | y
              · exact absurd q.2 (nI_ge y (by omega))
              · exact y
    · exact absurd (gf (by omega)) nf
