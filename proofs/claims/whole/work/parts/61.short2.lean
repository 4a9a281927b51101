/-! ===== which bag is short: counts, the i-th, what to weigh next ===== -/
section Short2
variable {N nG c qm : Nat} {sets weights wg told : Nat → Int32}
/-- the reference counts all that fits -/
theorem cnt_in (k18 : Int32 → Int32 → Int32 → Option Int32) (x1 : Int32) (hC : ∀ b v, b < nG → v ≤ 9 → pX9_canBe N (nI b) (nI v) told wg (nI c) = some (bI (fitB qm c wg b v = true))) (hx : x1 = -1) {b : Nat} (hb : b < nG) (hG : nG ≤ 8) : ∀ (k v : Nat), v + k = 9 → ∀ (n : Nat), k < n → ∀ (m : Nat), m ≤ 200 → ∀ (f : Int32), ∃ f2, pX9_isShort_L32 k18 N x1 told wg (nI c) n (nI (m + ct (fun v => fitB qm c wg b (v + 1)) v)) f (nI b) (nI (v + 1)) = k18 (nI (m + ct (fun v => fitB qm c wg b (v + 1)) 9)) f2 (nI (b + 1)) := by
  intro k
  induction k with
  | zero =>
    intro v hv n hn m hm f
    obtain ⟨n, rfl⟩ := fuel hn
    have e : v = 9 := by omega
    subst e
    refine ⟨f, ?_⟩
    rw [pX9_isShort_L32, if_pos (by decide), nI_1]
  | succ k ih =>
    intro v hv n hn m hm f
    obtain ⟨n, rfl⟩ := fuel hn
    have hcl := ct_le (fun v => fitB qm c wg b (v + 1)) v
    rw [pX9_isShort_L32, if_neg (show ¬ (9 : Int32) < nI (v + 1) from nI_nlt (a := 9) (by omega) (by decide)), kb1_t (hC b (v + 1) hb (by omega))]
    unfold pX9_isShort_L67 pX9_isShort_L71
    rw [nI_1 (v + 1), nI_1 (m + ct (fun v => fitB qm c wg b (v + 1)) v)]
    by_cases hf : fitB qm c wg b (v + 1) = true
    · have e1 : ct (fun v => fitB qm c wg b (v + 1)) (v + 1) = ct (fun v => fitB qm c wg b (v + 1)) v + 1 := by rw [ct, if_pos hf]
      rw [bI_t hf, if_neg (show ¬ (1 : Int32) = 0 by decide), if_neg (show ¬ nI (m + ct (fun v => fitB qm c wg b (v + 1)) v) = x1 by rw [hx]; exact nI_nm1 (by omega))]
      obtain ⟨f2, h⟩ := ih (v + 1) (by omega) n (by omega) m hm f
      rw [e1, ← Nat.add_assoc] at h
      exact ⟨f2, h⟩
    · have e1 : ct (fun v => fitB qm c wg b (v + 1)) (v + 1) = ct (fun v => fitB qm c wg b (v + 1)) v := by rw [ct, if_neg hf]; omega
      rw [bI_f hf, if_pos rfl]
      obtain ⟨f2, h⟩ := ih (v + 1) (by omega) n (by omega) m hm f
      rw [e1] at h
      exact ⟨f2, h⟩
theorem cnt_out (hC : ∀ b v, b < nG → v ≤ 9 → pX9_canBe N (nI b) (nI v) told wg (nI c) = some (bI (fitB qm c wg b v = true))) (hN : 20000 ≤ N) (h5 : told 5 = nI nG) (hG : nG ≤ 8) : ∀ (k b : Nat), b + k = nG → ∀ (n : Nat), k < n → ∀ (f : Int32), pX9_isShort_L18 N (-1) told wg (nI c) n (nI (sm (fun b => ct (fun v => fitB qm c wg b (v + 1)) 9) b)) f (nI b) = some (nI (sm (fun b => ct (fun v => fitB qm c wg b (v + 1)) 9) nG)) := by
  intro k
  induction k with
  | zero =>
    intro b hb n hn f
    obtain ⟨n, rfl⟩ := fuel hn
    have e : b = nG := by omega
    subst e
    rw [pX9_isShort_L18, h5, if_pos (nI_le (Nat.le_refl _) (by omega)), if_pos rfl]
  | succ k ih =>
    intro b hb n hn f
    obtain ⟨n, rfl⟩ := fuel hn
    have hsl := sm_le (f := fun b => ct (fun v => fitB qm c wg b (v + 1)) 9) (c := 9) (n := b) (fun k _ => ct_le _ _)
    rw [pX9_isShort_L18, h5, if_neg (nI_ge (by omega) (by omega))]
    obtain ⟨f2, h⟩ := cnt_in (pX9_isShort_L18 N (-1) told wg (nI c) n) (-1) hC rfl (b := b) (by omega) hG 9 0 (by omega) N (by omega) (sm (fun b => ct (fun v => fitB qm c wg b (v + 1)) 9) b) (by omega) f
    have h : pX9_isShort_L32 (pX9_isShort_L18 N (-1) told wg (nI c) n) N (-1) told wg (nI c) N (nI (sm (fun b => ct (fun v => fitB qm c wg b (v + 1)) 9) b)) f (nI b) 1 = _ := h
    rw [h]
    exact ih (b + 1) (by omega) n (by omega) f2
/-- found already: nothing changes it -/
theorem fnd_in (k18 : Int32 → Int32 → Int32 → Option Int32) {x : Nat} (hx : x ≤ 200) (hC : ∀ b v, b < nG → v ≤ 9 → pX9_canBe N (nI b) (nI v) told wg (nI c) = some (bI (fitB qm c wg b v = true))) {b : Nat} (hb : b < nG) {f : Int32} (hk : ∀ m, x < m → m ≤ 9 * (b + 1) → k18 (nI m) f (nI (b + 1)) = some f) (hG : nG ≤ 8) : ∀ (k v : Nat), v + k = 9 → ∀ (n : Nat), k < n → ∀ (m : Nat), x < m → m ≤ 9 * b + v → pX9_isShort_L32 k18 N (nI x) told wg (nI c) n (nI m) f (nI b) (nI (v + 1)) = some f := by
  intro k
  induction k with
  | zero =>
    intro v hv n hn m hm hm2
    obtain ⟨n, rfl⟩ := fuel hn
    have e : v = 9 := by omega
    subst e
    rw [pX9_isShort_L32, if_pos (by decide), nI_1]
    exact hk m hm (by omega)
  | succ k ih =>
    intro v hv n hn m hm hm2
    obtain ⟨n, rfl⟩ := fuel hn
    rw [pX9_isShort_L32, if_neg (show ¬ (9 : Int32) < nI (v + 1) from nI_nlt (a := 9) (by omega) (by decide)), kb1_t (hC b (v + 1) hb (by omega))]
    unfold pX9_isShort_L67 pX9_isShort_L71
    rw [nI_1 (v + 1), nI_1 m]
    by_cases hf : fitB qm c wg b (v + 1) = true
    · rw [bI_t hf, if_neg (show ¬ (1 : Int32) = 0 by decide), if_neg (show ¬ nI m = nI x from fun e => by have := nI_inj (by omega) (by omega) e; omega)]
      exact ih (v + 1) (by omega) n (by omega) (m + 1) (by omega) (by omega)
    · rw [bI_f hf, if_pos rfl]
      exact ih (v + 1) (by omega) n (by omega) m hm (by omega)
theorem fnd_out {x : Nat} (hx : x ≤ 200) (hC : ∀ b v, b < nG → v ≤ 9 → pX9_canBe N (nI b) (nI v) told wg (nI c) = some (bI (fitB qm c wg b v = true))) (hN : 20000 ≤ N) (h5 : told 5 = nI nG) (hG : nG ≤ 8) (f : Int32) : ∀ (k b : Nat), b + k = nG → ∀ (n : Nat), k < n → ∀ (m : Nat), x < m → m ≤ 9 * b → pX9_isShort_L18 N (nI x) told wg (nI c) n (nI m) f (nI b) = some f := by
  intro k
  induction k with
  | zero =>
    intro b hb n hn m hm hm2
    obtain ⟨n, rfl⟩ := fuel hn
    rw [pX9_isShort_L18, h5, if_pos (nI_le (by omega) (by omega)), if_neg (nI_nm1 (by omega))]
  | succ k ih =>
    intro b hb n hn m hm hm2
    obtain ⟨n, rfl⟩ := fuel hn
    rw [pX9_isShort_L18, h5, if_neg (nI_ge (by omega) (by omega))]
    exact fnd_in (pX9_isShort_L18 N (nI x) told wg (nI c) n) hx hC (b := b) (by omega) (fun m h1 h2 => ih (b + 1) (by omega) n (by omega) m h1 h2) hG 9 0 (by omega) N (by omega) m hm (by omega)
/-- the i-th -/
theorem ith_in {bs : Nat → Int32} (k5 : Int32 → Int32 → Option Int32) (k18 : Int32 → Int32 → Int32 → Option Int32) (x1 : Int32) (hC : ∀ b v, b < nG → v ≤ 9 → pX9_canBe N (nI b) (nI v) told wg (nI c) = some (bI (fitB qm c wg b v = true))) (hbs : ∀ u, 1 ≤ u → u ≤ 9 → bs u = nI (mk (fun b => fitB qm c wg b u) nG)) {b : Nat} (hb : b < nG) (hG : nG ≤ 8) (hk : ∀ m, m ≤ 9 * (b + 1) → ∃ r, k5 (nI m) (nI (b + 1)) = some r ∧ k18 (nI m) (-1) (nI (b + 1)) = some r) (hd : ∀ (x m : Nat) (f : Int32), x1 = nI x → x < m → m ≤ 9 * (b + 1) → k18 (nI m) f (nI (b + 1)) = some f) : ∀ (k v : Nat), v + k = 9 → ∀ (n n2 : Nat), k < n → k < n2 → ∀ (m : Nat), m ≤ 9 * b + v → ∃ r, pX3_fitAt_L17 k5 x1 bs n (nI m) (nI b) (nI (v + 1)) = some r ∧ pX9_isShort_L32 k18 N x1 told wg (nI c) n2 (nI m) (-1) (nI b) (nI (v + 1)) = some r := by
  intro k
  induction k with
  | zero =>
    intro v hv n n2 hn hn2 m hm
    obtain ⟨n, rfl⟩ := fuel hn
    obtain ⟨n2, rfl⟩ := fuel hn2
    have e : v = 9 := by omega
    subst e
    rw [pX3_fitAt_L17, pX9_isShort_L32, if_pos (show (9 : Int32) < nI (9 + 1) by decide), if_pos (show (9 : Int32) < nI (9 + 1) by decide), nI_1]
    exact hk m (by omega)
  | succ k ih =>
    intro v hv n n2 hn hn2 m hm
    obtain ⟨n, rfl⟩ := fuel hn
    obtain ⟨n2, rfl⟩ := fuel hn2
    have h9 : ¬ (9 : Int32) < nI (v + 1) := nI_nlt (a := 9) (by omega) (by decide)
    have hp := pow_le hG
    have hlt := mk_lt (fun b => fitB qm c wg b (v + 1)) nG
    have hbit := b8 (g := mk (fun b => fitB qm c wg b (v + 1)) nG) (h := b) (by omega) (by omega)
    rw [mk_bit _ nG hG b (by omega), decide_eq_true hb, Bool.true_and] at hbit
    rw [pX3_fitAt_L17, pX9_isShort_L32, if_neg h9, if_neg h9, kb1_t (hC b (v + 1) hb (by omega)), if_neg (gI (n := 10) (by omega) (by decide)), nI_clamp (by omega), hbs (v + 1) (by omega) (by omega), hbit]
    unfold pX9_isShort_L67 pX9_isShort_L71 pX3_fitAt_L56
    rw [nI_1 (v + 1), nI_1 m]
    by_cases hf : fitB qm c wg b (v + 1) = true
    · rw [if_pos hf, bI_t hf, if_neg (show ¬ (1 : Int32) = 0 by decide), if_neg (show ¬ (1 : Int32) = 0 by decide)]
      by_cases hx : nI m = x1
      · rw [if_pos hx, if_pos hx]
        refine ⟨_, rfl, ?_⟩
        rw [← hx]
        rw [← hx] at hd
        exact fnd_in k18 (x := m) (by omega) hC hb (fun m2 h1 h2 => hd m m2 _ rfl h1 h2) hG k (v + 1) (by omega) n2 (by omega) (m + 1) (by omega) (by omega)
      · rw [if_neg hx, if_neg hx]
        exact ih (v + 1) (by omega) n n2 (by omega) (by omega) (m + 1) (by omega)
    · rw [if_neg hf, bI_f hf, if_pos rfl, if_pos rfl]
      exact ih (v + 1) (by omega) n n2 (by omega) (by omega) m (by omega)
theorem ith_out {bs : Nat → Int32} (x1 : Int32) (hx1 : ¬ x1 = -1) (hC : ∀ b v, b < nG → v ≤ 9 → pX9_canBe N (nI b) (nI v) told wg (nI c) = some (bI (fitB qm c wg b v = true))) (hbs : ∀ u, 1 ≤ u → u ≤ 9 → bs u = nI (mk (fun b => fitB qm c wg b u) nG)) (hN : 20000 ≤ N) (h5 : told 5 = nI nG) (hG : nG ≤ 8) : ∀ (k b : Nat), b + k = nG → ∀ (n n2 : Nat), k < n → k < n2 → ∀ (m : Nat), m ≤ 9 * b → ∃ r, pX3_fitAt_L5 N x1 bs (nI nG) n (nI m) (nI b) = some r ∧ pX9_isShort_L18 N x1 told wg (nI c) n2 (nI m) (-1) (nI b) = some r := by
  intro k
  induction k with
  | zero =>
    intro b hb n n2 hn hn2 m hm
    obtain ⟨n, rfl⟩ := fuel hn
    obtain ⟨n2, rfl⟩ := fuel hn2
    have hle : nI nG ≤ nI b := nI_le (by omega) (by omega)
    rw [pX3_fitAt_L5, pX9_isShort_L18, h5, if_pos hle, if_pos hle, if_neg hx1]
    exact ⟨_, rfl, rfl⟩
  | succ k ih =>
    intro b hb n n2 hn hn2 m hm
    obtain ⟨n, rfl⟩ := fuel hn
    obtain ⟨n2, rfl⟩ := fuel hn2
    have hle : ¬ nI nG ≤ nI b := nI_ge (by omega) (by omega)
    rw [pX3_fitAt_L5, pX9_isShort_L18, h5, if_neg hle, if_neg hle]
    refine ith_in (pX3_fitAt_L5 N x1 bs (nI nG) n) (pX9_isShort_L18 N x1 told wg (nI c) n2) x1 hC hbs (b := b) (by omega) hG (fun m h1 => ih (b + 1) (by omega) n n2 (by omega) (by omega) m h1) (fun x m f e h1 h2 => ?_) 9 0 (by omega) N N (by omega) (by omega) m (by omega)
    subst e
    exact fnd_out (x := x) (by omega) hC hN h5 hG f k (b + 1) (by omega) n2 (by omega) m h1 h2
/-! parts that would weigh alike -/
def lk (s b v : Nat) : Nat := if s.testBit b = true then v else 0
def nL (qm c nG : Nat) (wg : Nat → Int32) (s l : Nat) : Nat := sm (fun b => ct (fun v => decide (lk s b (v + 1) = l) && fitB qm c wg b (v + 1)) 9) nG
theorem gp_v (k16 : Int32 → Int32 → Int32 → Int32 → Option Int32) (k4 : Int32 → Int32 → Option Int32) (hC : ∀ b v, b < nG → v ≤ 9 → pX9_canBe N (nI b) (nI v) told wg (nI c) = some (bI (fitB qm c wg b v = true))) {s l b : Nat} (hs : s < 256) (hl : l ≤ 9) (hb : b < nG) (hG : nG ≤ 8) (v2 : Int32) : ∀ (k v : Nat), v + k = 9 → ∀ (n : Nat), k < n → ∀ (m : Nat), m ≤ 200 → pX9_greatestPart_L30 k16 k4 N (nI s) told wg (nI c) n v2 (nI l) (nI (m + ct (fun v => decide (lk s b (v + 1) = l) && fitB qm c wg b (v + 1)) v)) (nI b) (nI (v + 1)) = k16 v2 (nI l) (nI (m + ct (fun v => decide (lk s b (v + 1) = l) && fitB qm c wg b (v + 1)) 9)) (nI (b + 1)) := by
  intro k
  induction k with
  | zero =>
    intro v hv n hn m hm
    obtain ⟨n, rfl⟩ := fuel hn
    have e : v = 9 := by omega
    subst e
    rw [pX9_greatestPart_L30, if_pos (show (9 : Int32) < nI (9 + 1) by decide), nI_1]
  | succ k ih =>
    intro v hv n hn m hm
    obtain ⟨n, rfl⟩ := fuel hn
    have hcl := ct_le (fun v => decide (lk s b (v + 1) = l) && fitB qm c wg b (v + 1)) v
    have hI := ih (v + 1) (by omega) n (by omega) m hm
    rw [pX9_greatestPart_L30, if_neg (show ¬ (9 : Int32) < nI (v + 1) from nI_nlt (a := 9) (by omega) (by decide)), kb1_t (has9 (nI s) (nI b)), b8 hs (show b < 8 by omega)]
    unfold pX9_greatestPart_L52 pX9_greatestPart_L77 pX9_greatestPart_L78
    rw [kb1_t (hC b (v + 1) hb (by omega)), nI_1 (v + 1), addz, nI_1 (m + ct (fun v => decide (lk s b (v + 1) = l) && fitB qm c wg b (v + 1)) v)]
    have main : ∀ (w : Nat), w = lk s b (v + 1) → w ≤ 9 → (if nI w = nI l then (if bI (fitB qm c wg b (v + 1) = true) = 0 then pX9_greatestPart_L30 k16 k4 N (nI s) told wg (nI c) n v2 (nI l) (nI (m + ct (fun v => decide (lk s b (v + 1) = l) && fitB qm c wg b (v + 1)) v)) (nI b) (nI (v + 1 + 1)) else pX9_greatestPart_L30 k16 k4 N (nI s) told wg (nI c) n v2 (nI l) (nI (m + ct (fun v => decide (lk s b (v + 1) = l) && fitB qm c wg b (v + 1)) v + 1)) (nI b) (nI (v + 1 + 1))) else pX9_greatestPart_L30 k16 k4 N (nI s) told wg (nI c) n v2 (nI l) (nI (m + ct (fun v => decide (lk s b (v + 1) = l) && fitB qm c wg b (v + 1)) v)) (nI b) (nI (v + 1 + 1))) = k16 v2 (nI l) (nI (m + ct (fun v => decide (lk s b (v + 1) = l) && fitB qm c wg b (v + 1)) 9)) (nI (b + 1)) := by
      intro w hw hw9
      by_cases hwl : w = l
      · rw [if_pos (by rw [hwl])]
        by_cases hf : fitB qm c wg b (v + 1) = true
        · rw [bI_t hf, if_neg (show ¬ (1 : Int32) = 0 by decide)]
          rw [ct, if_pos (by rw [← hw, decide_eq_true hwl, hf]; rfl), ← Nat.add_assoc] at hI
          exact hI
        · rw [bI_f hf, if_pos rfl]
          rw [ct, if_neg (by rw [Bool.and_eq_true]; exact fun z => hf z.2), Nat.add_zero] at hI
          exact hI
      · rw [if_neg (fun e => hwl (nI_inj (by omega) (by omega) e))]
        rw [ct, if_neg (by rw [Bool.and_eq_true, decide_eq_true_eq, ← hw]; exact fun z => hwl z.1), Nat.add_zero] at hI
        exact hI
    by_cases hbt : s.testBit b = true
    · rw [if_pos hbt, bI_t rfl, if_neg (show ¬ (1 : Int32) = 0 by decide)]
      exact main (v + 1) (by unfold lk; rw [if_pos hbt]) (by omega)
    · rw [if_neg hbt, bI_f (by decide), if_pos rfl]
      exact main 0 (by unfold lk; rw [if_neg hbt]) (by omega)
theorem gp_b (k4 : Int32 → Int32 → Option Int32) (hC : ∀ b v, b < nG → v ≤ 9 → pX9_canBe N (nI b) (nI v) told wg (nI c) = some (bI (fitB qm c wg b v = true))) (hN : 20000 ≤ N) (h5 : told 5 = nI nG) {s l : Nat} (hs : s < 256) (hl : l ≤ 9) (hG : nG ≤ 8) {M : Nat} (hM : M ≤ 200) : ∀ (k b : Nat), b + k = nG → ∀ (n : Nat), k < n → pX9_greatestPart_L16 k4 N (nI s) told wg (nI c) n (nI M) (nI l) (nI (sm (fun b => ct (fun v => decide (lk s b (v + 1) = l) && fitB qm c wg b (v + 1)) 9) b)) (nI b) = k4 (nI (max M (nL qm c nG wg s l))) (nI (l + 1)) := by
  intro k
  induction k with
  | zero =>
    intro b hb n hn
    obtain ⟨n, rfl⟩ := fuel hn
    have e : b = nG := by omega
    subst e
    have hsl := sm_le (f := fun b => ct (fun v => decide (lk s b (v + 1) = l) && fitB qm c wg b (v + 1)) 9) (c := 9) (n := b) (fun k _ => ct_le _ _)
    rw [pX9_greatestPart_L16, h5, if_pos (nI_le (Nat.le_refl _) (by omega))]
    unfold pX9_greatestPart_L105 nL
    rw [nI_1]
    by_cases hc : sm (fun b => ct (fun v => decide (lk s b (v + 1) = l) && fitB qm c wg b (v + 1)) 9) b ≤ M
    · rw [if_pos (nI_le hc (by omega)), Nat.max_eq_left hc]
    · rw [if_neg (nI_ge (by omega) (by omega)), Nat.max_eq_right (by omega)]
  | succ k ih =>
    intro b hb n hn
    obtain ⟨n, rfl⟩ := fuel hn
    have hsl := sm_le (f := fun b => ct (fun v => decide (lk s b (v + 1) = l) && fitB qm c wg b (v + 1)) 9) (c := 9) (n := b) (fun k _ => ct_le _ _)
    rw [pX9_greatestPart_L16, h5, if_neg (nI_ge (by omega) (by omega))]
    have h := gp_v (pX9_greatestPart_L16 k4 N (nI s) told wg (nI c) n) k4 hC hs hl (b := b) (by omega) hG (nI M) 9 0 (by omega) N (by omega) (sm (fun b => ct (fun v => decide (lk s b (v + 1) = l) && fitB qm c wg b (v + 1)) 9) b) (by omega)
    have h : pX9_greatestPart_L30 (pX9_greatestPart_L16 k4 N (nI s) told wg (nI c) n) k4 N (nI s) told wg (nI c) N (nI M) (nI l) (nI (sm (fun b => ct (fun v => decide (lk s b (v + 1) = l) && fitB qm c wg b (v + 1)) 9) b)) (nI b) 1 = _ := h
    rw [h]
    exact ih (b + 1) (by omega) n (by omega)
theorem nL_le (hG : nG ≤ 8) (s l : Nat) : nL qm c nG wg s l ≤ 72 := by
  have h := sm_le (f := fun b => ct (fun v => decide (lk s b (v + 1) = l) && fitB qm c wg b (v + 1)) 9) (c := 9) (n := nG) (fun k _ => ct_le _ _)
  unfold nL; omega
theorem gp_l (hC : ∀ b v, b < nG → v ≤ 9 → pX9_canBe N (nI b) (nI v) told wg (nI c) = some (bI (fitB qm c wg b v = true))) (hN : 20000 ≤ N) (h5 : told 5 = nI nG) {s : Nat} (hs : s < 256) (hG : nG ≤ 8) : ∀ (k l : Nat), l + k = 10 → ∀ (n : Nat), k < n → pX9_greatestPart_L4 N (nI s) told wg (nI c) n (nI (mx (nL qm c nG wg s) l)) (nI l) = some (nI (mx (nL qm c nG wg s) 10)) := by
  intro k
  induction k with
  | zero =>
    intro l hl n hn
    obtain ⟨n, rfl⟩ := fuel hn
    have e : l = 10 := by omega
    subst e
    rw [pX9_greatestPart_L4, if_pos (show (9 : Int32) < nI 10 by decide)]
  | succ k ih =>
    intro l hl n hn
    obtain ⟨n, rfl⟩ := fuel hn
    have hm := mx_le (f := nL qm c nG wg s) (c := 72) (n := l) (fun k _ => nL_le hG s k)
    rw [pX9_greatestPart_L4, if_neg (show ¬ (9 : Int32) < nI l from nI_nlt (a := 9) (by omega) (by decide))]
    have h := gp_b (pX9_greatestPart_L4 N (nI s) told wg (nI c) n) hC hN h5 hs (l := l) (by omega) hG (M := mx (nL qm c nG wg s) l) (by omega) nG 0 (by omega) N (by omega)
    have h : pX9_greatestPart_L16 (pX9_greatestPart_L4 N (nI s) told wg (nI c) n) N (nI s) told wg (nI c) N (nI (mx (nL qm c nG wg s) l)) (nI l) 0 0 = _ := h
    rw [h]
    exact ih (l + 1) (by omega) n (by omega)
theorem greatest9 (hC : ∀ b v, b < nG → v ≤ 9 → pX9_canBe N (nI b) (nI v) told wg (nI c) = some (bI (fitB qm c wg b v = true))) (hN : 20000 ≤ N) (h5 : told 5 = nI nG) {s : Nat} (hs : s < 256) (hG : nG ≤ 8) : pX9_greatestPart N (nI s) told wg (nI c) = some (nI (mx (nL qm c nG wg s) 10)) :=
  gp_l hC hN h5 hs hG 10 0 (by omega) N (by omega)
/-! the same parts by masks -/
def cL (qm c nG : Nat) (wg : Nat → Int32) (s l : Nat) : Nat := ct (fun b => s.testBit b && fitB qm c wg b l) nG
theorem nL_pos {s l : Nat} (h0 : 1 ≤ l) (h9 : l ≤ 9) : nL qm c nG wg s l = cL qm c nG wg s l := by
  unfold nL cL
  rw [← sm_ct]
  refine sm_cong (fun b _ => ?_)
  by_cases hb : s.testBit b = true
  · have e : ct (fun v => decide (lk s b (v + 1) = l) && fitB qm c wg b (v + 1)) 9 = ct (fun v => decide (v = l - 1) && fitB qm c wg b (v + 1)) 9 := by
      refine ct_cong (fun v _ => ?_)
      have : lk s b (v + 1) = v + 1 := by unfold lk; rw [if_pos hb]
      rw [this]
      by_cases hv : v + 1 = l
      · rw [decide_eq_true hv, decide_eq_true (show v = l - 1 by omega)]
      · rw [decide_eq_false hv, decide_eq_false (show ¬ v = l - 1 by omega)]
    rw [e, ct_one (fun v => fitB qm c wg b (v + 1)) (l - 1) 9, hb, Bool.true_and, show l - 1 + 1 = l by omega]
    by_cases hf : fitB qm c wg b l = true
    · rw [if_pos ⟨by omega, hf⟩, if_pos hf]
    · rw [if_neg (fun z => hf z.2), if_neg hf]
  · rw [if_neg (by rw [Bool.and_eq_true]; exact fun z => hb z.1)]
    refine ct_false _ 9 (fun v _ => ?_)
    have : lk s b (v + 1) = 0 := by unfold lk; rw [if_neg hb]
    rw [this, decide_eq_false (show ¬ 0 = l by omega), Bool.false_and]
theorem nL_sum (s : Nat) : sm (fun u => cL qm c nG wg s (u + 1)) 9 + nL qm c nG wg s 0 = tot qm c nG wg 9 := by
  have e1 : sm (fun u => cL qm c nG wg s (u + 1)) 9 = sm (fun b => ct (fun u => s.testBit b && fitB qm c wg b (u + 1)) 9) nG := sm_swap (fun b u => s.testBit b && fitB qm c wg b (u + 1)) 9 nG
  have e2 : tot qm c nG wg 9 = sm (fun b => ct (fun u => fitB qm c wg b (u + 1)) 9) nG := sm_swap (fun b u => fitB qm c wg b (u + 1)) 9 nG
  rw [e1, e2]
  unfold nL
  rw [← sm_add]
  refine sm_cong (fun b _ => ?_)
  by_cases hb : s.testBit b = true
  · have z : ct (fun v => decide (lk s b (v + 1) = 0) && fitB qm c wg b (v + 1)) 9 = 0 := ct_false _ 9 (fun v _ => by
      have : lk s b (v + 1) = v + 1 := by unfold lk; rw [if_pos hb]
      rw [this, decide_eq_false (show ¬ v + 1 = 0 by omega), Bool.false_and])
    rw [z, Nat.add_zero]
    exact ct_cong (fun u _ => by rw [hb, Bool.true_and])
  · have z : ct (fun u => s.testBit b && fitB qm c wg b (u + 1)) 9 = 0 := ct_false _ 9 (fun u _ => by
      have : s.testBit b = false := by cases h : s.testBit b with
        | false => rfl
        | true => exact absurd h hb
      rw [this, Bool.false_and])
    rw [z, Nat.zero_add]
    refine ct_cong (fun u _ => ?_)
    have : lk s b (u + 1) = 0 := by unfold lk; rw [if_neg hb]
    rw [this, decide_eq_true (rfl : (0 : Nat) = 0), Bool.true_and]
theorem cL_pc (hG : nG ≤ 8) (s l : Nat) : pc (mk (fun b => fitB qm c wg b l) nG &&& s) = cL qm c nG wg s l := by
  rw [pc_ct]
  unfold cL
  have key : ∀ n, n ≤ 8 → ct (fun k => (mk (fun b => fitB qm c wg b l) nG &&& s).testBit k) n = ct (fun b => s.testBit b && fitB qm c wg b l) (min n nG) := by
    intro n
    induction n with
    | zero => intro _; rw [Nat.zero_min]; rfl
    | succ n ih =>
      intro hn
      rw [ct, ih (by omega), Nat.testBit_and, mk_bit _ nG hG n (by omega)]
      by_cases hlt : n < nG
      · rw [Nat.min_eq_left (by omega), Nat.min_eq_left (by omega), ct, decide_eq_true hlt, Bool.true_and, Bool.and_comm]
      · rw [Nat.min_eq_right (by omega), Nat.min_eq_right (by omega), decide_eq_false hlt, Bool.false_and, Bool.false_and]
        rfl
  have := key 8 (Nat.le_refl _)
  rw [Nat.min_eq_right hG] at this
  exact this
theorem sm_mono (f : Nat → Nat) : ∀ (k n : Nat), sm f n ≤ sm f (n + k)
  | 0, n => Nat.le_refl _
  | k + 1, n => by
    have := sm_mono f k n
    show sm f n ≤ sm f (n + k) + f (n + k)
    omega
theorem alike8 {bs : Nat → Int32} (hbs : ∀ u, 1 ≤ u → u ≤ 9 → bs u = nI (mk (fun b => fitB qm c wg b u) nG)) {s : Nat} (hs : s < 256) (hG : nG ≤ 8) : ∀ (k v : Nat), v + k = 9 → ∀ (n : Nat), k < n → pX3_greatestAlike_L10 (nI s) bs n (nI (tot qm c nG wg 9 - sm (fun u => cL qm c nG wg s (u + 1)) v)) (nI (mx (fun u => cL qm c nG wg s (u + 1)) v)) (nI (v + 1)) = some (nI (max (mx (fun u => cL qm c nG wg s (u + 1)) 9) (nL qm c nG wg s 0))) := by
  have hp := pow_le hG
  have hT := tot_le (qm := qm) (c := c) (wg := wg) hG (n := 9) (by omega)
  have hsum := nL_sum (qm := qm) (c := c) (nG := nG) (wg := wg) s
  intro k
  induction k with
  | zero =>
    intro v hv n hn
    obtain ⟨n, rfl⟩ := fuel hn
    have e : v = 9 := by omega
    subst e
    have e0 : tot qm c nG wg 9 - sm (fun u => cL qm c nG wg s (u + 1)) 9 = nL qm c nG wg s 0 := by omega
    have hm := mx_le (f := fun u => cL qm c nG wg s (u + 1)) (c := 8) (n := 9) (fun k _ => Nat.le_trans (ct_le _ _) hG)
    rw [pX3_greatestAlike_L10, if_pos (show (9 : Int32) < nI (9 + 1) by decide), e0]
    by_cases hc : mx (fun u => cL qm c nG wg s (u + 1)) 9 < nL qm c nG wg s 0
    · rw [if_pos (nI_lt hc (by omega)), Nat.max_eq_right (by omega)]
    · rw [if_neg (nI_nlt (by omega) (by omega)), Nat.max_eq_left (by omega)]
  | succ k ih =>
    intro v hv n hn
    obtain ⟨n, rfl⟩ := fuel hn
    have hlt := mk_lt (fun b => fitB qm c wg b (v + 1)) nG
    have hmono := sm_mono (fun u => cL qm c nG wg s (u + 1)) (8 - v) (v + 1)
    rw [show v + 1 + (8 - v) = 9 by omega] at hmono
    have hstep : sm (fun u => cL qm c nG wg s (u + 1)) (v + 1) = sm (fun u => cL qm c nG wg s (u + 1)) v + cL qm c nG wg s (v + 1) := rfl
    have hand : mk (fun b => fitB qm c wg b (v + 1)) nG &&& s < 256 := Nat.lt_of_le_of_lt Nat.and_le_right hs
    have hcl : cL qm c nG wg s (v + 1) ≤ 8 := Nat.le_trans (ct_le _ _) hG
    have hm := mx_le (f := fun u => cL qm c nG wg s (u + 1)) (c := 8) (n := v) (fun k _ => Nat.le_trans (ct_le _ _) hG)
    rw [pX3_greatestAlike_L10, if_neg (show ¬ (9 : Int32) < nI (v + 1) from nI_nlt (a := 9) (by omega) (by decide)), if_neg (gI (n := 10) (by omega) (by decide)), nI_clamp (by omega), hbs (v + 1) (by omega) (by omega), and8, kb1_t (bitc _ hand), cL_pc hG, pk_sub (by omega), nI_1]
    have hI := ih (v + 1) (by omega) n (by omega)
    rw [hstep, ← Nat.sub_sub, mx] at hI
    by_cases hc : mx (fun u => cL qm c nG wg s (u + 1)) v < cL qm c nG wg s (v + 1)
    · rw [if_pos (nI_lt hc (by omega))]
      rw [Nat.max_eq_right (by omega)] at hI
      exact hI
    · rw [if_neg (nI_nlt (by omega) (by omega))]
      rw [Nat.max_eq_left (by omega)] at hI
      exact hI
theorem alike_eq {bs : Nat → Int32} (hN : 20000 ≤ N) (hbs : ∀ u, 1 ≤ u → u ≤ 9 → bs u = nI (mk (fun b => fitB qm c wg b u) nG)) {s : Nat} (hs : s < 256) (hG : nG ≤ 8) : pX3_greatestAlike N (nI s) bs (nI (tot qm c nG wg 9)) = some (nI (mx (nL qm c nG wg s) 10)) := by
  have h := alike8 hbs hs hG 9 0 (by omega) N (by omega)
  have h : pX3_greatestAlike_L10 (nI s) bs N (nI (tot qm c nG wg 9)) 0 1 = _ := h
  unfold pX3_greatestAlike
  rw [h, Nat.max_comm, mx_front (nL qm c nG wg s) 9, mx_cong (f := fun u => cL qm c nG wg s (u + 1)) (g := fun k => nL qm c nG wg s (k + 1)) (fun u hu => (nL_pos (by omega) (by omega)).symm)]
theorem gp0 : mx (nL qm c nG wg 0) 10 = tot qm c nG wg 9 := by
  have hsum := nL_sum (qm := qm) (c := c) (nG := nG) (wg := wg) 0
  have c0 : ∀ l, cL qm c nG wg 0 l = 0 := fun l => ct_false _ nG (fun b _ => by rw [Nat.zero_testBit, Bool.false_and])
  have s0 : sm (fun u => cL qm c nG wg 0 (u + 1)) 9 = 0 := by
    have h := sm_le (f := fun u => cL qm c nG wg 0 (u + 1)) (c := 0) (n := 9) (fun k _ => by rw [c0]; exact Nat.le_refl _)
    omega
  rw [mx_front]
  have m0 : mx (fun k => nL qm c nG wg 0 (k + 1)) 9 = 0 := by
    have h := mx_le (f := fun k => nL qm c nG wg 0 (k + 1)) (c := 0) (n := 9) (fun k hk => by rw [nL_pos (by omega) (by omega), c0]; exact Nat.le_refl _)
    omega
  rw [m0]; omega
theorem next_sim {bs : Nat → Int32} (hC : ∀ b v, b < nG → v ≤ 9 → pX9_canBe N (nI b) (nI v) told wg (nI c) = some (bI (fitB qm c wg b v = true))) (hbs : ∀ u, 1 ≤ u → u ≤ 9 → bs u = nI (mk (fun b => fitB qm c wg b u) nG)) (hN : 20000 ≤ N) (h5 : told 5 = nI nG) (hG : nG ≤ 8) : ∀ (k i : Nat), i + k = 2 ^ nG → ∀ (n n2 : Nat), k < n → k < n2 → ∀ (b w : Int32), ∃ r, pX3_nextSet_L10 N bs (nI (tot qm c nG wg 9)) (nI nG) n b w (nI i) = some r ∧ pX9_weighNext_L10 N told wg (nI c) n2 b w (nI i) = some r := by
  have hp := pow_le hG
  have hsh := shl1 nG (by omega)
  intro k
  induction k with
  | zero =>
    intro i hi n n2 hn hn2 b w
    obtain ⟨n, rfl⟩ := fuel hn
    obtain ⟨n2, rfl⟩ := fuel hn2
    have hle : nI (2 ^ nG) ≤ nI i := nI_le (by omega) (by omega)
    rw [pX3_nextSet_L10, pX9_weighNext_L10, h5, hsh, if_pos hle, if_pos hle]
    exact ⟨_, rfl, rfl⟩
  | succ k ih =>
    intro i hi n n2 hn hn2 b w
    obtain ⟨n, rfl⟩ := fuel hn
    obtain ⟨n2, rfl⟩ := fuel hn2
    have hle : ¬ nI (2 ^ nG) ≤ nI i := nI_ge (by omega) (by omega)
    rw [pX3_nextSet_L10, pX9_weighNext_L10, h5, hsh, if_neg hle, if_neg hle, kb1_t (alike_eq hN hbs (s := i) (by omega) hG), kb1_t (greatest9 hC hN h5 (s := i) (by omega) hG)]
    unfold pX3_nextSet_L41 pX9_weighNext_L40 pX9_weighNext_L53
    rw [nI_1]
    by_cases hc : w ≤ nI (mx (nL qm c nG wg i) 10)
    · rw [if_pos hc, if_pos hc, if_pos hc]
      exact ih (i + 1) (by omega) n n2 (by omega) (by omega) _ _
    · rw [if_neg hc, if_neg hc, if_neg hc]
      exact ih (i + 1) (by omega) n n2 (by omega) (by omega) _ _
end Short2
theorem op_isShort {N nP nB nH nG : Nat} {kr_drawn : Int32} {tx_signs : Nat → Int32} {tx_length : Int32} {tx_place : Int32} {tl_stands : Int32} {tl_death : Int32} {tl_payers : Int32} {tl_bids : Int32} {tl_hostages : Int32} {tl_bags : Int32} {tl_bagMarks : Int32} {tl_shy : Nat → Int32} {tl_bidOf : Nat → Int32} {tl_daysOf : Nat → Int32} {nw_price : Int32} {nw_months : Int32} {nw_chest : Int32} {nw_given : Int32} {nw_fate : Int32} {nw_goods : Nat → Int32} {nw_rates : Nat → Int32} {pa_next : Int32} {pa_count : Int32} {ps : Nat → krS} {i0_held : Int32} {i0_drawn : Int32} {i0s_price : Int32} {i0s_months : Int32} {i0s_chest : Int32} {i0s_given : Int32} {i0s_fate : Int32} {i0s_goods : Nat → Int32} {i0s_rates : Nat → Int32} {i1_held : Int32} {i1_drawn : Int32} {i1s_price : Int32} {i1s_months : Int32} {i1s_chest : Int32} {i1s_given : Int32} {i1s_fate : Int32} {i1s_goods : Nat → Int32} {i1s_rates : Nat → Int32} {sc_sets : Nat → Int32} {sc_weights : Nat → Int32} {sc_count : Int32} {bk_whose : Nat → Int32} {bk_goods : Nat → Int32} {bk_count : Int32} {mo_told : Nat → Int32} {mo_st : Nat → Int32} {mo_isThere : Int32} {mo_seed : Int32} {mo_text : Nat → Int32} {mo_typed : Int32} {mo_faultAt : Int32} {mo_ahead : Nat → Int32} {mo_undoMany : Int32} {mo_weighings : Nat → Int32} {mo_weighed : Int32} {mo_book : Nat → Int32} {mo_entries : Int32} {mo_isKept : Nat → Int32} {mo_kept : Nat → Int32} {mo_seeds : Nat → Int32} (hN : 20000 ≤ N) (h : Rel nP nB nH nG kr_drawn tx_signs tx_length tx_place tl_stands tl_death tl_payers tl_bids tl_hostages tl_bags tl_bagMarks tl_shy tl_bidOf tl_daysOf nw_price nw_months nw_chest nw_given nw_fate nw_goods nw_rates pa_next pa_count ps i0_held i0_drawn i0s_price i0s_months i0s_chest i0s_given i0s_fate i0s_goods i0s_rates i1_held i1_drawn i1s_price i1s_months i1s_chest i1s_given i1s_fate i1s_goods i1s_rates sc_sets sc_weights sc_count bk_whose bk_goods bk_count mo_told mo_st mo_isThere mo_seed mo_text mo_typed mo_faultAt mo_ahead mo_undoMany mo_weighings mo_weighed mo_book mo_entries mo_isKept mo_kept mo_seeds) (sc_bagsShortBy : Nat → Int32) (x1 : Int32) : ∃ (r : Int32) (z_sc_bagsShortBy : Nat → Int32) (z_sc_fits : Int32), pX8_isShort N x1 tl_bags tl_bagMarks sc_sets sc_weights sc_count sc_bagsShortBy = some (r, z_sc_bagsShortBy, z_sc_fits) ∧ pX9_isShort N x1 mo_told mo_weighings mo_weighed = some (r) ∧ Rel nP nB nH nG kr_drawn tx_signs tx_length tx_place tl_stands tl_death tl_payers tl_bids tl_hostages tl_bags tl_bagMarks tl_shy tl_bidOf tl_daysOf nw_price nw_months nw_chest nw_given nw_fate nw_goods nw_rates pa_next pa_count ps i0_held i0_drawn i0s_price i0s_months i0s_chest i0s_given i0s_fate i0s_goods i0s_rates i1_held i1_drawn i1s_price i1s_months i1s_chest i1s_given i1s_fate i1s_goods i1s_rates sc_sets sc_weights sc_count bk_whose bk_goods bk_count mo_told mo_st mo_isThere mo_seed mo_text mo_typed mo_faultAt mo_ahead mo_undoMany mo_weighings mo_weighed mo_book mo_entries mo_isKept mo_kept mo_seeds := by
  have hh := h
  obtain ⟨-, ⟨-, -, -, -, -, -, ⟨a5, b5, hG⟩, ⟨e6, qm, hqm, e7⟩, -, -, -⟩, -, -, -, -, ⟨c, hc, e1, e2, hs⟩, -, -⟩ := h
  subst a5 e1 e2 e7
  have hp := pow_le hG
  have hC : ∀ b v, b < nG → v ≤ 9 → pX9_canBe N (nI b) (nI v) mo_told mo_weighings (nI c) = some (bI (fitB qm c mo_weighings b v = true)) := fun b v hb hv => canBe9 hN hG hc hqm e6 (fun j hj => (hs j hj).2.2) hb hv
  obtain ⟨bs2, f1, f2⟩ := find_out hN hG hc hqm hs 9 0 (by omega) N (by omega) sc_bagsShortBy (fun u h1 h2 => absurd h2 (by omega))
  have f1 : pX3_findShort N sc_sets sc_weights (nI c) sc_bagsShortBy (nI nG) (nI qm) = some (bs2, nI (tot qm c nG mo_weighings 9)) := f1
  unfold pX8_isShort pX9_isShort
  rw [kb2_t f1]
  by_cases h1 : x1 = -1
  · subst h1
    have hcnt := cnt_out hC hN b5 hG nG 0 (by omega) N (by omega) (-1)
    have hcnt : pX9_isShort_L18 N (-1) mo_told mo_weighings (nI c) N 0 (-1) 0 = some (nI (sm (fun b => ct (fun v => fitB qm c mo_weighings b (v + 1)) 9) nG)) := hcnt
    have e : sm (fun b => ct (fun v => fitB qm c mo_weighings b (v + 1)) 9) nG = tot qm c nG mo_weighings 9 := (sm_swap (fun b u => fitB qm c mo_weighings b (u + 1)) 9 nG).symm
    rw [if_pos rfl, if_neg (show ¬ (-1 : Int32) = -2 by decide), hcnt, e]
    exact ⟨_, _, _, rfl, rfl, hh⟩
  · rw [if_neg h1]
    by_cases h2 : x1 = -2
    · rw [if_pos h2, if_pos h2]
      obtain ⟨r, n1, n2⟩ := next_sim hC f2 hN b5 hG (2 ^ nG - 1) 1 (by omega) N N (by omega) (by omega) (-1) (nI (tot qm c nG mo_weighings 9))
      have n1 : pX3_nextSet N bs2 (nI (tot qm c nG mo_weighings 9)) (nI nG) = some r := n1
      have n3 : pX9_weighNext N mo_told mo_weighings (nI c) = some r := by
        unfold pX9_weighNext
        have g0 := greatest9 hC hN b5 (s := 0) (by omega) hG
        rw [gp0] at g0
        have g0 : pX9_greatestPart N 0 mo_told mo_weighings (nI c) = some (nI (tot qm c nG mo_weighings 9)) := g0
        rw [kb1_t g0]
        exact n2
      rw [kb1_t n1, kb1_t n3]
      exact ⟨_, _, _, rfl, rfl, hh⟩
    · rw [if_neg h2, if_neg h2]
      obtain ⟨r, n1, n2⟩ := ith_out x1 h1 hC f2 hN b5 hG nG 0 (by omega) N N (by omega) (by omega) 0 (by omega)
      have n1 : pX3_fitAt N x1 bs2 (nI nG) = some r := n1
      rw [kb1_t n1]
      exact ⟨r, _, _, rfl, n2, hh⟩
