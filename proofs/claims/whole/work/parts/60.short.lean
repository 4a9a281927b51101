/-! ===== which bag is short ===== -/
/-- how many below n -/
def ct (p : Nat → Bool) : Nat → Nat
  | 0 => 0
  | n + 1 => ct p n + (if p n = true then 1 else 0)
def sm (f : Nat → Nat) : Nat → Nat
  | 0 => 0
  | n + 1 => sm f n + f n
def mx (f : Nat → Nat) : Nat → Nat
  | 0 => 0
  | n + 1 => max (mx f n) (f n)
theorem ct_cong {p q : Nat → Bool} : ∀ {n : Nat}, (∀ k, k < n → p k = q k) → ct p n = ct q n
  | 0, _ => rfl
  | n + 1, h => by rw [ct, ct, ct_cong (fun k hk => h k (by omega)), h n (by omega)]
theorem sm_cong {f g : Nat → Nat} : ∀ {n : Nat}, (∀ k, k < n → f k = g k) → sm f n = sm g n
  | 0, _ => rfl
  | n + 1, h => by rw [sm, sm, sm_cong (fun k hk => h k (by omega)), h n (by omega)]
theorem mx_cong {f g : Nat → Nat} : ∀ {n : Nat}, (∀ k, k < n → f k = g k) → mx f n = mx g n
  | 0, _ => rfl
  | n + 1, h => by rw [mx, mx, mx_cong (fun k hk => h k (by omega)), h n (by omega)]
theorem ct_le (p : Nat → Bool) : ∀ n, ct p n ≤ n
  | 0 => Nat.le_refl _
  | n + 1 => by
    have := ct_le p n
    rw [ct]
    by_cases h : p n = true
    · rw [if_pos h]; omega
    · rw [if_neg h]; omega
theorem sm_add (f g : Nat → Nat) : ∀ n, sm (fun k => f k + g k) n = sm f n + sm g n
  | 0 => rfl
  | n + 1 => by rw [sm, sm, sm, sm_add f g n]; omega
theorem sm_ct (p : Nat → Bool) : ∀ n, sm (fun k => if p k = true then 1 else 0) n = ct p n
  | 0 => rfl
  | n + 1 => by rw [sm, ct, sm_ct p n]
theorem sm_le {f : Nat → Nat} {c : Nat} : ∀ {n : Nat}, (∀ k, k < n → f k ≤ c) → sm f n ≤ n * c
  | 0, _ => by rw [Nat.zero_mul]; exact Nat.le_refl _
  | n + 1, h => by
    have h1 := sm_le (f := f) (c := c) (n := n) (fun k hk => h k (by omega))
    have h2 := h n (by omega)
    rw [sm, Nat.succ_mul]; omega
theorem sm_swap (P : Nat → Nat → Bool) (n : Nat) : ∀ m, sm (fun v => ct (fun b => P b v) m) n = sm (fun b => ct (fun v => P b v) n) m
  | 0 => by
    have : ∀ k, sm (fun v => ct (fun b => P b v) 0) k = 0 := by
      intro k
      induction k with
      | zero => rfl
      | succ k ih => rw [sm, ih]; rfl
    exact this n
  | m + 1 => by
    have e : sm (fun v => ct (fun b => P b v) (m + 1)) n = sm (fun v => ct (fun b => P b v) m + (if P m v = true then 1 else 0)) n := rfl
    rw [e, sm_add, sm_swap P n m, sm_ct (fun v => P m v), sm]
theorem ct_one (Q : Nat → Bool) (k : Nat) : ∀ n, ct (fun v => decide (v = k) && Q v) n = if k < n ∧ Q k = true then 1 else 0
  | 0 => by rw [if_neg (by omega)]; rfl
  | n + 1 => by
    rw [ct, ct_one Q k n]
    by_cases hk : n = k
    · subst hk
      rw [if_neg (show ¬ (n < n ∧ Q n = true) by omega)]
      by_cases hq : Q n = true
      · rw [if_pos (by simp [hq]), if_pos ⟨by omega, hq⟩]
      · rw [if_neg (by simp [hq]), if_neg (fun z => hq z.2)]
    · rw [if_neg (show ¬ (decide (n = k) && Q n) = true by simp [hk])]
      by_cases hq : k < n ∧ Q k = true
      · rw [if_pos hq, if_pos ⟨by omega, hq.2⟩]
      · rw [if_neg hq, if_neg (fun z => hq ⟨by omega, z.2⟩)]
theorem ct_false (p : Nat → Bool) : ∀ n, (∀ k, k < n → p k = false) → ct p n = 0
  | 0, _ => rfl
  | n + 1, h => by rw [ct, ct_false p n (fun k hk => h k (by omega)), h n (by omega)]; rfl
theorem mx_front (g : Nat → Nat) : ∀ n, mx g (n + 1) = max (g 0) (mx (fun k => g (k + 1)) n)
  | 0 => by rw [mx, mx, mx]; omega
  | n + 1 => by rw [mx, mx_front g n, mx]; omega
theorem mx_le {f : Nat → Nat} {c : Nat} : ∀ {n : Nat}, (∀ k, k < n → f k ≤ c) → mx f n ≤ c
  | 0, _ => Nat.zero_le _
  | n + 1, h => by
    have h1 := mx_le (f := f) (c := c) (n := n) (fun k hk => h k (by omega))
    have h2 := h n (by omega)
    rw [mx]; omega
theorem pc_ct (q : Nat) : pc q = ct (fun k => q.testBit k) 8 := by
  have key : ∀ (p : Nat → Bool) (n : Nat), ((List.range n).filter p).length = ct p n := by
    intro p n
    induction n with
    | zero => rfl
    | succ n ih =>
      rw [List.range_succ, List.filter_append, List.length_append, ih, ct]
      by_cases h : p n = true
      · simp [h]
      · simp [h]
  exact key _ 8
/-! bits of sets of bags -/
def b8Ok (g h : Nat) : Bool := decide ((nI g >>> (nI h &&& 31)) &&& 1 = if g.testBit h = true then 1 else 0)
theorem b8_all : (List.range 256).all (fun g => (List.range 8).all (fun h => b8Ok g h)) = true := by decide +kernel
theorem b8 {g h : Nat} (hg : g < 256) (hh : h < 8) : (nI g >>> (nI h &&& 31)) &&& 1 = if g.testBit h = true then 1 else 0 := by
  have h1 := List.all_eq_true.mp b8_all g (List.mem_range.mpr hg)
  exact of_decide_eq_true (List.all_eq_true.mp h1 h (List.mem_range.mpr hh))
def orOk (b m : Nat) : Bool := decide (nI m ||| ((1 : Int32) <<< (nI b &&& 31)) = nI (m + 2 ^ b)) && (List.range 8).all (fun k => decide ((m + 2 ^ b).testBit k = (m.testBit k || decide (k = b))))
theorem or_all : (List.range 8).all (fun b => (List.range (2 ^ b)).all (fun m => orOk b m)) = true := by decide +kernel
theorem or8 {b m : Nat} (hb : b < 8) (hm : m < 2 ^ b) : nI m ||| ((1 : Int32) <<< (nI b &&& 31)) = nI (m + 2 ^ b) ∧ ∀ k, k < 8 → (m + 2 ^ b).testBit k = (m.testBit k || decide (k = b)) := by
  have h1 := List.all_eq_true.mp or_all b (List.mem_range.mpr hb)
  have h2 := List.all_eq_true.mp h1 m (List.mem_range.mpr hm)
  unfold orOk at h2
  rw [Bool.and_eq_true, decide_eq_true_eq] at h2
  exact ⟨h2.1, fun k hk => of_decide_eq_true (List.all_eq_true.mp h2.2 k (List.mem_range.mpr hk))⟩
theorem and8 (a b : Nat) : nI a &&& nI b = nI (a &&& b) := by
  apply Int32.toBitVec_inj.mp
  show (BitVec.ofNat 32 a) &&& (BitVec.ofNat 32 b) = BitVec.ofNat 32 (a &&& b)
  apply BitVec.eq_of_toNat_eq
  rw [BitVec.toNat_and, BitVec.toNat_ofNat, BitVec.toNat_ofNat, BitVec.toNat_ofNat, Nat.and_mod_two_pow]
/-! what fits -/
def okB (qm : Nat) (wg : Nat → Int32) (bag v i : Nat) : Bool := decide (nI (qm * pc (wg (2 * i)).toNatClampNeg) - (if ((wg (2 * i)).toNatClampNeg).testBit bag = true then nI v else 0) = wg (2 * i + 1))
def allB (qm : Nat) (wg : Nat → Int32) (bag v : Nat) : Nat → Nat → Bool
  | 0, _ => true
  | k + 1, i => okB qm wg bag v i && allB qm wg bag v k (i + 1)
def fitB (qm c : Nat) (wg : Nat → Int32) (bag v : Nat) : Bool := decide (v ≤ qm) && allB qm wg bag v c 0
theorem mul0 (x : Int32) : (0 : Int32) * x = 0 := by rw [fa_eq]; simp
theorem mul1 (x : Int32) : (1 : Int32) * x = x := by rw [fa_eq]; simp
theorem subz (x : Int32) : x - 0 = x := by rw [fa_eq]; simp
section Short
variable {N nG c qm : Nat} {sets weights wg told : Nat → Int32}
theorem fitsAll8 (hG : nG ≤ 8) (hc : c ≤ 6) (hs : ∀ j, j < c → sets j = wg (2 * j) ∧ weights j = wg (2 * j + 1) ∧ ∃ q : Nat, q < 2 ^ nG ∧ wg (2 * j) = nI q) {bag : Nat} (hb : bag < nG) (v : Nat) : ∀ (k i : Nat), i + k = c → ∀ (n : Nat), k < n → pX3_fitsAll_L3 (nI bag) (nI v) (nI qm) sets weights (nI c) n (nI i) = some (bI (allB qm wg bag v k i = true)) := by
  have hp := pow_le hG
  intro k
  induction k with
  | zero =>
    intro i hi n hn
    obtain ⟨n, rfl⟩ := fuel hn
    rw [pX3_fitsAll_L3, if_pos (nI_le (by omega) (by omega))]
    rfl
  | succ k ih =>
    intro i hi n hn
    obtain ⟨n, rfl⟩ := fuel hn
    obtain ⟨s1, s2, q, hq, s3⟩ := hs i (by omega)
    have hcl : (wg (2 * i)).toNatClampNeg = q := by rw [s3, nI_clamp (by omega)]
    simp only [pX3_fitsAll_L3, kl]
    rw [if_neg (nI_ge (by omega) (by omega)), if_neg (gI (n := 6) (by omega) (by decide)), nI_clamp (by omega), s1, s2, s3, kb1_t (bitc q (by omega)), b8 (by omega) (show bag < 8 by omega), pk_mul, nI_1]
    have e : nI (pc q * qm) - (if q.testBit bag = true then 1 else 0) * nI v = nI (qm * pc (wg (2 * i)).toNatClampNeg) - (if ((wg (2 * i)).toNatClampNeg).testBit bag = true then nI v else 0) := by
      rw [hcl, Nat.mul_comm]
      by_cases hbt : q.testBit bag = true
      · rw [if_pos hbt, if_pos hbt, mul1]
      · rw [if_neg hbt, if_neg hbt, mul0]
    rw [e, allB]
    by_cases ho : nI (qm * pc (wg (2 * i)).toNatClampNeg) - (if ((wg (2 * i)).toNatClampNeg).testBit bag = true then nI v else 0) = wg (2 * i + 1)
    · have hok : okB qm wg bag v i = true := decide_eq_true ho
      rw [if_pos ho, hok, Bool.true_and]
      exact ih (i + 1) (by omega) n (by omega)
    · have hok : okB qm wg bag v i = false := decide_eq_false ho
      rw [if_neg ho, hok, Bool.false_and]
      rfl
theorem weight9 (hN : 20000 ≤ N) (h6 : told 6 = nI qm) {q bag v : Nat} (hq : q < 256) (hb : bag < 8) : pX9_weightBy N (nI q) (nI bag) (nI v) told = some (nI (qm * pc q) - (if q.testBit bag = true then nI v else 0)) := by
  unfold pX9_weightBy
  rw [kb1_t (ones9 hN hq), kb1_t (has9 (nI q) (nI bag)), b8 hq hb, h6, pk_mul]
  by_cases hbt : q.testBit bag = true
  · rw [if_pos hbt, if_pos hbt, bI_t rfl, if_neg (by decide)]
  · rw [if_neg hbt, if_neg hbt, bI_f (by decide), if_pos rfl]
theorem canBe9_loop (hN : 20000 ≤ N) (hG : nG ≤ 8) (hc : c ≤ 6) (h6 : told 6 = nI qm) (hs : ∀ j, j < c → ∃ q : Nat, q < 2 ^ nG ∧ wg (2 * j) = nI q) {bag : Nat} (hb : bag < nG) (v : Nat) : ∀ (k i : Nat), i + k = c → ∀ (n : Nat), k < n → ∀ (f : Bool), pX9_canBe_L20 N (nI bag) (nI v) told wg (nI c) n (bI (f = true)) (nI i) = some (bI ((f && allB qm wg bag v k i) = true)) := by
  have hp := pow_le hG
  intro k
  induction k with
  | zero =>
    intro i hi n hn f
    obtain ⟨n, rfl⟩ := fuel hn
    rw [pX9_canBe_L20, if_pos (nI_le (by omega) (by omega)), if_neg (bI_01 _), allB, Bool.and_true]
  | succ k ih =>
    intro i hi n hn f
    obtain ⟨n, rfl⟩ := fuel hn
    obtain ⟨q, hq, s3⟩ := hs i (by omega)
    have hcl : (wg (2 * i)).toNatClampNeg = q := by rw [s3, nI_clamp (by omega)]
    have e2 : (2 : Int32) * nI i = nI (2 * i) := nI_mk 2 i
    rw [pX9_canBe_L20, if_neg (nI_ge (by omega) (by omega)), e2, nI_1 (2 * i), if_neg (gI (n := 12) (by omega) (by decide)), nI_clamp (by omega), s3, kb1_t (weight9 hN h6 (by omega) (by omega)), if_neg (gI (n := 12) (by omega) (by decide)), nI_clamp (by omega)]
    unfold pX9_canBe_L66 pX9_canBe_L67
    rw [nI_1 i, allB]
    cases f with
    | false =>
      rw [if_pos (bI_f (by decide)), Bool.false_and]
      have := ih (i + 1) (by omega) n (by omega) false
      rw [Bool.false_and] at this
      exact this
    | true =>
      rw [if_neg (show ¬ bI (true = true) = 0 by decide), Bool.true_and]
      by_cases ho : nI (qm * pc q) - (if q.testBit bag = true then nI v else 0) = wg (2 * i + 1)
      · have hok : okB qm wg bag v i = true := by
          unfold okB
          rw [hcl]
          exact decide_eq_true ho
        rw [if_pos ho, hok]
        exact ih (i + 1) (by omega) n (by omega) true
      · have hok : okB qm wg bag v i = false := by
          unfold okB
          rw [hcl]
          exact decide_eq_false ho
        rw [if_neg ho, hok]
        exact ih (i + 1) (by omega) n (by omega) false
theorem canBe9 (hN : 20000 ≤ N) (hG : nG ≤ 8) (hc : c ≤ 6) (hq : qm ≤ 99) (h6 : told 6 = nI qm) (hs : ∀ j, j < c → ∃ q : Nat, q < 2 ^ nG ∧ wg (2 * j) = nI q) {bag v : Nat} (hb : bag < nG) (hv : v ≤ 9) : pX9_canBe N (nI bag) (nI v) told wg (nI c) = some (bI (fitB qm c wg bag v = true)) := by
  unfold pX9_canBe pX9_canBe_L16 fitB
  rw [h6]
  by_cases hle : v ≤ qm
  · rw [if_neg (nI_nlt hle (by omega)), show decide (v ≤ qm) = true from decide_eq_true hle]
    exact canBe9_loop hN hG hc h6 hs hb v c 0 (by omega) N (by omega) true
  · rw [if_pos (nI_lt (by omega) (by omega)), show decide (v ≤ qm) = false from decide_eq_false hle]
    exact canBe9_loop hN hG hc h6 hs hb v c 0 (by omega) N (by omega) false
/-! the class finds them -/
def mk (F : Nat → Bool) : Nat → Nat
  | 0 => 0
  | n + 1 => mk F n + (if F n = true then 2 ^ n else 0)
theorem mk_lt (F : Nat → Bool) : ∀ n, mk F n < 2 ^ n
  | 0 => by show 0 < 1; decide
  | n + 1 => by
    have := mk_lt F n
    rw [mk, Nat.pow_succ]
    by_cases h : F n = true
    · rw [if_pos h]; omega
    · rw [if_neg h]; omega
theorem mk_bit (F : Nat → Bool) : ∀ n, n ≤ 8 → ∀ k, k < 8 → (mk F n).testBit k = (decide (k < n) && F k)
  | 0, _, k, _ => by simp [mk]
  | n + 1, hn, k, hk => by
    have ih := mk_bit F n (by omega) k hk
    rw [mk]
    by_cases h : F n = true
    · rw [if_pos h, (or8 (b := n) (by omega) (mk_lt F n)).2 k hk, ih]
      by_cases e : k = n
      · subst e; simp [h]
      · have : decide (k < n + 1) = decide (k < n) := by
          by_cases y : k < n
          · rw [decide_eq_true y, decide_eq_true (by omega)]
          · rw [decide_eq_false y, decide_eq_false (by omega)]
        rw [this, decide_eq_false e, Bool.or_false]
    · rw [if_neg h, Nat.add_zero, ih]
      by_cases e : k = n
      · subst e
        have : F k = false := by cases hF : F k with
          | false => rfl
          | true => exact absurd hF h
        rw [this, Bool.and_false, Bool.and_false]
      · have : decide (k < n + 1) = decide (k < n) := by
          by_cases y : k < n
          · rw [decide_eq_true y, decide_eq_true (by omega)]
          · rw [decide_eq_false y, decide_eq_false (by omega)]
        rw [this]
theorem find_in (hN : 20000 ≤ N) (hG : nG ≤ 8) (hc : c ≤ 6) (hqm : qm ≤ 99) (hs : ∀ j, j < c → sets j = wg (2 * j) ∧ weights j = wg (2 * j + 1) ∧ ∃ q : Nat, q < 2 ^ nG ∧ wg (2 * j) = nI q) (k7 : Int32 → (Nat → Int32) → Int32 → Option ((Nat → Int32) × Int32)) {v : Nat} (hv0 : 1 ≤ v) (hv : v ≤ 9) : ∀ (k b : Nat), b + k = nG → ∀ (n : Nat), k < n → ∀ (bs : Nat → Int32) (F : Nat), F ≤ 100 → bs v = nI (mk (fun b => fitB qm c wg b v) b) → ∃ bs2, pX3_findShort_L22 k7 N sets weights (nI c) (nI nG) (nI qm) n (nI v) (nI b) bs (nI (F + ct (fun b => fitB qm c wg b v) b)) = k7 (nI (v + 1)) bs2 (nI (F + ct (fun b => fitB qm c wg b v) nG)) ∧ bs2 v = nI (mk (fun b => fitB qm c wg b v) nG) ∧ ∀ j, j ≠ v → bs2 j = bs j := by
  intro k
  induction k with
  | zero =>
    intro b hb n hn bs F hF hm
    obtain ⟨n, rfl⟩ := fuel hn
    have e : b = nG := by omega
    subst e
    refine ⟨bs, ?_, hm, fun _ _ => rfl⟩
    rw [pX3_findShort_L22, if_pos (nI_le (Nat.le_refl _) (by omega))]
    unfold pX3_findShort_L79
    rw [nI_1]
  | succ k ih =>
    intro b hb n hn bs F hF hm
    obtain ⟨n, rfl⟩ := fuel hn
    rw [pX3_findShort_L22, if_neg (nI_ge (by omega) (by omega))]
    unfold pX3_findShort_L79 pX3_findShort_L73
    by_cases hle : v ≤ qm
    · have hfa := fitsAll8 (qm := qm) hG hc hs (bag := b) (by omega) v c 0 (by omega) N (by omega)
      have hfa : pX3_fitsAll N (nI b) (nI v) (nI qm) sets weights (nI c) = some (bI (allB qm wg b v c 0 = true)) := hfa
      have hfit : fitB qm c wg b v = allB qm wg b v c 0 := by unfold fitB; rw [decide_eq_true hle, Bool.true_and]
      rw [if_neg (nI_nlt hle (by omega)), kb1_t hfa, ← hfit, nI_1 b]
      by_cases hf : fitB qm c wg b v = true
      · have ho := (or8 (b := b) (m := mk (fun b => fitB qm c wg b v) b) (by omega) (mk_lt _ b)).1
        have e1 : ct (fun b => fitB qm c wg b v) (b + 1) = ct (fun b => fitB qm c wg b v) b + 1 := by rw [ct, if_pos hf]
        have e2 : mk (fun b => fitB qm c wg b v) (b + 1) = mk (fun b => fitB qm c wg b v) b + 2 ^ b := by rw [mk, if_pos hf]
        simp only [kl]
        rw [bI_t hf, if_neg (show ¬ (1 : Int32) = 0 by decide), if_neg (gI (n := 10) (by omega) (by decide)), nI_clamp (by omega), hm, ho, nI_1]
        obtain ⟨bs2, h1, h2, h3⟩ := ih (b + 1) (by omega) n (by omega) (upd bs v (nI (mk (fun b => fitB qm c wg b v) b + 2 ^ b))) F hF (by rw [pk_us, e2])
        rw [e1, ← Nat.add_assoc] at h1
        exact ⟨bs2, h1, h2, fun j hj => by rw [h3 j hj, pk_un hj]⟩
      · have e1 : ct (fun b => fitB qm c wg b v) (b + 1) = ct (fun b => fitB qm c wg b v) b := by rw [ct, if_neg hf]; omega
        have e2 : mk (fun b => fitB qm c wg b v) (b + 1) = mk (fun b => fitB qm c wg b v) b := by rw [mk, if_neg hf]; omega
        rw [bI_f hf, if_pos rfl]
        obtain ⟨bs2, h1, h2, h3⟩ := ih (b + 1) (by omega) n (by omega) bs F hF (by rw [e2]; exact hm)
        rw [e1] at h1
        exact ⟨bs2, h1, h2, h3⟩
    · have hno : ∀ b, fitB qm c wg b v = false := fun b => by unfold fitB; rw [decide_eq_false hle, Bool.false_and]
      have c0 : ∀ n, ct (fun b => fitB qm c wg b v) n = 0 := fun n => ct_false _ n (fun k _ => hno k)
      have m0 : ∀ n, mk (fun b => fitB qm c wg b v) n = 0 := by
        intro n
        induction n with
        | zero => rfl
        | succ n ih2 => rw [mk, ih2, hno n]; rfl
      rw [if_pos (nI_lt (by omega) (by omega)), nI_1, c0, c0]
      refine ⟨bs, rfl, ?_, fun _ _ => rfl⟩
      rw [hm, m0, m0]
def tot (qm c nG : Nat) (wg : Nat → Int32) (n : Nat) : Nat := sm (fun u => ct (fun b => fitB qm c wg b (u + 1)) nG) n
theorem tot_le (hG : nG ≤ 8) {n : Nat} (hn : n ≤ 9) : tot qm c nG wg n ≤ 72 := by
  have h := sm_le (f := fun u => ct (fun b => fitB qm c wg b (u + 1)) nG) (c := 8) (n := n) (fun k _ => Nat.le_trans (ct_le _ _) hG)
  unfold tot; omega
theorem find_out (hN : 20000 ≤ N) (hG : nG ≤ 8) (hc : c ≤ 6) (hqm : qm ≤ 99) (hs : ∀ j, j < c → sets j = wg (2 * j) ∧ weights j = wg (2 * j + 1) ∧ ∃ q : Nat, q < 2 ^ nG ∧ wg (2 * j) = nI q) : ∀ (k v : Nat), v + k = 9 → ∀ (n : Nat), k < n → ∀ (bs : Nat → Int32), (∀ u, 1 ≤ u → u < v + 1 → bs u = nI (mk (fun b => fitB qm c wg b u) nG)) → ∃ bs2, pX3_findShort_L7 N sets weights (nI c) (nI nG) (nI qm) n (nI (v + 1)) bs (nI (tot qm c nG wg v)) = some (bs2, nI (tot qm c nG wg 9)) ∧ ∀ u, 1 ≤ u → u ≤ 9 → bs2 u = nI (mk (fun b => fitB qm c wg b u) nG) := by
  intro k
  induction k with
  | zero =>
    intro v hv n hn bs h
    obtain ⟨n, rfl⟩ := fuel hn
    have e : v = 9 := by omega
    subst e
    refine ⟨bs, ?_, fun u h1 h2 => h u h1 (by omega)⟩
    rw [pX3_findShort_L7, if_pos (by decide)]
  | succ k ih =>
    intro v hv n hn bs h
    obtain ⟨n, rfl⟩ := fuel hn
    have ht := tot_le (qm := qm) (c := c) (wg := wg) hG (n := v) (by omega)
    rw [pX3_findShort_L7, if_neg (show ¬ (9 : Int32) < nI (v + 1) from nI_nlt (a := 9) (by omega) (by decide)), if_neg (gI (n := 10) (by omega) (by decide)), nI_clamp (by omega)]
    obtain ⟨bs2, h1, h2, h3⟩ := find_in hN hG hc hqm hs (pX3_findShort_L7 N sets weights (nI c) (nI nG) (nI qm) n) (v := v + 1) (by omega) (by omega) nG 0 (by omega) N (by omega) (upd bs (v + 1) 0) (tot qm c nG wg v) (by omega) (by rw [pk_us]; rfl)
    have h1 : pX3_findShort_L22 (pX3_findShort_L7 N sets weights (nI c) (nI nG) (nI qm) n) N sets weights (nI c) (nI nG) (nI qm) N (nI (v + 1)) 0 (upd bs (v + 1) 0) (nI (tot qm c nG wg v)) = _ := h1
    rw [h1]
    refine ih (v + 1) (by omega) n (by omega) bs2 (fun u u1 u2 => ?_)
    by_cases e : u = v + 1
    · subst e; exact h2
    · rw [h3 u e, pk_un e]
      exact h u u1 (by omega)
end Short
