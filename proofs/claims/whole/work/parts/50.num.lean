/-! ===== numbers: order of ints, and through longs ===== -/
theorem fa_lt (a b : Int32) : a < b ↔ a.toInt < b.toInt := Int32.lt_iff_toInt_lt
theorem fa_le (a b : Int32) : a ≤ b ↔ a.toInt ≤ b.toInt := Int32.le_iff_toInt_le
theorem fa_eq (a b : Int32) : a = b ↔ a.toInt = b.toInt := Int32.toInt_inj.symm
theorem fa_lt64 (a b : Int64) : a < b ↔ a.toInt < b.toInt := Int64.lt_iff_toInt_lt
theorem fa_le64 (a b : Int64) : a ≤ b ↔ a.toInt ≤ b.toInt := Int64.le_iff_toInt_le
theorem fa_wide_lt (a b : Int32) : a.toInt64 < b.toInt64 ↔ a < b := by rw [fa_lt64, fa_lt, Int32.toInt_toInt64, Int32.toInt_toInt64]
theorem fa_wide_le (a b : Int32) : a.toInt64 ≤ b.toInt64 ↔ a ≤ b := by rw [fa_le64, fa_le, Int32.toInt_toInt64, Int32.toInt_toInt64]
theorem i_nlt {a b : Int32} : ¬ a < b ↔ b ≤ a := by rw [fa_lt, fa_le]; omega
theorem i_nle {a b : Int32} : ¬ a ≤ b ↔ b < a := by rw [fa_lt, fa_le]; omega
theorem i_le_of_lt {a b : Int32} (h : a < b) : a ≤ b := by rw [fa_lt] at h; rw [fa_le]; omega
theorem i_asymm {a b : Int32} (h : a ≤ b) (h2 : b ≤ a) : a = b := by rw [fa_le] at h h2; rw [fa_eq]; omega
theorem fa_lit (n : Nat) : (OfNat.ofNat n : Int32) = nI n := rfl
theorem fa_post2 {α β : Type} {P : α → β → Prop} {x y : α} {u v : β} (h : x = y) (h2 : u = v) (hp : P y v) : P x u := by rw [h, h2]; exact hp
theorem cmp_lt0 (x y : Int64) : (lg_cmp x y < 0) ↔ ¬ y ≤ x := by rw [← lg_cmp_ge]; exact i_nle.symm
theorem cmp_gt0 (x y : Int64) : (0 < lg_cmp x y) ↔ ¬ x ≤ y := by rw [← lg_cmp_le]; exact i_nle.symm
/-- what 'in' answers -/
def bI (c : Prop) [Decidable c] : Int32 := if c then 1 else 0
theorem bI_01 (c : Prop) [Decidable c] : ¬ ¬ (bI c = 0 ∨ bI c = 1) := by
  unfold bI
  by_cases h : c
  · rw [if_pos h]; decide
  · rw [if_neg h]; decide
theorem bI_t {c : Prop} [Decidable c] (h : c) : bI c = 1 := if_pos h
theorem bI_f {c : Prop} [Decidable c] (h : ¬ c) : bI c = 0 := if_neg h
theorem in_eq (a lo hi : Int32) : pX9_in a.toInt64 lo.toInt64 hi.toInt64 = some (bI (lo ≤ a ∧ a ≤ hi)) := by
  unfold pX9_in
  by_cases h1 : lo ≤ a
  · rw [if_neg (fun h => (cmp_lt0 _ _).mp h ((fa_wide_le _ _).mpr h1))]
    by_cases h2 : a ≤ hi
    · rw [if_neg (fun h => (cmp_gt0 _ _).mp h ((fa_wide_le _ _).mpr h2)), bI_t ⟨h1, h2⟩]
    · rw [if_pos ((cmp_gt0 _ _).mpr (fun h => h2 ((fa_wide_le _ _).mp h))), bI_f (fun h => h2 h.2)]
  · rw [if_pos ((cmp_lt0 _ _).mpr (fun h => h1 ((fa_wide_le _ _).mp h))), bI_f (fun h => h1 h.1)]
theorem in_k (a lo hi : Int32) {L H : Int64} (h1 : lo.toInt64 = L) (h2 : hi.toInt64 = H) : pX9_in a.toInt64 L H = some (bI (lo ≤ a ∧ a ≤ hi)) := by rw [← h1, ← h2]; exact in_eq a lo hi
theorem in_m (a lo hi : Int32) {L : Int64} (h1 : lo.toInt64 = L) : pX9_in a.toInt64 L hi.toInt64 = some (bI (lo ≤ a ∧ a ≤ hi)) := in_k a lo hi h1 rfl
/-- two steps of a partial answer -/
theorem kb1_t {α ρ : Type} {o : Option α} {f : α → Option ρ} {a : α} (h : o = some a) : kb1 o f = f a := by rw [h]; rfl
theorem kb2_t {α β ρ : Type} {o : Option (α × β)} {f : α → β → Option ρ} {a : α} {b : β} (h : o = some (a, b)) : kb2 o f = f a b := by rw [h]; rfl
theorem kb3_t {α β γ ρ : Type} {o : Option (α × β × γ)} {f : α → β → γ → Option ρ} {a : α} {b : β} {c : γ} (h : o = some (a, b, c)) : kb3 o f = f a b c := by rw [h]; rfl
theorem kb1_e {t0 ρ : Type} {x0 : t0} {f : t0 → Option ρ} : kb1 (some (x0)) f = f x0 := rfl
theorem kb2_e {t0 t1 ρ : Type} {x0 : t0} {x1 : t1} {f : t0 → t1 → Option ρ} : kb2 (some (x0, x1)) f = f x0 x1 := rfl
theorem kb3_e {t0 t1 t2 ρ : Type} {x0 : t0} {x1 : t1} {x2 : t2} {f : t0 → t1 → t2 → Option ρ} : kb3 (some (x0, x1, x2)) f = f x0 x1 x2 := rfl
theorem kb4_e {t0 t1 t2 t3 ρ : Type} {x0 : t0} {x1 : t1} {x2 : t2} {x3 : t3} {f : t0 → t1 → t2 → t3 → Option ρ} : kb4 (some (x0, x1, x2, x3)) f = f x0 x1 x2 x3 := rfl
theorem kb5_e {t0 t1 t2 t3 t4 ρ : Type} {x0 : t0} {x1 : t1} {x2 : t2} {x3 : t3} {x4 : t4} {f : t0 → t1 → t2 → t3 → t4 → Option ρ} : kb5 (some (x0, x1, x2, x3, x4)) f = f x0 x1 x2 x3 x4 := rfl
theorem kb6_e {t0 t1 t2 t3 t4 t5 ρ : Type} {x0 : t0} {x1 : t1} {x2 : t2} {x3 : t3} {x4 : t4} {x5 : t5} {f : t0 → t1 → t2 → t3 → t4 → t5 → Option ρ} : kb6 (some (x0, x1, x2, x3, x4, x5)) f = f x0 x1 x2 x3 x4 x5 := rfl
theorem kb7_e {t0 t1 t2 t3 t4 t5 t6 ρ : Type} {x0 : t0} {x1 : t1} {x2 : t2} {x3 : t3} {x4 : t4} {x5 : t5} {x6 : t6} {f : t0 → t1 → t2 → t3 → t4 → t5 → t6 → Option ρ} : kb7 (some (x0, x1, x2, x3, x4, x5, x6)) f = f x0 x1 x2 x3 x4 x5 x6 := rfl
theorem kb8_e {t0 t1 t2 t3 t4 t5 t6 t7 ρ : Type} {x0 : t0} {x1 : t1} {x2 : t2} {x3 : t3} {x4 : t4} {x5 : t5} {x6 : t6} {x7 : t7} {f : t0 → t1 → t2 → t3 → t4 → t5 → t6 → t7 → Option ρ} : kb8 (some (x0, x1, x2, x3, x4, x5, x6, x7)) f = f x0 x1 x2 x3 x4 x5 x6 x7 := rfl
theorem kb9_e {t0 t1 t2 t3 t4 t5 t6 t7 t8 ρ : Type} {x0 : t0} {x1 : t1} {x2 : t2} {x3 : t3} {x4 : t4} {x5 : t5} {x6 : t6} {x7 : t7} {x8 : t8} {f : t0 → t1 → t2 → t3 → t4 → t5 → t6 → t7 → t8 → Option ρ} : kb9 (some (x0, x1, x2, x3, x4, x5, x6, x7, x8)) f = f x0 x1 x2 x3 x4 x5 x6 x7 x8 := rfl
theorem kb10_e {t0 t1 t2 t3 t4 t5 t6 t7 t8 t9 ρ : Type} {x0 : t0} {x1 : t1} {x2 : t2} {x3 : t3} {x4 : t4} {x5 : t5} {x6 : t6} {x7 : t7} {x8 : t8} {x9 : t9} {f : t0 → t1 → t2 → t3 → t4 → t5 → t6 → t7 → t8 → t9 → Option ρ} : kb10 (some (x0, x1, x2, x3, x4, x5, x6, x7, x8, x9)) f = f x0 x1 x2 x3 x4 x5 x6 x7 x8 x9 := rfl
theorem kb11_e {t0 t1 t2 t3 t4 t5 t6 t7 t8 t9 t10 ρ : Type} {x0 : t0} {x1 : t1} {x2 : t2} {x3 : t3} {x4 : t4} {x5 : t5} {x6 : t6} {x7 : t7} {x8 : t8} {x9 : t9} {x10 : t10} {f : t0 → t1 → t2 → t3 → t4 → t5 → t6 → t7 → t8 → t9 → t10 → Option ρ} : kb11 (some (x0, x1, x2, x3, x4, x5, x6, x7, x8, x9, x10)) f = f x0 x1 x2 x3 x4 x5 x6 x7 x8 x9 x10 := rfl
theorem kb12_e {t0 t1 t2 t3 t4 t5 t6 t7 t8 t9 t10 t11 ρ : Type} {x0 : t0} {x1 : t1} {x2 : t2} {x3 : t3} {x4 : t4} {x5 : t5} {x6 : t6} {x7 : t7} {x8 : t8} {x9 : t9} {x10 : t10} {x11 : t11} {f : t0 → t1 → t2 → t3 → t4 → t5 → t6 → t7 → t8 → t9 → t10 → t11 → Option ρ} : kb12 (some (x0, x1, x2, x3, x4, x5, x6, x7, x8, x9, x10, x11)) f = f x0 x1 x2 x3 x4 x5 x6 x7 x8 x9 x10 x11 := rfl
theorem kb13_e {t0 t1 t2 t3 t4 t5 t6 t7 t8 t9 t10 t11 t12 ρ : Type} {x0 : t0} {x1 : t1} {x2 : t2} {x3 : t3} {x4 : t4} {x5 : t5} {x6 : t6} {x7 : t7} {x8 : t8} {x9 : t9} {x10 : t10} {x11 : t11} {x12 : t12} {f : t0 → t1 → t2 → t3 → t4 → t5 → t6 → t7 → t8 → t9 → t10 → t11 → t12 → Option ρ} : kb13 (some (x0, x1, x2, x3, x4, x5, x6, x7, x8, x9, x10, x11, x12)) f = f x0 x1 x2 x3 x4 x5 x6 x7 x8 x9 x10 x11 x12 := rfl
theorem kb14_e {t0 t1 t2 t3 t4 t5 t6 t7 t8 t9 t10 t11 t12 t13 ρ : Type} {x0 : t0} {x1 : t1} {x2 : t2} {x3 : t3} {x4 : t4} {x5 : t5} {x6 : t6} {x7 : t7} {x8 : t8} {x9 : t9} {x10 : t10} {x11 : t11} {x12 : t12} {x13 : t13} {f : t0 → t1 → t2 → t3 → t4 → t5 → t6 → t7 → t8 → t9 → t10 → t11 → t12 → t13 → Option ρ} : kb14 (some (x0, x1, x2, x3, x4, x5, x6, x7, x8, x9, x10, x11, x12, x13)) f = f x0 x1 x2 x3 x4 x5 x6 x7 x8 x9 x10 x11 x12 x13 := rfl
theorem kb15_e {t0 t1 t2 t3 t4 t5 t6 t7 t8 t9 t10 t11 t12 t13 t14 ρ : Type} {x0 : t0} {x1 : t1} {x2 : t2} {x3 : t3} {x4 : t4} {x5 : t5} {x6 : t6} {x7 : t7} {x8 : t8} {x9 : t9} {x10 : t10} {x11 : t11} {x12 : t12} {x13 : t13} {x14 : t14} {f : t0 → t1 → t2 → t3 → t4 → t5 → t6 → t7 → t8 → t9 → t10 → t11 → t12 → t13 → t14 → Option ρ} : kb15 (some (x0, x1, x2, x3, x4, x5, x6, x7, x8, x9, x10, x11, x12, x13, x14)) f = f x0 x1 x2 x3 x4 x5 x6 x7 x8 x9 x10 x11 x12 x13 x14 := rfl
theorem kb16_e {t0 t1 t2 t3 t4 t5 t6 t7 t8 t9 t10 t11 t12 t13 t14 t15 ρ : Type} {x0 : t0} {x1 : t1} {x2 : t2} {x3 : t3} {x4 : t4} {x5 : t5} {x6 : t6} {x7 : t7} {x8 : t8} {x9 : t9} {x10 : t10} {x11 : t11} {x12 : t12} {x13 : t13} {x14 : t14} {x15 : t15} {f : t0 → t1 → t2 → t3 → t4 → t5 → t6 → t7 → t8 → t9 → t10 → t11 → t12 → t13 → t14 → t15 → Option ρ} : kb16 (some (x0, x1, x2, x3, x4, x5, x6, x7, x8, x9, x10, x11, x12, x13, x14, x15)) f = f x0 x1 x2 x3 x4 x5 x6 x7 x8 x9 x10 x11 x12 x13 x14 x15 := rfl
theorem kb17_e {t0 t1 t2 t3 t4 t5 t6 t7 t8 t9 t10 t11 t12 t13 t14 t15 t16 ρ : Type} {x0 : t0} {x1 : t1} {x2 : t2} {x3 : t3} {x4 : t4} {x5 : t5} {x6 : t6} {x7 : t7} {x8 : t8} {x9 : t9} {x10 : t10} {x11 : t11} {x12 : t12} {x13 : t13} {x14 : t14} {x15 : t15} {x16 : t16} {f : t0 → t1 → t2 → t3 → t4 → t5 → t6 → t7 → t8 → t9 → t10 → t11 → t12 → t13 → t14 → t15 → t16 → Option ρ} : kb17 (some (x0, x1, x2, x3, x4, x5, x6, x7, x8, x9, x10, x11, x12, x13, x14, x15, x16)) f = f x0 x1 x2 x3 x4 x5 x6 x7 x8 x9 x10 x11 x12 x13 x14 x15 x16 := rfl
theorem kb18_e {t0 t1 t2 t3 t4 t5 t6 t7 t8 t9 t10 t11 t12 t13 t14 t15 t16 t17 ρ : Type} {x0 : t0} {x1 : t1} {x2 : t2} {x3 : t3} {x4 : t4} {x5 : t5} {x6 : t6} {x7 : t7} {x8 : t8} {x9 : t9} {x10 : t10} {x11 : t11} {x12 : t12} {x13 : t13} {x14 : t14} {x15 : t15} {x16 : t16} {x17 : t17} {f : t0 → t1 → t2 → t3 → t4 → t5 → t6 → t7 → t8 → t9 → t10 → t11 → t12 → t13 → t14 → t15 → t16 → t17 → Option ρ} : kb18 (some (x0, x1, x2, x3, x4, x5, x6, x7, x8, x9, x10, x11, x12, x13, x14, x15, x16, x17)) f = f x0 x1 x2 x3 x4 x5 x6 x7 x8 x9 x10 x11 x12 x13 x14 x15 x16 x17 := rfl
theorem kb19_e {t0 t1 t2 t3 t4 t5 t6 t7 t8 t9 t10 t11 t12 t13 t14 t15 t16 t17 t18 ρ : Type} {x0 : t0} {x1 : t1} {x2 : t2} {x3 : t3} {x4 : t4} {x5 : t5} {x6 : t6} {x7 : t7} {x8 : t8} {x9 : t9} {x10 : t10} {x11 : t11} {x12 : t12} {x13 : t13} {x14 : t14} {x15 : t15} {x16 : t16} {x17 : t17} {x18 : t18} {f : t0 → t1 → t2 → t3 → t4 → t5 → t6 → t7 → t8 → t9 → t10 → t11 → t12 → t13 → t14 → t15 → t16 → t17 → t18 → Option ρ} : kb19 (some (x0, x1, x2, x3, x4, x5, x6, x7, x8, x9, x10, x11, x12, x13, x14, x15, x16, x17, x18)) f = f x0 x1 x2 x3 x4 x5 x6 x7 x8 x9 x10 x11 x12 x13 x14 x15 x16 x17 x18 := rfl
theorem kb20_e {t0 t1 t2 t3 t4 t5 t6 t7 t8 t9 t10 t11 t12 t13 t14 t15 t16 t17 t18 t19 ρ : Type} {x0 : t0} {x1 : t1} {x2 : t2} {x3 : t3} {x4 : t4} {x5 : t5} {x6 : t6} {x7 : t7} {x8 : t8} {x9 : t9} {x10 : t10} {x11 : t11} {x12 : t12} {x13 : t13} {x14 : t14} {x15 : t15} {x16 : t16} {x17 : t17} {x18 : t18} {x19 : t19} {f : t0 → t1 → t2 → t3 → t4 → t5 → t6 → t7 → t8 → t9 → t10 → t11 → t12 → t13 → t14 → t15 → t16 → t17 → t18 → t19 → Option ρ} : kb20 (some (x0, x1, x2, x3, x4, x5, x6, x7, x8, x9, x10, x11, x12, x13, x14, x15, x16, x17, x18, x19)) f = f x0 x1 x2 x3 x4 x5 x6 x7 x8 x9 x10 x11 x12 x13 x14 x15 x16 x17 x18 x19 := rfl
theorem kb4_t' {t0 t1 t2 t3 ρ : Type} {o : Option (t0 × t1 × t2 × t3)} {x0 : t0} {x1 : t1} {x2 : t2} {x3 : t3} {f : t0 → t1 → t2 → t3 → Option ρ} (h : o = some (x0, x1, x2, x3)) : kb4 o f = f x0 x1 x2 x3 := by rw [h]; rfl
theorem kb5_t' {t0 t1 t2 t3 t4 ρ : Type} {o : Option (t0 × t1 × t2 × t3 × t4)} {x0 : t0} {x1 : t1} {x2 : t2} {x3 : t3} {x4 : t4} {f : t0 → t1 → t2 → t3 → t4 → Option ρ} (h : o = some (x0, x1, x2, x3, x4)) : kb5 o f = f x0 x1 x2 x3 x4 := by rw [h]; rfl
theorem kb7_t' {t0 t1 t2 t3 t4 t5 t6 ρ : Type} {o : Option (t0 × t1 × t2 × t3 × t4 × t5 × t6)} {x0 : t0} {x1 : t1} {x2 : t2} {x3 : t3} {x4 : t4} {x5 : t5} {x6 : t6} {f : t0 → t1 → t2 → t3 → t4 → t5 → t6 → Option ρ} (h : o = some (x0, x1, x2, x3, x4, x5, x6)) : kb7 o f = f x0 x1 x2 x3 x4 x5 x6 := by rw [h]; rfl
theorem kb9_t' {t0 t1 t2 t3 t4 t5 t6 t7 t8 ρ : Type} {o : Option (t0 × t1 × t2 × t3 × t4 × t5 × t6 × t7 × t8)} {x0 : t0} {x1 : t1} {x2 : t2} {x3 : t3} {x4 : t4} {x5 : t5} {x6 : t6} {x7 : t7} {x8 : t8} {f : t0 → t1 → t2 → t3 → t4 → t5 → t6 → t7 → t8 → Option ρ} (h : o = some (x0, x1, x2, x3, x4, x5, x6, x7, x8)) : kb9 o f = f x0 x1 x2 x3 x4 x5 x6 x7 x8 := by rw [h]; rfl
theorem kb10_t' {t0 t1 t2 t3 t4 t5 t6 t7 t8 t9 ρ : Type} {o : Option (t0 × t1 × t2 × t3 × t4 × t5 × t6 × t7 × t8 × t9)} {x0 : t0} {x1 : t1} {x2 : t2} {x3 : t3} {x4 : t4} {x5 : t5} {x6 : t6} {x7 : t7} {x8 : t8} {x9 : t9} {f : t0 → t1 → t2 → t3 → t4 → t5 → t6 → t7 → t8 → t9 → Option ρ} (h : o = some (x0, x1, x2, x3, x4, x5, x6, x7, x8, x9)) : kb10 o f = f x0 x1 x2 x3 x4 x5 x6 x7 x8 x9 := by rw [h]; rfl
theorem ite_ex {c : Prop} [Decidable c] {α : Type} {X Y : Option α} (ha : ∃ r, X = some r) (hb : ∃ r, Y = some r) : ∃ r, (if c then X else Y) = some r := by
  by_cases h : c
  · rw [if_pos h]; exact ha
  · rw [if_neg h]; exact hb
/-- an index between 0 and n -/
theorem gI {i n : Nat} (h : i < n) (hn : n < 2 ^ 31) : ¬ (nI i < 0 ∨ n ≤ (nI i).toNatClampNeg) := nI_in h hn
theorem nI_inj {a b : Nat} (ha : a < 2 ^ 31) (hb : b < 2 ^ 31) (h : nI a = nI b) : a = b := (nI_eq ha hb).mp h
/-- a number that lies between 0 and n -/
theorem i_of {x : Int32} {n : Nat} (hn : n < 2 ^ 31) (h0 : 0 ≤ x) (h1 : x < nI n) : ∃ j : Nat, j < n ∧ x = nI j := by
  obtain ⟨j, hj, e⟩ := nI_of (i_nlt.mpr h0)
  subst e
  exact ⟨j, (nI_ltI hj hn).mp h1, rfl⟩
theorem i_of_le {x : Int32} {n : Nat} (hn : n < 2 ^ 31) (h0 : 0 ≤ x) (h1 : x ≤ nI n) : ∃ j : Nat, j ≤ n ∧ x = nI j := by
  obtain ⟨j, hj, e⟩ := nI_of (i_nlt.mpr h0)
  subst e
  exact ⟨j, (nI_leI hj hn).mp h1, rfl⟩
/-- x lies between 0 and m less 1 -/
theorem in_pred {x : Int32} {n : Nat} (hn : n < 2 ^ 31) : (0 ≤ x ∧ x ≤ nI n - 1) ↔ ∃ j : Nat, j < n ∧ x = nI j := by
  constructor
  · intro h
    cases n with
    | zero =>
      have h2 := h.2
      rw [fa_le] at h2
      have h1 := (fa_le _ _).mp h.1
      have e1 : (nI 0 - 1 : Int32).toInt = -1 := by decide
      have e2 : (0 : Int32).toInt = 0 := by decide
      rw [e1] at h2; rw [e2] at h1
      omega
    | succ n =>
      rw [nI_pred] at h
      obtain ⟨j, hj, e⟩ := i_of_le (by omega) h.1 h.2
      exact ⟨j, by omega, e⟩
  · rintro ⟨j, hj, rfl⟩
    cases n with
    | zero => omega
    | succ n =>
      rw [nI_pred]
      exact ⟨nI_pos' (by omega), nI_le (by omega) (by omega)⟩
/-- the places beyond which nothing is -/
theorem i_out {x : Int32} {n : Nat} (hn : n < 2 ^ 31) (h : ¬ ∃ j : Nat, j < n ∧ x = nI j) : x < 0 ∨ (¬ x < 0 ∧ nI n ≤ x) := by
  by_cases h0 : x < 0
  · exact Or.inl h0
  · refine Or.inr ⟨h0, i_nlt.mp (fun h1 => h (i_of hn (i_nlt.mp h0) h1))⟩
theorem zadd (x : Int32) : (0 : Int32) + x = x := by
  rw [fa_eq]; simp
theorem addz (x : Int32) : x + (0 : Int32) = x := by
  rw [fa_eq]; simp
