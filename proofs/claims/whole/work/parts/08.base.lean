/-! ===== partial answers: what a method's numbers come to, none where the machine would stop ===== -/
theorem og_no {c : Prop} [Decidable c] {α : Type} {X : Option α} {r : α} (h : (if c then none else X) = some r) : ¬ c ∧ X = some r := by
  by_cases hc : c
  · rw [if_pos hc] at h; cases h
  · rw [if_neg hc] at h; exact ⟨hc, h⟩
theorem og_t {c : Prop} [Decidable c] {α : Type} {X Y r : α} (hc : c) (h : (if c then X else Y) = r) : X = r := by rw [if_pos hc] at h; exact h
theorem og_f {c : Prop} [Decidable c] {α : Type} {X Y r : α} (hc : ¬ c) (h : (if c then X else Y) = r) : Y = r := by rw [if_neg hc] at h; exact h
def kl {α β : Type} (e : α) (f : α → Option β) : Option β := f e
theorem kl_s {α β : Type} {e : α} {f : α → Option β} {r : β} (h : kl e f = some r) : ∃ x, x = e ∧ f x = some r := ⟨e, rfl, h⟩
def kb1 {t0 ρ : Type} (o : Option (t0)) (f : t0 → Option ρ) : Option ρ := match o with
  | none => none
  | some a => f a
theorem kb1_s {t0 ρ : Type} {o : Option (t0)} {f : t0 → Option ρ} {r : ρ} (h : kb1 o f = some r) : ∃ (x0 : t0), o = some (x0) ∧ f x0 = some r := by
  cases o with
  | none => cases h
  | some a => exact ⟨a, rfl, h⟩
def kb2 {t0 t1 ρ : Type} (o : Option (t0 × t1)) (f : t0 → t1 → Option ρ) : Option ρ := match o with
  | none => none
  | some a => f a.1 a.2
theorem kb2_s {t0 t1 ρ : Type} {o : Option (t0 × t1)} {f : t0 → t1 → Option ρ} {r : ρ} (h : kb2 o f = some r) : ∃ (x0 : t0) (x1 : t1), o = some (x0, x1) ∧ f x0 x1 = some r := by
  cases o with
  | none => cases h
  | some a => exact ⟨a.1, a.2, rfl, h⟩
def kb3 {t0 t1 t2 ρ : Type} (o : Option (t0 × t1 × t2)) (f : t0 → t1 → t2 → Option ρ) : Option ρ := match o with
  | none => none
  | some a => f a.1 a.2.1 a.2.2
theorem kb3_s {t0 t1 t2 ρ : Type} {o : Option (t0 × t1 × t2)} {f : t0 → t1 → t2 → Option ρ} {r : ρ} (h : kb3 o f = some r) : ∃ (x0 : t0) (x1 : t1) (x2 : t2), o = some (x0, x1, x2) ∧ f x0 x1 x2 = some r := by
  cases o with
  | none => cases h
  | some a => exact ⟨a.1, a.2.1, a.2.2, rfl, h⟩
def kb4 {t0 t1 t2 t3 ρ : Type} (o : Option (t0 × t1 × t2 × t3)) (f : t0 → t1 → t2 → t3 → Option ρ) : Option ρ := match o with
  | none => none
  | some a => f a.1 a.2.1 a.2.2.1 a.2.2.2
theorem kb4_s {t0 t1 t2 t3 ρ : Type} {o : Option (t0 × t1 × t2 × t3)} {f : t0 → t1 → t2 → t3 → Option ρ} {r : ρ} (h : kb4 o f = some r) : ∃ (x0 : t0) (x1 : t1) (x2 : t2) (x3 : t3), o = some (x0, x1, x2, x3) ∧ f x0 x1 x2 x3 = some r := by
  cases o with
  | none => cases h
  | some a => exact ⟨a.1, a.2.1, a.2.2.1, a.2.2.2, rfl, h⟩
def kb5 {t0 t1 t2 t3 t4 ρ : Type} (o : Option (t0 × t1 × t2 × t3 × t4)) (f : t0 → t1 → t2 → t3 → t4 → Option ρ) : Option ρ := match o with
  | none => none
  | some a => f a.1 a.2.1 a.2.2.1 a.2.2.2.1 a.2.2.2.2
theorem kb5_s {t0 t1 t2 t3 t4 ρ : Type} {o : Option (t0 × t1 × t2 × t3 × t4)} {f : t0 → t1 → t2 → t3 → t4 → Option ρ} {r : ρ} (h : kb5 o f = some r) : ∃ (x0 : t0) (x1 : t1) (x2 : t2) (x3 : t3) (x4 : t4), o = some (x0, x1, x2, x3, x4) ∧ f x0 x1 x2 x3 x4 = some r := by
  cases o with
  | none => cases h
  | some a => exact ⟨a.1, a.2.1, a.2.2.1, a.2.2.2.1, a.2.2.2.2, rfl, h⟩
def kb6 {t0 t1 t2 t3 t4 t5 ρ : Type} (o : Option (t0 × t1 × t2 × t3 × t4 × t5)) (f : t0 → t1 → t2 → t3 → t4 → t5 → Option ρ) : Option ρ := match o with
  | none => none
  | some a => f a.1 a.2.1 a.2.2.1 a.2.2.2.1 a.2.2.2.2.1 a.2.2.2.2.2
theorem kb6_s {t0 t1 t2 t3 t4 t5 ρ : Type} {o : Option (t0 × t1 × t2 × t3 × t4 × t5)} {f : t0 → t1 → t2 → t3 → t4 → t5 → Option ρ} {r : ρ} (h : kb6 o f = some r) : ∃ (x0 : t0) (x1 : t1) (x2 : t2) (x3 : t3) (x4 : t4) (x5 : t5), o = some (x0, x1, x2, x3, x4, x5) ∧ f x0 x1 x2 x3 x4 x5 = some r := by
  cases o with
  | none => cases h
  | some a => exact ⟨a.1, a.2.1, a.2.2.1, a.2.2.2.1, a.2.2.2.2.1, a.2.2.2.2.2, rfl, h⟩
def kb7 {t0 t1 t2 t3 t4 t5 t6 ρ : Type} (o : Option (t0 × t1 × t2 × t3 × t4 × t5 × t6)) (f : t0 → t1 → t2 → t3 → t4 → t5 → t6 → Option ρ) : Option ρ := match o with
  | none => none
  | some a => f a.1 a.2.1 a.2.2.1 a.2.2.2.1 a.2.2.2.2.1 a.2.2.2.2.2.1 a.2.2.2.2.2.2
theorem kb7_s {t0 t1 t2 t3 t4 t5 t6 ρ : Type} {o : Option (t0 × t1 × t2 × t3 × t4 × t5 × t6)} {f : t0 → t1 → t2 → t3 → t4 → t5 → t6 → Option ρ} {r : ρ} (h : kb7 o f = some r) : ∃ (x0 : t0) (x1 : t1) (x2 : t2) (x3 : t3) (x4 : t4) (x5 : t5) (x6 : t6), o = some (x0, x1, x2, x3, x4, x5, x6) ∧ f x0 x1 x2 x3 x4 x5 x6 = some r := by
  cases o with
  | none => cases h
  | some a => exact ⟨a.1, a.2.1, a.2.2.1, a.2.2.2.1, a.2.2.2.2.1, a.2.2.2.2.2.1, a.2.2.2.2.2.2, rfl, h⟩
def kb8 {t0 t1 t2 t3 t4 t5 t6 t7 ρ : Type} (o : Option (t0 × t1 × t2 × t3 × t4 × t5 × t6 × t7)) (f : t0 → t1 → t2 → t3 → t4 → t5 → t6 → t7 → Option ρ) : Option ρ := match o with
  | none => none
  | some a => f a.1 a.2.1 a.2.2.1 a.2.2.2.1 a.2.2.2.2.1 a.2.2.2.2.2.1 a.2.2.2.2.2.2.1 a.2.2.2.2.2.2.2
theorem kb8_s {t0 t1 t2 t3 t4 t5 t6 t7 ρ : Type} {o : Option (t0 × t1 × t2 × t3 × t4 × t5 × t6 × t7)} {f : t0 → t1 → t2 → t3 → t4 → t5 → t6 → t7 → Option ρ} {r : ρ} (h : kb8 o f = some r) : ∃ (x0 : t0) (x1 : t1) (x2 : t2) (x3 : t3) (x4 : t4) (x5 : t5) (x6 : t6) (x7 : t7), o = some (x0, x1, x2, x3, x4, x5, x6, x7) ∧ f x0 x1 x2 x3 x4 x5 x6 x7 = some r := by
  cases o with
  | none => cases h
  | some a => exact ⟨a.1, a.2.1, a.2.2.1, a.2.2.2.1, a.2.2.2.2.1, a.2.2.2.2.2.1, a.2.2.2.2.2.2.1, a.2.2.2.2.2.2.2, rfl, h⟩
def kb9 {t0 t1 t2 t3 t4 t5 t6 t7 t8 ρ : Type} (o : Option (t0 × t1 × t2 × t3 × t4 × t5 × t6 × t7 × t8)) (f : t0 → t1 → t2 → t3 → t4 → t5 → t6 → t7 → t8 → Option ρ) : Option ρ := match o with
  | none => none
  | some a => f a.1 a.2.1 a.2.2.1 a.2.2.2.1 a.2.2.2.2.1 a.2.2.2.2.2.1 a.2.2.2.2.2.2.1 a.2.2.2.2.2.2.2.1 a.2.2.2.2.2.2.2.2
theorem kb9_s {t0 t1 t2 t3 t4 t5 t6 t7 t8 ρ : Type} {o : Option (t0 × t1 × t2 × t3 × t4 × t5 × t6 × t7 × t8)} {f : t0 → t1 → t2 → t3 → t4 → t5 → t6 → t7 → t8 → Option ρ} {r : ρ} (h : kb9 o f = some r) : ∃ (x0 : t0) (x1 : t1) (x2 : t2) (x3 : t3) (x4 : t4) (x5 : t5) (x6 : t6) (x7 : t7) (x8 : t8), o = some (x0, x1, x2, x3, x4, x5, x6, x7, x8) ∧ f x0 x1 x2 x3 x4 x5 x6 x7 x8 = some r := by
  cases o with
  | none => cases h
  | some a => exact ⟨a.1, a.2.1, a.2.2.1, a.2.2.2.1, a.2.2.2.2.1, a.2.2.2.2.2.1, a.2.2.2.2.2.2.1, a.2.2.2.2.2.2.2.1, a.2.2.2.2.2.2.2.2, rfl, h⟩
def kb10 {t0 t1 t2 t3 t4 t5 t6 t7 t8 t9 ρ : Type} (o : Option (t0 × t1 × t2 × t3 × t4 × t5 × t6 × t7 × t8 × t9)) (f : t0 → t1 → t2 → t3 → t4 → t5 → t6 → t7 → t8 → t9 → Option ρ) : Option ρ := match o with
  | none => none
  | some a => f a.1 a.2.1 a.2.2.1 a.2.2.2.1 a.2.2.2.2.1 a.2.2.2.2.2.1 a.2.2.2.2.2.2.1 a.2.2.2.2.2.2.2.1 a.2.2.2.2.2.2.2.2.1 a.2.2.2.2.2.2.2.2.2
theorem kb10_s {t0 t1 t2 t3 t4 t5 t6 t7 t8 t9 ρ : Type} {o : Option (t0 × t1 × t2 × t3 × t4 × t5 × t6 × t7 × t8 × t9)} {f : t0 → t1 → t2 → t3 → t4 → t5 → t6 → t7 → t8 → t9 → Option ρ} {r : ρ} (h : kb10 o f = some r) : ∃ (x0 : t0) (x1 : t1) (x2 : t2) (x3 : t3) (x4 : t4) (x5 : t5) (x6 : t6) (x7 : t7) (x8 : t8) (x9 : t9), o = some (x0, x1, x2, x3, x4, x5, x6, x7, x8, x9) ∧ f x0 x1 x2 x3 x4 x5 x6 x7 x8 x9 = some r := by
  cases o with
  | none => cases h
  | some a => exact ⟨a.1, a.2.1, a.2.2.1, a.2.2.2.1, a.2.2.2.2.1, a.2.2.2.2.2.1, a.2.2.2.2.2.2.1, a.2.2.2.2.2.2.2.1, a.2.2.2.2.2.2.2.2.1, a.2.2.2.2.2.2.2.2.2, rfl, h⟩
def kb11 {t0 t1 t2 t3 t4 t5 t6 t7 t8 t9 t10 ρ : Type} (o : Option (t0 × t1 × t2 × t3 × t4 × t5 × t6 × t7 × t8 × t9 × t10)) (f : t0 → t1 → t2 → t3 → t4 → t5 → t6 → t7 → t8 → t9 → t10 → Option ρ) : Option ρ := match o with
  | none => none
  | some a => f a.1 a.2.1 a.2.2.1 a.2.2.2.1 a.2.2.2.2.1 a.2.2.2.2.2.1 a.2.2.2.2.2.2.1 a.2.2.2.2.2.2.2.1 a.2.2.2.2.2.2.2.2.1 a.2.2.2.2.2.2.2.2.2.1 a.2.2.2.2.2.2.2.2.2.2
theorem kb11_s {t0 t1 t2 t3 t4 t5 t6 t7 t8 t9 t10 ρ : Type} {o : Option (t0 × t1 × t2 × t3 × t4 × t5 × t6 × t7 × t8 × t9 × t10)} {f : t0 → t1 → t2 → t3 → t4 → t5 → t6 → t7 → t8 → t9 → t10 → Option ρ} {r : ρ} (h : kb11 o f = some r) : ∃ (x0 : t0) (x1 : t1) (x2 : t2) (x3 : t3) (x4 : t4) (x5 : t5) (x6 : t6) (x7 : t7) (x8 : t8) (x9 : t9) (x10 : t10), o = some (x0, x1, x2, x3, x4, x5, x6, x7, x8, x9, x10) ∧ f x0 x1 x2 x3 x4 x5 x6 x7 x8 x9 x10 = some r := by
  cases o with
  | none => cases h
  | some a => exact ⟨a.1, a.2.1, a.2.2.1, a.2.2.2.1, a.2.2.2.2.1, a.2.2.2.2.2.1, a.2.2.2.2.2.2.1, a.2.2.2.2.2.2.2.1, a.2.2.2.2.2.2.2.2.1, a.2.2.2.2.2.2.2.2.2.1, a.2.2.2.2.2.2.2.2.2.2, rfl, h⟩
def kb12 {t0 t1 t2 t3 t4 t5 t6 t7 t8 t9 t10 t11 ρ : Type} (o : Option (t0 × t1 × t2 × t3 × t4 × t5 × t6 × t7 × t8 × t9 × t10 × t11)) (f : t0 → t1 → t2 → t3 → t4 → t5 → t6 → t7 → t8 → t9 → t10 → t11 → Option ρ) : Option ρ := match o with
  | none => none
  | some a => f a.1 a.2.1 a.2.2.1 a.2.2.2.1 a.2.2.2.2.1 a.2.2.2.2.2.1 a.2.2.2.2.2.2.1 a.2.2.2.2.2.2.2.1 a.2.2.2.2.2.2.2.2.1 a.2.2.2.2.2.2.2.2.2.1 a.2.2.2.2.2.2.2.2.2.2.1 a.2.2.2.2.2.2.2.2.2.2.2
theorem kb12_s {t0 t1 t2 t3 t4 t5 t6 t7 t8 t9 t10 t11 ρ : Type} {o : Option (t0 × t1 × t2 × t3 × t4 × t5 × t6 × t7 × t8 × t9 × t10 × t11)} {f : t0 → t1 → t2 → t3 → t4 → t5 → t6 → t7 → t8 → t9 → t10 → t11 → Option ρ} {r : ρ} (h : kb12 o f = some r) : ∃ (x0 : t0) (x1 : t1) (x2 : t2) (x3 : t3) (x4 : t4) (x5 : t5) (x6 : t6) (x7 : t7) (x8 : t8) (x9 : t9) (x10 : t10) (x11 : t11), o = some (x0, x1, x2, x3, x4, x5, x6, x7, x8, x9, x10, x11) ∧ f x0 x1 x2 x3 x4 x5 x6 x7 x8 x9 x10 x11 = some r := by
  cases o with
  | none => cases h
  | some a => exact ⟨a.1, a.2.1, a.2.2.1, a.2.2.2.1, a.2.2.2.2.1, a.2.2.2.2.2.1, a.2.2.2.2.2.2.1, a.2.2.2.2.2.2.2.1, a.2.2.2.2.2.2.2.2.1, a.2.2.2.2.2.2.2.2.2.1, a.2.2.2.2.2.2.2.2.2.2.1, a.2.2.2.2.2.2.2.2.2.2.2, rfl, h⟩
def kb13 {t0 t1 t2 t3 t4 t5 t6 t7 t8 t9 t10 t11 t12 ρ : Type} (o : Option (t0 × t1 × t2 × t3 × t4 × t5 × t6 × t7 × t8 × t9 × t10 × t11 × t12)) (f : t0 → t1 → t2 → t3 → t4 → t5 → t6 → t7 → t8 → t9 → t10 → t11 → t12 → Option ρ) : Option ρ := match o with
  | none => none
  | some a => f a.1 a.2.1 a.2.2.1 a.2.2.2.1 a.2.2.2.2.1 a.2.2.2.2.2.1 a.2.2.2.2.2.2.1 a.2.2.2.2.2.2.2.1 a.2.2.2.2.2.2.2.2.1 a.2.2.2.2.2.2.2.2.2.1 a.2.2.2.2.2.2.2.2.2.2.1 a.2.2.2.2.2.2.2.2.2.2.2.1 a.2.2.2.2.2.2.2.2.2.2.2.2
theorem kb13_s {t0 t1 t2 t3 t4 t5 t6 t7 t8 t9 t10 t11 t12 ρ : Type} {o : Option (t0 × t1 × t2 × t3 × t4 × t5 × t6 × t7 × t8 × t9 × t10 × t11 × t12)} {f : t0 → t1 → t2 → t3 → t4 → t5 → t6 → t7 → t8 → t9 → t10 → t11 → t12 → Option ρ} {r : ρ} (h : kb13 o f = some r) : ∃ (x0 : t0) (x1 : t1) (x2 : t2) (x3 : t3) (x4 : t4) (x5 : t5) (x6 : t6) (x7 : t7) (x8 : t8) (x9 : t9) (x10 : t10) (x11 : t11) (x12 : t12), o = some (x0, x1, x2, x3, x4, x5, x6, x7, x8, x9, x10, x11, x12) ∧ f x0 x1 x2 x3 x4 x5 x6 x7 x8 x9 x10 x11 x12 = some r := by
  cases o with
  | none => cases h
  | some a => exact ⟨a.1, a.2.1, a.2.2.1, a.2.2.2.1, a.2.2.2.2.1, a.2.2.2.2.2.1, a.2.2.2.2.2.2.1, a.2.2.2.2.2.2.2.1, a.2.2.2.2.2.2.2.2.1, a.2.2.2.2.2.2.2.2.2.1, a.2.2.2.2.2.2.2.2.2.2.1, a.2.2.2.2.2.2.2.2.2.2.2.1, a.2.2.2.2.2.2.2.2.2.2.2.2, rfl, h⟩
def kb14 {t0 t1 t2 t3 t4 t5 t6 t7 t8 t9 t10 t11 t12 t13 ρ : Type} (o : Option (t0 × t1 × t2 × t3 × t4 × t5 × t6 × t7 × t8 × t9 × t10 × t11 × t12 × t13)) (f : t0 → t1 → t2 → t3 → t4 → t5 → t6 → t7 → t8 → t9 → t10 → t11 → t12 → t13 → Option ρ) : Option ρ := match o with
  | none => none
  | some a => f a.1 a.2.1 a.2.2.1 a.2.2.2.1 a.2.2.2.2.1 a.2.2.2.2.2.1 a.2.2.2.2.2.2.1 a.2.2.2.2.2.2.2.1 a.2.2.2.2.2.2.2.2.1 a.2.2.2.2.2.2.2.2.2.1 a.2.2.2.2.2.2.2.2.2.2.1 a.2.2.2.2.2.2.2.2.2.2.2.1 a.2.2.2.2.2.2.2.2.2.2.2.2.1 a.2.2.2.2.2.2.2.2.2.2.2.2.2
theorem kb14_s {t0 t1 t2 t3 t4 t5 t6 t7 t8 t9 t10 t11 t12 t13 ρ : Type} {o : Option (t0 × t1 × t2 × t3 × t4 × t5 × t6 × t7 × t8 × t9 × t10 × t11 × t12 × t13)} {f : t0 → t1 → t2 → t3 → t4 → t5 → t6 → t7 → t8 → t9 → t10 → t11 → t12 → t13 → Option ρ} {r : ρ} (h : kb14 o f = some r) : ∃ (x0 : t0) (x1 : t1) (x2 : t2) (x3 : t3) (x4 : t4) (x5 : t5) (x6 : t6) (x7 : t7) (x8 : t8) (x9 : t9) (x10 : t10) (x11 : t11) (x12 : t12) (x13 : t13), o = some (x0, x1, x2, x3, x4, x5, x6, x7, x8, x9, x10, x11, x12, x13) ∧ f x0 x1 x2 x3 x4 x5 x6 x7 x8 x9 x10 x11 x12 x13 = some r := by
  cases o with
  | none => cases h
  | some a => exact ⟨a.1, a.2.1, a.2.2.1, a.2.2.2.1, a.2.2.2.2.1, a.2.2.2.2.2.1, a.2.2.2.2.2.2.1, a.2.2.2.2.2.2.2.1, a.2.2.2.2.2.2.2.2.1, a.2.2.2.2.2.2.2.2.2.1, a.2.2.2.2.2.2.2.2.2.2.1, a.2.2.2.2.2.2.2.2.2.2.2.1, a.2.2.2.2.2.2.2.2.2.2.2.2.1, a.2.2.2.2.2.2.2.2.2.2.2.2.2, rfl, h⟩
def kb15 {t0 t1 t2 t3 t4 t5 t6 t7 t8 t9 t10 t11 t12 t13 t14 ρ : Type} (o : Option (t0 × t1 × t2 × t3 × t4 × t5 × t6 × t7 × t8 × t9 × t10 × t11 × t12 × t13 × t14)) (f : t0 → t1 → t2 → t3 → t4 → t5 → t6 → t7 → t8 → t9 → t10 → t11 → t12 → t13 → t14 → Option ρ) : Option ρ := match o with
  | none => none
  | some a => f a.1 a.2.1 a.2.2.1 a.2.2.2.1 a.2.2.2.2.1 a.2.2.2.2.2.1 a.2.2.2.2.2.2.1 a.2.2.2.2.2.2.2.1 a.2.2.2.2.2.2.2.2.1 a.2.2.2.2.2.2.2.2.2.1 a.2.2.2.2.2.2.2.2.2.2.1 a.2.2.2.2.2.2.2.2.2.2.2.1 a.2.2.2.2.2.2.2.2.2.2.2.2.1 a.2.2.2.2.2.2.2.2.2.2.2.2.2.1 a.2.2.2.2.2.2.2.2.2.2.2.2.2.2
theorem kb15_s {t0 t1 t2 t3 t4 t5 t6 t7 t8 t9 t10 t11 t12 t13 t14 ρ : Type} {o : Option (t0 × t1 × t2 × t3 × t4 × t5 × t6 × t7 × t8 × t9 × t10 × t11 × t12 × t13 × t14)} {f : t0 → t1 → t2 → t3 → t4 → t5 → t6 → t7 → t8 → t9 → t10 → t11 → t12 → t13 → t14 → Option ρ} {r : ρ} (h : kb15 o f = some r) : ∃ (x0 : t0) (x1 : t1) (x2 : t2) (x3 : t3) (x4 : t4) (x5 : t5) (x6 : t6) (x7 : t7) (x8 : t8) (x9 : t9) (x10 : t10) (x11 : t11) (x12 : t12) (x13 : t13) (x14 : t14), o = some (x0, x1, x2, x3, x4, x5, x6, x7, x8, x9, x10, x11, x12, x13, x14) ∧ f x0 x1 x2 x3 x4 x5 x6 x7 x8 x9 x10 x11 x12 x13 x14 = some r := by
  cases o with
  | none => cases h
  | some a => exact ⟨a.1, a.2.1, a.2.2.1, a.2.2.2.1, a.2.2.2.2.1, a.2.2.2.2.2.1, a.2.2.2.2.2.2.1, a.2.2.2.2.2.2.2.1, a.2.2.2.2.2.2.2.2.1, a.2.2.2.2.2.2.2.2.2.1, a.2.2.2.2.2.2.2.2.2.2.1, a.2.2.2.2.2.2.2.2.2.2.2.1, a.2.2.2.2.2.2.2.2.2.2.2.2.1, a.2.2.2.2.2.2.2.2.2.2.2.2.2.1, a.2.2.2.2.2.2.2.2.2.2.2.2.2.2, rfl, h⟩
def kb16 {t0 t1 t2 t3 t4 t5 t6 t7 t8 t9 t10 t11 t12 t13 t14 t15 ρ : Type} (o : Option (t0 × t1 × t2 × t3 × t4 × t5 × t6 × t7 × t8 × t9 × t10 × t11 × t12 × t13 × t14 × t15)) (f : t0 → t1 → t2 → t3 → t4 → t5 → t6 → t7 → t8 → t9 → t10 → t11 → t12 → t13 → t14 → t15 → Option ρ) : Option ρ := match o with
  | none => none
  | some a => f a.1 a.2.1 a.2.2.1 a.2.2.2.1 a.2.2.2.2.1 a.2.2.2.2.2.1 a.2.2.2.2.2.2.1 a.2.2.2.2.2.2.2.1 a.2.2.2.2.2.2.2.2.1 a.2.2.2.2.2.2.2.2.2.1 a.2.2.2.2.2.2.2.2.2.2.1 a.2.2.2.2.2.2.2.2.2.2.2.1 a.2.2.2.2.2.2.2.2.2.2.2.2.1 a.2.2.2.2.2.2.2.2.2.2.2.2.2.1 a.2.2.2.2.2.2.2.2.2.2.2.2.2.2.1 a.2.2.2.2.2.2.2.2.2.2.2.2.2.2.2
theorem kb16_s {t0 t1 t2 t3 t4 t5 t6 t7 t8 t9 t10 t11 t12 t13 t14 t15 ρ : Type} {o : Option (t0 × t1 × t2 × t3 × t4 × t5 × t6 × t7 × t8 × t9 × t10 × t11 × t12 × t13 × t14 × t15)} {f : t0 → t1 → t2 → t3 → t4 → t5 → t6 → t7 → t8 → t9 → t10 → t11 → t12 → t13 → t14 → t15 → Option ρ} {r : ρ} (h : kb16 o f = some r) : ∃ (x0 : t0) (x1 : t1) (x2 : t2) (x3 : t3) (x4 : t4) (x5 : t5) (x6 : t6) (x7 : t7) (x8 : t8) (x9 : t9) (x10 : t10) (x11 : t11) (x12 : t12) (x13 : t13) (x14 : t14) (x15 : t15), o = some (x0, x1, x2, x3, x4, x5, x6, x7, x8, x9, x10, x11, x12, x13, x14, x15) ∧ f x0 x1 x2 x3 x4 x5 x6 x7 x8 x9 x10 x11 x12 x13 x14 x15 = some r := by
  cases o with
  | none => cases h
  | some a => exact ⟨a.1, a.2.1, a.2.2.1, a.2.2.2.1, a.2.2.2.2.1, a.2.2.2.2.2.1, a.2.2.2.2.2.2.1, a.2.2.2.2.2.2.2.1, a.2.2.2.2.2.2.2.2.1, a.2.2.2.2.2.2.2.2.2.1, a.2.2.2.2.2.2.2.2.2.2.1, a.2.2.2.2.2.2.2.2.2.2.2.1, a.2.2.2.2.2.2.2.2.2.2.2.2.1, a.2.2.2.2.2.2.2.2.2.2.2.2.2.1, a.2.2.2.2.2.2.2.2.2.2.2.2.2.2.1, a.2.2.2.2.2.2.2.2.2.2.2.2.2.2.2, rfl, h⟩
def kb17 {t0 t1 t2 t3 t4 t5 t6 t7 t8 t9 t10 t11 t12 t13 t14 t15 t16 ρ : Type} (o : Option (t0 × t1 × t2 × t3 × t4 × t5 × t6 × t7 × t8 × t9 × t10 × t11 × t12 × t13 × t14 × t15 × t16)) (f : t0 → t1 → t2 → t3 → t4 → t5 → t6 → t7 → t8 → t9 → t10 → t11 → t12 → t13 → t14 → t15 → t16 → Option ρ) : Option ρ := match o with
  | none => none
  | some a => f a.1 a.2.1 a.2.2.1 a.2.2.2.1 a.2.2.2.2.1 a.2.2.2.2.2.1 a.2.2.2.2.2.2.1 a.2.2.2.2.2.2.2.1 a.2.2.2.2.2.2.2.2.1 a.2.2.2.2.2.2.2.2.2.1 a.2.2.2.2.2.2.2.2.2.2.1 a.2.2.2.2.2.2.2.2.2.2.2.1 a.2.2.2.2.2.2.2.2.2.2.2.2.1 a.2.2.2.2.2.2.2.2.2.2.2.2.2.1 a.2.2.2.2.2.2.2.2.2.2.2.2.2.2.1 a.2.2.2.2.2.2.2.2.2.2.2.2.2.2.2.1 a.2.2.2.2.2.2.2.2.2.2.2.2.2.2.2.2
theorem kb17_s {t0 t1 t2 t3 t4 t5 t6 t7 t8 t9 t10 t11 t12 t13 t14 t15 t16 ρ : Type} {o : Option (t0 × t1 × t2 × t3 × t4 × t5 × t6 × t7 × t8 × t9 × t10 × t11 × t12 × t13 × t14 × t15 × t16)} {f : t0 → t1 → t2 → t3 → t4 → t5 → t6 → t7 → t8 → t9 → t10 → t11 → t12 → t13 → t14 → t15 → t16 → Option ρ} {r : ρ} (h : kb17 o f = some r) : ∃ (x0 : t0) (x1 : t1) (x2 : t2) (x3 : t3) (x4 : t4) (x5 : t5) (x6 : t6) (x7 : t7) (x8 : t8) (x9 : t9) (x10 : t10) (x11 : t11) (x12 : t12) (x13 : t13) (x14 : t14) (x15 : t15) (x16 : t16), o = some (x0, x1, x2, x3, x4, x5, x6, x7, x8, x9, x10, x11, x12, x13, x14, x15, x16) ∧ f x0 x1 x2 x3 x4 x5 x6 x7 x8 x9 x10 x11 x12 x13 x14 x15 x16 = some r := by
  cases o with
  | none => cases h
  | some a => exact ⟨a.1, a.2.1, a.2.2.1, a.2.2.2.1, a.2.2.2.2.1, a.2.2.2.2.2.1, a.2.2.2.2.2.2.1, a.2.2.2.2.2.2.2.1, a.2.2.2.2.2.2.2.2.1, a.2.2.2.2.2.2.2.2.2.1, a.2.2.2.2.2.2.2.2.2.2.1, a.2.2.2.2.2.2.2.2.2.2.2.1, a.2.2.2.2.2.2.2.2.2.2.2.2.1, a.2.2.2.2.2.2.2.2.2.2.2.2.2.1, a.2.2.2.2.2.2.2.2.2.2.2.2.2.2.1, a.2.2.2.2.2.2.2.2.2.2.2.2.2.2.2.1, a.2.2.2.2.2.2.2.2.2.2.2.2.2.2.2.2, rfl, h⟩
def kb18 {t0 t1 t2 t3 t4 t5 t6 t7 t8 t9 t10 t11 t12 t13 t14 t15 t16 t17 ρ : Type} (o : Option (t0 × t1 × t2 × t3 × t4 × t5 × t6 × t7 × t8 × t9 × t10 × t11 × t12 × t13 × t14 × t15 × t16 × t17)) (f : t0 → t1 → t2 → t3 → t4 → t5 → t6 → t7 → t8 → t9 → t10 → t11 → t12 → t13 → t14 → t15 → t16 → t17 → Option ρ) : Option ρ := match o with
  | none => none
  | some a => f a.1 a.2.1 a.2.2.1 a.2.2.2.1 a.2.2.2.2.1 a.2.2.2.2.2.1 a.2.2.2.2.2.2.1 a.2.2.2.2.2.2.2.1 a.2.2.2.2.2.2.2.2.1 a.2.2.2.2.2.2.2.2.2.1 a.2.2.2.2.2.2.2.2.2.2.1 a.2.2.2.2.2.2.2.2.2.2.2.1 a.2.2.2.2.2.2.2.2.2.2.2.2.1 a.2.2.2.2.2.2.2.2.2.2.2.2.2.1 a.2.2.2.2.2.2.2.2.2.2.2.2.2.2.1 a.2.2.2.2.2.2.2.2.2.2.2.2.2.2.2.1 a.2.2.2.2.2.2.2.2.2.2.2.2.2.2.2.2.1 a.2.2.2.2.2.2.2.2.2.2.2.2.2.2.2.2.2
theorem kb18_s {t0 t1 t2 t3 t4 t5 t6 t7 t8 t9 t10 t11 t12 t13 t14 t15 t16 t17 ρ : Type} {o : Option (t0 × t1 × t2 × t3 × t4 × t5 × t6 × t7 × t8 × t9 × t10 × t11 × t12 × t13 × t14 × t15 × t16 × t17)} {f : t0 → t1 → t2 → t3 → t4 → t5 → t6 → t7 → t8 → t9 → t10 → t11 → t12 → t13 → t14 → t15 → t16 → t17 → Option ρ} {r : ρ} (h : kb18 o f = some r) : ∃ (x0 : t0) (x1 : t1) (x2 : t2) (x3 : t3) (x4 : t4) (x5 : t5) (x6 : t6) (x7 : t7) (x8 : t8) (x9 : t9) (x10 : t10) (x11 : t11) (x12 : t12) (x13 : t13) (x14 : t14) (x15 : t15) (x16 : t16) (x17 : t17), o = some (x0, x1, x2, x3, x4, x5, x6, x7, x8, x9, x10, x11, x12, x13, x14, x15, x16, x17) ∧ f x0 x1 x2 x3 x4 x5 x6 x7 x8 x9 x10 x11 x12 x13 x14 x15 x16 x17 = some r := by
  cases o with
  | none => cases h
  | some a => exact ⟨a.1, a.2.1, a.2.2.1, a.2.2.2.1, a.2.2.2.2.1, a.2.2.2.2.2.1, a.2.2.2.2.2.2.1, a.2.2.2.2.2.2.2.1, a.2.2.2.2.2.2.2.2.1, a.2.2.2.2.2.2.2.2.2.1, a.2.2.2.2.2.2.2.2.2.2.1, a.2.2.2.2.2.2.2.2.2.2.2.1, a.2.2.2.2.2.2.2.2.2.2.2.2.1, a.2.2.2.2.2.2.2.2.2.2.2.2.2.1, a.2.2.2.2.2.2.2.2.2.2.2.2.2.2.1, a.2.2.2.2.2.2.2.2.2.2.2.2.2.2.2.1, a.2.2.2.2.2.2.2.2.2.2.2.2.2.2.2.2.1, a.2.2.2.2.2.2.2.2.2.2.2.2.2.2.2.2.2, rfl, h⟩
def kb19 {t0 t1 t2 t3 t4 t5 t6 t7 t8 t9 t10 t11 t12 t13 t14 t15 t16 t17 t18 ρ : Type} (o : Option (t0 × t1 × t2 × t3 × t4 × t5 × t6 × t7 × t8 × t9 × t10 × t11 × t12 × t13 × t14 × t15 × t16 × t17 × t18)) (f : t0 → t1 → t2 → t3 → t4 → t5 → t6 → t7 → t8 → t9 → t10 → t11 → t12 → t13 → t14 → t15 → t16 → t17 → t18 → Option ρ) : Option ρ := match o with
  | none => none
  | some a => f a.1 a.2.1 a.2.2.1 a.2.2.2.1 a.2.2.2.2.1 a.2.2.2.2.2.1 a.2.2.2.2.2.2.1 a.2.2.2.2.2.2.2.1 a.2.2.2.2.2.2.2.2.1 a.2.2.2.2.2.2.2.2.2.1 a.2.2.2.2.2.2.2.2.2.2.1 a.2.2.2.2.2.2.2.2.2.2.2.1 a.2.2.2.2.2.2.2.2.2.2.2.2.1 a.2.2.2.2.2.2.2.2.2.2.2.2.2.1 a.2.2.2.2.2.2.2.2.2.2.2.2.2.2.1 a.2.2.2.2.2.2.2.2.2.2.2.2.2.2.2.1 a.2.2.2.2.2.2.2.2.2.2.2.2.2.2.2.2.1 a.2.2.2.2.2.2.2.2.2.2.2.2.2.2.2.2.2.1 a.2.2.2.2.2.2.2.2.2.2.2.2.2.2.2.2.2.2
theorem kb19_s {t0 t1 t2 t3 t4 t5 t6 t7 t8 t9 t10 t11 t12 t13 t14 t15 t16 t17 t18 ρ : Type} {o : Option (t0 × t1 × t2 × t3 × t4 × t5 × t6 × t7 × t8 × t9 × t10 × t11 × t12 × t13 × t14 × t15 × t16 × t17 × t18)} {f : t0 → t1 → t2 → t3 → t4 → t5 → t6 → t7 → t8 → t9 → t10 → t11 → t12 → t13 → t14 → t15 → t16 → t17 → t18 → Option ρ} {r : ρ} (h : kb19 o f = some r) : ∃ (x0 : t0) (x1 : t1) (x2 : t2) (x3 : t3) (x4 : t4) (x5 : t5) (x6 : t6) (x7 : t7) (x8 : t8) (x9 : t9) (x10 : t10) (x11 : t11) (x12 : t12) (x13 : t13) (x14 : t14) (x15 : t15) (x16 : t16) (x17 : t17) (x18 : t18), o = some (x0, x1, x2, x3, x4, x5, x6, x7, x8, x9, x10, x11, x12, x13, x14, x15, x16, x17, x18) ∧ f x0 x1 x2 x3 x4 x5 x6 x7 x8 x9 x10 x11 x12 x13 x14 x15 x16 x17 x18 = some r := by
  cases o with
  | none => cases h
  | some a => exact ⟨a.1, a.2.1, a.2.2.1, a.2.2.2.1, a.2.2.2.2.1, a.2.2.2.2.2.1, a.2.2.2.2.2.2.1, a.2.2.2.2.2.2.2.1, a.2.2.2.2.2.2.2.2.1, a.2.2.2.2.2.2.2.2.2.1, a.2.2.2.2.2.2.2.2.2.2.1, a.2.2.2.2.2.2.2.2.2.2.2.1, a.2.2.2.2.2.2.2.2.2.2.2.2.1, a.2.2.2.2.2.2.2.2.2.2.2.2.2.1, a.2.2.2.2.2.2.2.2.2.2.2.2.2.2.1, a.2.2.2.2.2.2.2.2.2.2.2.2.2.2.2.1, a.2.2.2.2.2.2.2.2.2.2.2.2.2.2.2.2.1, a.2.2.2.2.2.2.2.2.2.2.2.2.2.2.2.2.2.1, a.2.2.2.2.2.2.2.2.2.2.2.2.2.2.2.2.2.2, rfl, h⟩
def kb20 {t0 t1 t2 t3 t4 t5 t6 t7 t8 t9 t10 t11 t12 t13 t14 t15 t16 t17 t18 t19 ρ : Type} (o : Option (t0 × t1 × t2 × t3 × t4 × t5 × t6 × t7 × t8 × t9 × t10 × t11 × t12 × t13 × t14 × t15 × t16 × t17 × t18 × t19)) (f : t0 → t1 → t2 → t3 → t4 → t5 → t6 → t7 → t8 → t9 → t10 → t11 → t12 → t13 → t14 → t15 → t16 → t17 → t18 → t19 → Option ρ) : Option ρ := match o with
  | none => none
  | some a => f a.1 a.2.1 a.2.2.1 a.2.2.2.1 a.2.2.2.2.1 a.2.2.2.2.2.1 a.2.2.2.2.2.2.1 a.2.2.2.2.2.2.2.1 a.2.2.2.2.2.2.2.2.1 a.2.2.2.2.2.2.2.2.2.1 a.2.2.2.2.2.2.2.2.2.2.1 a.2.2.2.2.2.2.2.2.2.2.2.1 a.2.2.2.2.2.2.2.2.2.2.2.2.1 a.2.2.2.2.2.2.2.2.2.2.2.2.2.1 a.2.2.2.2.2.2.2.2.2.2.2.2.2.2.1 a.2.2.2.2.2.2.2.2.2.2.2.2.2.2.2.1 a.2.2.2.2.2.2.2.2.2.2.2.2.2.2.2.2.1 a.2.2.2.2.2.2.2.2.2.2.2.2.2.2.2.2.2.1 a.2.2.2.2.2.2.2.2.2.2.2.2.2.2.2.2.2.2.1 a.2.2.2.2.2.2.2.2.2.2.2.2.2.2.2.2.2.2.2
theorem kb20_s {t0 t1 t2 t3 t4 t5 t6 t7 t8 t9 t10 t11 t12 t13 t14 t15 t16 t17 t18 t19 ρ : Type} {o : Option (t0 × t1 × t2 × t3 × t4 × t5 × t6 × t7 × t8 × t9 × t10 × t11 × t12 × t13 × t14 × t15 × t16 × t17 × t18 × t19)} {f : t0 → t1 → t2 → t3 → t4 → t5 → t6 → t7 → t8 → t9 → t10 → t11 → t12 → t13 → t14 → t15 → t16 → t17 → t18 → t19 → Option ρ} {r : ρ} (h : kb20 o f = some r) : ∃ (x0 : t0) (x1 : t1) (x2 : t2) (x3 : t3) (x4 : t4) (x5 : t5) (x6 : t6) (x7 : t7) (x8 : t8) (x9 : t9) (x10 : t10) (x11 : t11) (x12 : t12) (x13 : t13) (x14 : t14) (x15 : t15) (x16 : t16) (x17 : t17) (x18 : t18) (x19 : t19), o = some (x0, x1, x2, x3, x4, x5, x6, x7, x8, x9, x10, x11, x12, x13, x14, x15, x16, x17, x18, x19) ∧ f x0 x1 x2 x3 x4 x5 x6 x7 x8 x9 x10 x11 x12 x13 x14 x15 x16 x17 x18 x19 = some r := by
  cases o with
  | none => cases h
  | some a => exact ⟨a.1, a.2.1, a.2.2.1, a.2.2.2.1, a.2.2.2.2.1, a.2.2.2.2.2.1, a.2.2.2.2.2.2.1, a.2.2.2.2.2.2.2.1, a.2.2.2.2.2.2.2.2.1, a.2.2.2.2.2.2.2.2.2.1, a.2.2.2.2.2.2.2.2.2.2.1, a.2.2.2.2.2.2.2.2.2.2.2.1, a.2.2.2.2.2.2.2.2.2.2.2.2.1, a.2.2.2.2.2.2.2.2.2.2.2.2.2.1, a.2.2.2.2.2.2.2.2.2.2.2.2.2.2.1, a.2.2.2.2.2.2.2.2.2.2.2.2.2.2.2.1, a.2.2.2.2.2.2.2.2.2.2.2.2.2.2.2.2.1, a.2.2.2.2.2.2.2.2.2.2.2.2.2.2.2.2.2.1, a.2.2.2.2.2.2.2.2.2.2.2.2.2.2.2.2.2.2.1, a.2.2.2.2.2.2.2.2.2.2.2.2.2.2.2.2.2.2.2, rfl, h⟩
def kb21 {t0 t1 t2 t3 t4 t5 t6 t7 t8 t9 t10 t11 t12 t13 t14 t15 t16 t17 t18 t19 t20 ρ : Type} (o : Option (t0 × t1 × t2 × t3 × t4 × t5 × t6 × t7 × t8 × t9 × t10 × t11 × t12 × t13 × t14 × t15 × t16 × t17 × t18 × t19 × t20)) (f : t0 → t1 → t2 → t3 → t4 → t5 → t6 → t7 → t8 → t9 → t10 → t11 → t12 → t13 → t14 → t15 → t16 → t17 → t18 → t19 → t20 → Option ρ) : Option ρ := match o with
  | none => none
  | some a => f a.1 a.2.1 a.2.2.1 a.2.2.2.1 a.2.2.2.2.1 a.2.2.2.2.2.1 a.2.2.2.2.2.2.1 a.2.2.2.2.2.2.2.1 a.2.2.2.2.2.2.2.2.1 a.2.2.2.2.2.2.2.2.2.1 a.2.2.2.2.2.2.2.2.2.2.1 a.2.2.2.2.2.2.2.2.2.2.2.1 a.2.2.2.2.2.2.2.2.2.2.2.2.1 a.2.2.2.2.2.2.2.2.2.2.2.2.2.1 a.2.2.2.2.2.2.2.2.2.2.2.2.2.2.1 a.2.2.2.2.2.2.2.2.2.2.2.2.2.2.2.1 a.2.2.2.2.2.2.2.2.2.2.2.2.2.2.2.2.1 a.2.2.2.2.2.2.2.2.2.2.2.2.2.2.2.2.2.1 a.2.2.2.2.2.2.2.2.2.2.2.2.2.2.2.2.2.2.1 a.2.2.2.2.2.2.2.2.2.2.2.2.2.2.2.2.2.2.2.1 a.2.2.2.2.2.2.2.2.2.2.2.2.2.2.2.2.2.2.2.2
theorem kb21_s {t0 t1 t2 t3 t4 t5 t6 t7 t8 t9 t10 t11 t12 t13 t14 t15 t16 t17 t18 t19 t20 ρ : Type} {o : Option (t0 × t1 × t2 × t3 × t4 × t5 × t6 × t7 × t8 × t9 × t10 × t11 × t12 × t13 × t14 × t15 × t16 × t17 × t18 × t19 × t20)} {f : t0 → t1 → t2 → t3 → t4 → t5 → t6 → t7 → t8 → t9 → t10 → t11 → t12 → t13 → t14 → t15 → t16 → t17 → t18 → t19 → t20 → Option ρ} {r : ρ} (h : kb21 o f = some r) : ∃ (x0 : t0) (x1 : t1) (x2 : t2) (x3 : t3) (x4 : t4) (x5 : t5) (x6 : t6) (x7 : t7) (x8 : t8) (x9 : t9) (x10 : t10) (x11 : t11) (x12 : t12) (x13 : t13) (x14 : t14) (x15 : t15) (x16 : t16) (x17 : t17) (x18 : t18) (x19 : t19) (x20 : t20), o = some (x0, x1, x2, x3, x4, x5, x6, x7, x8, x9, x10, x11, x12, x13, x14, x15, x16, x17, x18, x19, x20) ∧ f x0 x1 x2 x3 x4 x5 x6 x7 x8 x9 x10 x11 x12 x13 x14 x15 x16 x17 x18 x19 x20 = some r := by
  cases o with
  | none => cases h
  | some a => exact ⟨a.1, a.2.1, a.2.2.1, a.2.2.2.1, a.2.2.2.2.1, a.2.2.2.2.2.1, a.2.2.2.2.2.2.1, a.2.2.2.2.2.2.2.1, a.2.2.2.2.2.2.2.2.1, a.2.2.2.2.2.2.2.2.2.1, a.2.2.2.2.2.2.2.2.2.2.1, a.2.2.2.2.2.2.2.2.2.2.2.1, a.2.2.2.2.2.2.2.2.2.2.2.2.1, a.2.2.2.2.2.2.2.2.2.2.2.2.2.1, a.2.2.2.2.2.2.2.2.2.2.2.2.2.2.1, a.2.2.2.2.2.2.2.2.2.2.2.2.2.2.2.1, a.2.2.2.2.2.2.2.2.2.2.2.2.2.2.2.2.1, a.2.2.2.2.2.2.2.2.2.2.2.2.2.2.2.2.2.1, a.2.2.2.2.2.2.2.2.2.2.2.2.2.2.2.2.2.2.1, a.2.2.2.2.2.2.2.2.2.2.2.2.2.2.2.2.2.2.2.1, a.2.2.2.2.2.2.2.2.2.2.2.2.2.2.2.2.2.2.2.2, rfl, h⟩
def kb22 {t0 t1 t2 t3 t4 t5 t6 t7 t8 t9 t10 t11 t12 t13 t14 t15 t16 t17 t18 t19 t20 t21 ρ : Type} (o : Option (t0 × t1 × t2 × t3 × t4 × t5 × t6 × t7 × t8 × t9 × t10 × t11 × t12 × t13 × t14 × t15 × t16 × t17 × t18 × t19 × t20 × t21)) (f : t0 → t1 → t2 → t3 → t4 → t5 → t6 → t7 → t8 → t9 → t10 → t11 → t12 → t13 → t14 → t15 → t16 → t17 → t18 → t19 → t20 → t21 → Option ρ) : Option ρ := match o with
  | none => none
  | some a => f a.1 a.2.1 a.2.2.1 a.2.2.2.1 a.2.2.2.2.1 a.2.2.2.2.2.1 a.2.2.2.2.2.2.1 a.2.2.2.2.2.2.2.1 a.2.2.2.2.2.2.2.2.1 a.2.2.2.2.2.2.2.2.2.1 a.2.2.2.2.2.2.2.2.2.2.1 a.2.2.2.2.2.2.2.2.2.2.2.1 a.2.2.2.2.2.2.2.2.2.2.2.2.1 a.2.2.2.2.2.2.2.2.2.2.2.2.2.1 a.2.2.2.2.2.2.2.2.2.2.2.2.2.2.1 a.2.2.2.2.2.2.2.2.2.2.2.2.2.2.2.1 a.2.2.2.2.2.2.2.2.2.2.2.2.2.2.2.2.1 a.2.2.2.2.2.2.2.2.2.2.2.2.2.2.2.2.2.1 a.2.2.2.2.2.2.2.2.2.2.2.2.2.2.2.2.2.2.1 a.2.2.2.2.2.2.2.2.2.2.2.2.2.2.2.2.2.2.2.1 a.2.2.2.2.2.2.2.2.2.2.2.2.2.2.2.2.2.2.2.2.1 a.2.2.2.2.2.2.2.2.2.2.2.2.2.2.2.2.2.2.2.2.2
theorem kb22_s {t0 t1 t2 t3 t4 t5 t6 t7 t8 t9 t10 t11 t12 t13 t14 t15 t16 t17 t18 t19 t20 t21 ρ : Type} {o : Option (t0 × t1 × t2 × t3 × t4 × t5 × t6 × t7 × t8 × t9 × t10 × t11 × t12 × t13 × t14 × t15 × t16 × t17 × t18 × t19 × t20 × t21)} {f : t0 → t1 → t2 → t3 → t4 → t5 → t6 → t7 → t8 → t9 → t10 → t11 → t12 → t13 → t14 → t15 → t16 → t17 → t18 → t19 → t20 → t21 → Option ρ} {r : ρ} (h : kb22 o f = some r) : ∃ (x0 : t0) (x1 : t1) (x2 : t2) (x3 : t3) (x4 : t4) (x5 : t5) (x6 : t6) (x7 : t7) (x8 : t8) (x9 : t9) (x10 : t10) (x11 : t11) (x12 : t12) (x13 : t13) (x14 : t14) (x15 : t15) (x16 : t16) (x17 : t17) (x18 : t18) (x19 : t19) (x20 : t20) (x21 : t21), o = some (x0, x1, x2, x3, x4, x5, x6, x7, x8, x9, x10, x11, x12, x13, x14, x15, x16, x17, x18, x19, x20, x21) ∧ f x0 x1 x2 x3 x4 x5 x6 x7 x8 x9 x10 x11 x12 x13 x14 x15 x16 x17 x18 x19 x20 x21 = some r := by
  cases o with
  | none => cases h
  | some a => exact ⟨a.1, a.2.1, a.2.2.1, a.2.2.2.1, a.2.2.2.2.1, a.2.2.2.2.2.1, a.2.2.2.2.2.2.1, a.2.2.2.2.2.2.2.1, a.2.2.2.2.2.2.2.2.1, a.2.2.2.2.2.2.2.2.2.1, a.2.2.2.2.2.2.2.2.2.2.1, a.2.2.2.2.2.2.2.2.2.2.2.1, a.2.2.2.2.2.2.2.2.2.2.2.2.1, a.2.2.2.2.2.2.2.2.2.2.2.2.2.1, a.2.2.2.2.2.2.2.2.2.2.2.2.2.2.1, a.2.2.2.2.2.2.2.2.2.2.2.2.2.2.2.1, a.2.2.2.2.2.2.2.2.2.2.2.2.2.2.2.2.1, a.2.2.2.2.2.2.2.2.2.2.2.2.2.2.2.2.2.1, a.2.2.2.2.2.2.2.2.2.2.2.2.2.2.2.2.2.2.1, a.2.2.2.2.2.2.2.2.2.2.2.2.2.2.2.2.2.2.2.1, a.2.2.2.2.2.2.2.2.2.2.2.2.2.2.2.2.2.2.2.2.1, a.2.2.2.2.2.2.2.2.2.2.2.2.2.2.2.2.2.2.2.2.2, rfl, h⟩
def kb23 {t0 t1 t2 t3 t4 t5 t6 t7 t8 t9 t10 t11 t12 t13 t14 t15 t16 t17 t18 t19 t20 t21 t22 ρ : Type} (o : Option (t0 × t1 × t2 × t3 × t4 × t5 × t6 × t7 × t8 × t9 × t10 × t11 × t12 × t13 × t14 × t15 × t16 × t17 × t18 × t19 × t20 × t21 × t22)) (f : t0 → t1 → t2 → t3 → t4 → t5 → t6 → t7 → t8 → t9 → t10 → t11 → t12 → t13 → t14 → t15 → t16 → t17 → t18 → t19 → t20 → t21 → t22 → Option ρ) : Option ρ := match o with
  | none => none
  | some a => f a.1 a.2.1 a.2.2.1 a.2.2.2.1 a.2.2.2.2.1 a.2.2.2.2.2.1 a.2.2.2.2.2.2.1 a.2.2.2.2.2.2.2.1 a.2.2.2.2.2.2.2.2.1 a.2.2.2.2.2.2.2.2.2.1 a.2.2.2.2.2.2.2.2.2.2.1 a.2.2.2.2.2.2.2.2.2.2.2.1 a.2.2.2.2.2.2.2.2.2.2.2.2.1 a.2.2.2.2.2.2.2.2.2.2.2.2.2.1 a.2.2.2.2.2.2.2.2.2.2.2.2.2.2.1 a.2.2.2.2.2.2.2.2.2.2.2.2.2.2.2.1 a.2.2.2.2.2.2.2.2.2.2.2.2.2.2.2.2.1 a.2.2.2.2.2.2.2.2.2.2.2.2.2.2.2.2.2.1 a.2.2.2.2.2.2.2.2.2.2.2.2.2.2.2.2.2.2.1 a.2.2.2.2.2.2.2.2.2.2.2.2.2.2.2.2.2.2.2.1 a.2.2.2.2.2.2.2.2.2.2.2.2.2.2.2.2.2.2.2.2.1 a.2.2.2.2.2.2.2.2.2.2.2.2.2.2.2.2.2.2.2.2.2.1 a.2.2.2.2.2.2.2.2.2.2.2.2.2.2.2.2.2.2.2.2.2.2
theorem kb23_s {t0 t1 t2 t3 t4 t5 t6 t7 t8 t9 t10 t11 t12 t13 t14 t15 t16 t17 t18 t19 t20 t21 t22 ρ : Type} {o : Option (t0 × t1 × t2 × t3 × t4 × t5 × t6 × t7 × t8 × t9 × t10 × t11 × t12 × t13 × t14 × t15 × t16 × t17 × t18 × t19 × t20 × t21 × t22)} {f : t0 → t1 → t2 → t3 → t4 → t5 → t6 → t7 → t8 → t9 → t10 → t11 → t12 → t13 → t14 → t15 → t16 → t17 → t18 → t19 → t20 → t21 → t22 → Option ρ} {r : ρ} (h : kb23 o f = some r) : ∃ (x0 : t0) (x1 : t1) (x2 : t2) (x3 : t3) (x4 : t4) (x5 : t5) (x6 : t6) (x7 : t7) (x8 : t8) (x9 : t9) (x10 : t10) (x11 : t11) (x12 : t12) (x13 : t13) (x14 : t14) (x15 : t15) (x16 : t16) (x17 : t17) (x18 : t18) (x19 : t19) (x20 : t20) (x21 : t21) (x22 : t22), o = some (x0, x1, x2, x3, x4, x5, x6, x7, x8, x9, x10, x11, x12, x13, x14, x15, x16, x17, x18, x19, x20, x21, x22) ∧ f x0 x1 x2 x3 x4 x5 x6 x7 x8 x9 x10 x11 x12 x13 x14 x15 x16 x17 x18 x19 x20 x21 x22 = some r := by
  cases o with
  | none => cases h
  | some a => exact ⟨a.1, a.2.1, a.2.2.1, a.2.2.2.1, a.2.2.2.2.1, a.2.2.2.2.2.1, a.2.2.2.2.2.2.1, a.2.2.2.2.2.2.2.1, a.2.2.2.2.2.2.2.2.1, a.2.2.2.2.2.2.2.2.2.1, a.2.2.2.2.2.2.2.2.2.2.1, a.2.2.2.2.2.2.2.2.2.2.2.1, a.2.2.2.2.2.2.2.2.2.2.2.2.1, a.2.2.2.2.2.2.2.2.2.2.2.2.2.1, a.2.2.2.2.2.2.2.2.2.2.2.2.2.2.1, a.2.2.2.2.2.2.2.2.2.2.2.2.2.2.2.1, a.2.2.2.2.2.2.2.2.2.2.2.2.2.2.2.2.1, a.2.2.2.2.2.2.2.2.2.2.2.2.2.2.2.2.2.1, a.2.2.2.2.2.2.2.2.2.2.2.2.2.2.2.2.2.2.1, a.2.2.2.2.2.2.2.2.2.2.2.2.2.2.2.2.2.2.2.1, a.2.2.2.2.2.2.2.2.2.2.2.2.2.2.2.2.2.2.2.2.1, a.2.2.2.2.2.2.2.2.2.2.2.2.2.2.2.2.2.2.2.2.2.1, a.2.2.2.2.2.2.2.2.2.2.2.2.2.2.2.2.2.2.2.2.2.2, rfl, h⟩
def kb24 {t0 t1 t2 t3 t4 t5 t6 t7 t8 t9 t10 t11 t12 t13 t14 t15 t16 t17 t18 t19 t20 t21 t22 t23 ρ : Type} (o : Option (t0 × t1 × t2 × t3 × t4 × t5 × t6 × t7 × t8 × t9 × t10 × t11 × t12 × t13 × t14 × t15 × t16 × t17 × t18 × t19 × t20 × t21 × t22 × t23)) (f : t0 → t1 → t2 → t3 → t4 → t5 → t6 → t7 → t8 → t9 → t10 → t11 → t12 → t13 → t14 → t15 → t16 → t17 → t18 → t19 → t20 → t21 → t22 → t23 → Option ρ) : Option ρ := match o with
  | none => none
  | some a => f a.1 a.2.1 a.2.2.1 a.2.2.2.1 a.2.2.2.2.1 a.2.2.2.2.2.1 a.2.2.2.2.2.2.1 a.2.2.2.2.2.2.2.1 a.2.2.2.2.2.2.2.2.1 a.2.2.2.2.2.2.2.2.2.1 a.2.2.2.2.2.2.2.2.2.2.1 a.2.2.2.2.2.2.2.2.2.2.2.1 a.2.2.2.2.2.2.2.2.2.2.2.2.1 a.2.2.2.2.2.2.2.2.2.2.2.2.2.1 a.2.2.2.2.2.2.2.2.2.2.2.2.2.2.1 a.2.2.2.2.2.2.2.2.2.2.2.2.2.2.2.1 a.2.2.2.2.2.2.2.2.2.2.2.2.2.2.2.2.1 a.2.2.2.2.2.2.2.2.2.2.2.2.2.2.2.2.2.1 a.2.2.2.2.2.2.2.2.2.2.2.2.2.2.2.2.2.2.1 a.2.2.2.2.2.2.2.2.2.2.2.2.2.2.2.2.2.2.2.1 a.2.2.2.2.2.2.2.2.2.2.2.2.2.2.2.2.2.2.2.2.1 a.2.2.2.2.2.2.2.2.2.2.2.2.2.2.2.2.2.2.2.2.2.1 a.2.2.2.2.2.2.2.2.2.2.2.2.2.2.2.2.2.2.2.2.2.2.1 a.2.2.2.2.2.2.2.2.2.2.2.2.2.2.2.2.2.2.2.2.2.2.2
theorem kb24_s {t0 t1 t2 t3 t4 t5 t6 t7 t8 t9 t10 t11 t12 t13 t14 t15 t16 t17 t18 t19 t20 t21 t22 t23 ρ : Type} {o : Option (t0 × t1 × t2 × t3 × t4 × t5 × t6 × t7 × t8 × t9 × t10 × t11 × t12 × t13 × t14 × t15 × t16 × t17 × t18 × t19 × t20 × t21 × t22 × t23)} {f : t0 → t1 → t2 → t3 → t4 → t5 → t6 → t7 → t8 → t9 → t10 → t11 → t12 → t13 → t14 → t15 → t16 → t17 → t18 → t19 → t20 → t21 → t22 → t23 → Option ρ} {r : ρ} (h : kb24 o f = some r) : ∃ (x0 : t0) (x1 : t1) (x2 : t2) (x3 : t3) (x4 : t4) (x5 : t5) (x6 : t6) (x7 : t7) (x8 : t8) (x9 : t9) (x10 : t10) (x11 : t11) (x12 : t12) (x13 : t13) (x14 : t14) (x15 : t15) (x16 : t16) (x17 : t17) (x18 : t18) (x19 : t19) (x20 : t20) (x21 : t21) (x22 : t22) (x23 : t23), o = some (x0, x1, x2, x3, x4, x5, x6, x7, x8, x9, x10, x11, x12, x13, x14, x15, x16, x17, x18, x19, x20, x21, x22, x23) ∧ f x0 x1 x2 x3 x4 x5 x6 x7 x8 x9 x10 x11 x12 x13 x14 x15 x16 x17 x18 x19 x20 x21 x22 x23 = some r := by
  cases o with
  | none => cases h
  | some a => exact ⟨a.1, a.2.1, a.2.2.1, a.2.2.2.1, a.2.2.2.2.1, a.2.2.2.2.2.1, a.2.2.2.2.2.2.1, a.2.2.2.2.2.2.2.1, a.2.2.2.2.2.2.2.2.1, a.2.2.2.2.2.2.2.2.2.1, a.2.2.2.2.2.2.2.2.2.2.1, a.2.2.2.2.2.2.2.2.2.2.2.1, a.2.2.2.2.2.2.2.2.2.2.2.2.1, a.2.2.2.2.2.2.2.2.2.2.2.2.2.1, a.2.2.2.2.2.2.2.2.2.2.2.2.2.2.1, a.2.2.2.2.2.2.2.2.2.2.2.2.2.2.2.1, a.2.2.2.2.2.2.2.2.2.2.2.2.2.2.2.2.1, a.2.2.2.2.2.2.2.2.2.2.2.2.2.2.2.2.2.1, a.2.2.2.2.2.2.2.2.2.2.2.2.2.2.2.2.2.2.1, a.2.2.2.2.2.2.2.2.2.2.2.2.2.2.2.2.2.2.2.1, a.2.2.2.2.2.2.2.2.2.2.2.2.2.2.2.2.2.2.2.2.1, a.2.2.2.2.2.2.2.2.2.2.2.2.2.2.2.2.2.2.2.2.2.1, a.2.2.2.2.2.2.2.2.2.2.2.2.2.2.2.2.2.2.2.2.2.2.1, a.2.2.2.2.2.2.2.2.2.2.2.2.2.2.2.2.2.2.2.2.2.2.2, rfl, h⟩
/-! ===== the nest words, the tables, the contract ===== -/
def kr_nf : List (String × Nat × String × String × String × String) := [("KingRansom", 76, "KingRansom$Text", "length", "I", "KingRansom"), ("KingRansom", 85, "KingRansom$Text", "fault", "I", "KingRansom"), ("KingRansom", 105, "KingRansom$Text", "place", "I", "KingRansom"), ("KingRansom$Text", 44, "KingRansom$Tale", "stands", "Z", "KingRansom"), ("KingRansom", 278, "KingRansom$Tale", "stands", "Z", "KingRansom"), ("KingRansom$State", 18, "KingRansom$Tale", "price", "I", "KingRansom"), ("KingRansom$Text", 75, "KingRansom$Tale", "price", "I", "KingRansom"), ("KingRansom$Text", 78, "KingRansom$Tale", "death", "I", "KingRansom"), ("KingRansom", 111, "KingRansom$Tale", "death", "I", "KingRansom"), ("KingRansom$Spreading", 27, "KingRansom$Tale", "payers", "I", "KingRansom"), ("KingRansom", 102, "KingRansom$Tale", "payers", "I", "KingRansom"), ("KingRansom$State", 50, "KingRansom$Tale", "payers", "I", "KingRansom"), ("KingRansom$Text", 84, "KingRansom$Tale", "payers", "I", "KingRansom"), ("KingRansom", 114, "KingRansom$Tale", "bids", "I", "KingRansom"), ("KingRansom$Text", 90, "KingRansom$Tale", "bids", "I", "KingRansom"), ("KingRansom", 117, "KingRansom$Tale", "hostages", "I", "KingRansom"), ("KingRansom$Text", 101, "KingRansom$Tale", "hostages", "I", "KingRansom"), ("KingRansom$Scales", 28, "KingRansom$Tale", "bags", "I", "KingRansom"), ("KingRansom", 120, "KingRansom$Tale", "bags", "I", "KingRansom"), ("KingRansom$Text", 107, "KingRansom$Tale", "bags", "I", "KingRansom"), ("KingRansom$Scales", 33, "KingRansom$Tale", "bagMarks", "I", "KingRansom"), ("KingRansom", 123, "KingRansom$Tale", "bagMarks", "I", "KingRansom"), ("KingRansom$Text", 110, "KingRansom$Tale", "bagMarks", "I", "KingRansom"), ("KingRansom$State", 37, "KingRansom$Tale", "goods", "[I", "KingRansom"), ("KingRansom$Spreading", 46, "KingRansom$Tale", "shy", "[I", "KingRansom"), ("KingRansom$State", 53, "KingRansom$Tale", "shy", "[I", "KingRansom"), ("KingRansom", 151, "KingRansom$Tale", "shy", "[I", "KingRansom"), ("KingRansom", 164, "KingRansom$Tale", "bidOf", "[I", "KingRansom"), ("KingRansom", 225, "KingRansom$Tale", "daysOf", "[I", "KingRansom"), ("KingRansom", 108, "KingRansom$State", "price", "I", "KingRansom"), ("KingRansom", 126, "KingRansom$State", "months", "I", "KingRansom"), ("KingRansom", 129, "KingRansom$State", "chest", "I", "KingRansom"), ("KingRansom", 132, "KingRansom$State", "given", "I", "KingRansom"), ("KingRansom", 135, "KingRansom$State", "fate", "I", "KingRansom"), ("KingRansom$Spreading", 41, "KingRansom$State", "goods", "[I", "KingRansom"), ("KingRansom$Book", 22, "KingRansom$State", "goods", "[I", "KingRansom"), ("KingRansom", 147, "KingRansom$State", "goods", "[I", "KingRansom"), ("KingRansom", 154, "KingRansom$State", "rates", "[I", "KingRansom"), ("KingRansom", 142, "KingRansom$Past", "count", "I", "KingRansom"), ("KingRansom", 138, "KingRansom$Scales", "count", "I", "KingRansom"), ("KingRansom", 252, "KingRansom$Scales", "fits", "I", "KingRansom"), ("KingRansom", 141, "KingRansom$Book", "count", "I", "KingRansom"), ("KingRansom", 216, "KingRansom$Spreading", "best", "[I", "KingRansom"), ("KingRansom", 213, "KingRansom$Spreading", "leastHidden", "I", "KingRansom"), ("KingRansom", 98, "KingRansom$Image", "held", "Z", "KingRansom"), ("KingRansom", 277, "KingRansom$Image", "drawn", "I", "KingRansom"), ("KingRansom", 274, "KingRansom$Image", "state", "LKingRansom$State;", "KingRansom")]
def kr_nm : List (String × Nat × MethodName × String) := [("KingRansom", 9, ⟨"KingRansom$Text", "<init>", "()V"⟩, "KingRansom"), ("KingRansom", 18, ⟨"KingRansom$Tale", "<init>", "()V"⟩, "KingRansom"), ("KingRansom", 28, ⟨"KingRansom$State", "<init>", "()V"⟩, "KingRansom"), ("KingRansom", 38, ⟨"KingRansom$Past", "<init>", "()V"⟩, "KingRansom"), ("KingRansom$Past", 17, ⟨"KingRansom$State", "<init>", "()V"⟩, "KingRansom"), ("KingRansom", 51, ⟨"KingRansom$Scales", "<init>", "()V"⟩, "KingRansom"), ("KingRansom", 58, ⟨"KingRansom$Book", "<init>", "()V"⟩, "KingRansom"), ("KingRansom", 65, ⟨"KingRansom$Spreading", "<init>", "()V"⟩, "KingRansom"), ("KingRansom", 70, ⟨"KingRansom$Image", "<init>", "()V"⟩, "KingRansom"), ("KingRansom$Image", 9, ⟨"KingRansom$State", "<init>", "()V"⟩, "KingRansom"), ("KingRansom", 72, ⟨"KingRansom$Text", "add", "(I)Z"⟩, "KingRansom"), ("KingRansom", 81, ⟨"KingRansom$Text", "readInto", "(LKingRansom$Tale;)V"⟩, "KingRansom"), ("KingRansom$Text", 22, ⟨"KingRansom$Tale", "clear", "()V"⟩, "KingRansom"), ("KingRansom$Text", 87, ⟨"KingRansom$Tale", "addPayer", "(II)V"⟩, "KingRansom"), ("KingRansom$Text", 93, ⟨"KingRansom$Tale", "addBid", "(I)V"⟩, "KingRansom"), ("KingRansom$Text", 104, ⟨"KingRansom$Tale", "addHostage", "(I)V"⟩, "KingRansom"), ("KingRansom", 88, ⟨"KingRansom$State", "begin", "(LKingRansom$Tale;)V"⟩, "KingRansom"), ("KingRansom", 91, ⟨"KingRansom$Past", "forget", "()V"⟩, "KingRansom"), ("KingRansom", 94, ⟨"KingRansom$Scales", "clear", "()V"⟩, "KingRansom"), ("KingRansom", 97, ⟨"KingRansom$Book", "clear", "()V"⟩, "KingRansom"), ("KingRansom", 170, ⟨"KingRansom$Past", "push", "(LKingRansom$State;)V"⟩, "KingRansom"), ("KingRansom$Past", 22, ⟨"KingRansom$State", "become", "(LKingRansom$State;)V"⟩, "KingRansom"), ("KingRansom", 178, ⟨"KingRansom$State", "passMonth", "(LKingRansom$Tale;)V"⟩, "KingRansom"), ("KingRansom$State", 56, ⟨"KingRansom", "pays", "(III)I"⟩, "KingRansom"), ("KingRansom", 192, ⟨"KingRansom$State", "cost", "()I"⟩, "KingRansom"), ("KingRansom", 199, ⟨"KingRansom$Past", "pop", "(LKingRansom$State;)Z"⟩, "KingRansom"), ("KingRansom", 209, ⟨"KingRansom$Spreading", "find", "(LKingRansom$State;LKingRansom$Tale;I)Z"⟩, "KingRansom"), ("KingRansom$Spreading", 57, ⟨"KingRansom", "pays", "(III)I"⟩, "KingRansom"), ("KingRansom$Spreading", 60, ⟨"KingRansom", "tells", "(III)I"⟩, "KingRansom"), ("KingRansom", 243, ⟨"KingRansom$State", "become", "(LKingRansom$State;)V"⟩, "KingRansom"), ("KingRansom", 246, ⟨"KingRansom$Scales", "add", "(II)Z"⟩, "KingRansom"), ("KingRansom", 249, ⟨"KingRansom$Scales", "findShort", "(LKingRansom$Tale;)V"⟩, "KingRansom"), ("KingRansom", 255, ⟨"KingRansom$Scales", "nextSet", "(LKingRansom$Tale;)I"⟩, "KingRansom"), ("KingRansom", 259, ⟨"KingRansom$Scales", "fitAt", "(ILKingRansom$Tale;)I"⟩, "KingRansom"), ("KingRansom", 263, ⟨"KingRansom$Book", "add", "(II)Z"⟩, "KingRansom"), ("KingRansom", 264, ⟨"KingRansom$Book", "firstWrong", "(LKingRansom$State;)I"⟩, "KingRansom")]
abbrev krT (κ : Nat → ClassId) : List (ClassId × FieldType) := [(κ 0, .int), (κ 1, .boolean), (κ 2, .object RX1), (κ 3, .object RX5)]
def krK (D : va_G) (κ : Nat → ClassId) (U : State) : Prop := va_K D vwCl (krT κ) U ∧ (∀ x ∈ kr_nf, va_Nw (.fieldLinkNest x.1 x.2.1 x.2.2.1 x.2.2.2.1 x.2.2.2.2.1 x.2.2.2.2.2) U) ∧ (∀ x ∈ kr_nm, va_Nw (.methodLinkNest x.1 x.2.1 x.2.2.1 x.2.2.2) U) ∧ va_AO RX1 U ∧ va_AO RX5 U
theorem krK.same {D : va_G} {κ : Nat → ClassId} {u U : State} (h : u.vm = U.vm) (k : krK D κ u) : krK D κ U :=
  ⟨va_K.moved (by rw [h]; exact Vm.Alike.refl U.vm) k.1, fun x hx => va_Nw.same rfl h (k.2.1 x hx), fun x hx => va_Nw.same rfl h (k.2.2.1 x hx), va_AO.moved (by rw [h]; exact Vm.Alike.refl U.vm) k.2.2.2.1, va_AO.moved (by rw [h]; exact Vm.Alike.refl U.vm) k.2.2.2.2⟩
theorem krK.warm {D : va_G} {κ : Nat → ClassId} {s U : State} (hW : s.WarmedH U.vm) (k : krK D κ s) : krK D κ U :=
  ⟨va_K.moved hW.alike k.1, fun x hx => va_Nw.warmF hW (k.2.1 x hx), fun x hx => va_Nw.warmM hW (k.2.2.1 x hx), va_AO.moved hW.alike k.2.2.2.1, va_AO.moved hW.alike k.2.2.2.2⟩
theorem krK.fl {D : va_G} {κ : Nat → ClassId} {s : State} (k : krK D κ s) (i : Nat) {o r n d h : String} {x : Nat} {args : Array Value} (hi : kr_nf[i]? = some (o, x, r, n, d, h)) : (Cond.fieldLinkNest o x r n d h).before args s = true := va_Nw.use rfl (k.2.1 _ (List.mem_of_getElem? hi))
theorem krK.ml {D : va_G} {κ : Nat → ClassId} {s : State} (k : krK D κ s) (i : Nat) {o h : String} {y : MethodName} {x : Nat} (hi : kr_nm[i]? = some (o, x, y, h)) : va_Nw (.methodLinkNest o x y h) s := k.2.2.1 _ (List.mem_of_getElem? hi)
abbrev krP (D : va_G) (κ : Nat → ClassId) (sz : Nat) (as : List Value) (C : va_W) : Array Value → State → Prop := va_Pc as (fun U => U.heap.size = sz ∧ va_P D vwCl C U.heap ∧ krK D κ U ∧ va_D (fun _ => True) C)
/-- a method that answers an int, its cells C become C' -/
def krI (l : Launch) (y : MethodName) (ws : List Cond) (rm : Room) (D : va_G) (κ : Nat → ClassId) (as : List Value) (C C' : va_W) (r0 : Int32) : Prop :=
  ∀ sz : Nat, Met l y ws rm (krP D κ sz as C) (va_Qi (fun r (_ : Unit) => r = r0) (fun _ t => va_P D vwCl C' t.heap ∧ va_D (va_A C sz) C') (va_A C sz)) 0 0 (va_A C sz)
def krL (l : Launch) (y : MethodName) (ws : List Cond) (rm : Room) (D : va_G) (κ : Nat → ClassId) (as : List Value) (C C' : va_W) (r0 : Int64) : Prop :=
  ∀ sz : Nat, Met l y ws rm (krP D κ sz as C) (va_Ql (fun r (_ : Unit) => r = r0) (fun _ t => va_P D vwCl C' t.heap ∧ va_D (va_A C sz) C') (va_A C sz)) 0 0 (va_A C sz)
def krV (l : Launch) (y : MethodName) (ws : List Cond) (rm : Room) (D : va_G) (κ : Nat → ClassId) (as : List Value) (C C' : va_W) : Prop :=
  ∀ sz : Nat, Met l y ws rm (krP D κ sz as C) (va_Qv (fun (_ : Unit) => True) (fun _ t => va_P D vwCl C' t.heap ∧ va_D (va_A C sz) C') (va_A C sz)) 0 0 (va_A C sz)
/-- a maker: its new cells lie at u -/
def krN (l : Launch) (y : MethodName) (ws : List Cond) (rm : Room) (D : va_G) (κ : Nat → ClassId) (as : List Value) (C : va_W) (C' : (Nat → Nat) → va_W) (mc ms : Nat) : Prop :=
  ∀ sz : Nat, Met l y ws rm (krP D κ sz as C) (va_Qv (fun (_ : Nat → Nat) => True) (fun u t => va_P D vwCl (C' u) t.heap ∧ va_D (va_A C sz) (C' u)) (va_A C sz)) mc ms (va_A C sz)
section KRof
variable {l : Launch} {y : MethodName} {ws ws' : List Cond} {rm : Room} {D : va_G} {κ : Nat → ClassId} {as : List Value} {C C' : va_W} {cc : ByteArray} {maxL : Nat}
set_option maxHeartbeats 4000000 in
theorem krI_of {rt : FieldType} {r0 : Int32} (hy : plainName y.cls = true) (hw : ws = Cond.code y cc maxL (some rt) :: ws') (hln : (lg_sl as).length ≤ maxL)
    (body : ∀ (p : Program) (e : Env) (s : State) (m : MethodId) (args : Array Value) (below : List Frame) (meth : Method) (c : Code) (A : Nat → Prop) (Q : State → Prop) (ls : Array Slot), p.tables.exec = Jvm.exec → c.code = cc → c.maxLocals = maxL → s.vm.findClass y.cls = some m.cls → (∀ w ∈ ws, w.before args s = true) → krK D κ s → (∀ q, s.heap.size ≤ q → A q) →
      (∀ (H : Heap) (locs : List Loc) (pc : Nat) (ls : Array Slot), narrow rt (.int r0) = .int r0 → va_P D vwCl C' H → va_D A C' → va_S A s.heap H locs → decode cc pc = .ok (.ireturn, 1) → W p l e rm s m args below meth c H locs 0 0 Q (F0 m pc ls [.int r0])) →
      va_P D vwCl C s.heap → va_D A C → va_S A s.heap s.heap [] → lv_has ls maxL (lv_args 0 as) → W p l e rm s m args below meth c s.heap [] 0 0 Q (F0 m 0 ls [])) : krI l y ws rm D κ as C C' r0 := by
  intro sz
  refine Met.ofW (cc := cc) (maxL := maxL) (ret := some rt) hy hw ?_
  intro p e s m args below meth c s₁ B hml hv
  obtain ⟨rfl, hsz, hP, hK, hD0⟩ := hv
  have hlocks := B.notSynchronized
  subst hsz
  have hD := hD0.self (sz := s.heap.size)
  have hl := lv_entry as (n := maxL) hln
  rw [lg_entry_eq]
  exact body p e s m _ below meth c _ _ _ B.exec B.bytes hml (findClass_of_methodNamed B.named) (atoms_spec (ws := ws) B.pre) hK (fun q h => Or.inr h) (fun H locs pc ls hrt hP1 hD1 hS hd => W.zret B.exec B.bytes B.returns hrt (fun t ht hW => ⟨⟨r0, (), rfl, rfl, by rw [ht]; exact hP1, hD1⟩, hS.F ht⟩) hS.2.2 hd) hP hD va_S.rf hl
set_option maxHeartbeats 4000000 in
theorem krL_of {r0 : Int64} (hy : plainName y.cls = true) (hw : ws = Cond.code y cc maxL (some .long) :: ws') (hln : (lg_sl as).length ≤ maxL)
    (body : ∀ (p : Program) (e : Env) (s : State) (m : MethodId) (args : Array Value) (below : List Frame) (meth : Method) (c : Code) (A : Nat → Prop) (Q : State → Prop) (ls : Array Slot), p.tables.exec = Jvm.exec → c.code = cc → c.maxLocals = maxL → s.vm.findClass y.cls = some m.cls → (∀ w ∈ ws, w.before args s = true) → krK D κ s → (∀ q, s.heap.size ≤ q → A q) →
      (∀ (H : Heap) (locs : List Loc) (pc : Nat) (ls : Array Slot), va_P D vwCl C' H → va_D A C' → va_S A s.heap H locs → decode cc pc = .ok (.lreturn, 1) → W p l e rm s m args below meth c H locs 0 0 Q (F0 m pc ls [.long r0])) →
      va_P D vwCl C s.heap → va_D A C → va_S A s.heap s.heap [] → lv_has ls maxL (lv_args 0 as) → W p l e rm s m args below meth c s.heap [] 0 0 Q (F0 m 0 ls [])) : krL l y ws rm D κ as C C' r0 := by
  intro sz
  refine Met.ofW (cc := cc) (maxL := maxL) (ret := some .long) hy hw ?_
  intro p e s m args below meth c s₁ B hml hv
  obtain ⟨rfl, hsz, hP, hK, hD0⟩ := hv
  have hlocks := B.notSynchronized
  subst hsz
  have hD := hD0.self (sz := s.heap.size)
  have hl := lv_entry as (n := maxL) hln
  rw [lg_entry_eq]
  exact body p e s m _ below meth c _ _ _ B.exec B.bytes hml (findClass_of_methodNamed B.named) (atoms_spec (ws := ws) B.pre) hK (fun q h => Or.inr h) (fun H locs pc ls hP1 hD1 hS hd => W.lret B.exec B.bytes B.returns (fun t ht hW => ⟨⟨r0, (), rfl, rfl, by rw [ht]; exact hP1, hD1⟩, hS.F ht⟩) hS.2.2 hd) hP hD va_S.rf hl
set_option maxHeartbeats 4000000 in
theorem krV_of (hy : plainName y.cls = true) (hw : ws = Cond.code y cc maxL none :: ws') (hln : (lg_sl as).length ≤ maxL)
    (body : ∀ (p : Program) (e : Env) (s : State) (m : MethodId) (args : Array Value) (below : List Frame) (meth : Method) (c : Code) (A : Nat → Prop) (Q : State → Prop) (ls : Array Slot), p.tables.exec = Jvm.exec → c.code = cc → c.maxLocals = maxL → s.vm.findClass y.cls = some m.cls → (∀ w ∈ ws, w.before args s = true) → krK D κ s → (∀ q, s.heap.size ≤ q → A q) →
      (∀ (H : Heap) (locs : List Loc) (pc : Nat) (ls : Array Slot), va_P D vwCl C' H → va_D A C' → va_S A s.heap H locs → decode cc pc = .ok (.return_, 1) → W p l e rm s m args below meth c H locs 0 0 Q (F0 m pc ls [])) →
      va_P D vwCl C s.heap → va_D A C → va_S A s.heap s.heap [] → lv_has ls maxL (lv_args 0 as) → W p l e rm s m args below meth c s.heap [] 0 0 Q (F0 m 0 ls [])) : krV l y ws rm D κ as C C' := by
  intro sz
  refine Met.ofW (cc := cc) (maxL := maxL) (ret := none) hy hw ?_
  intro p e s m args below meth c s₁ B hml hv
  obtain ⟨rfl, hsz, hP, hK, hD0⟩ := hv
  have hlocks := B.notSynchronized
  subst hsz
  have hD := hD0.self (sz := s.heap.size)
  have hl := lv_entry as (n := maxL) hln
  rw [lg_entry_eq]
  exact body p e s m _ below meth c _ _ _ B.exec B.bytes hml (findClass_of_methodNamed B.named) (atoms_spec (ws := ws) B.pre) hK (fun q h => Or.inr h) (fun H locs pc ls hP1 hD1 hS hd => W.vret B.exec B.bytes B.returns (fun t ht hW => ⟨⟨(), rfl, trivial, by rw [ht]; exact hP1, hD1⟩, hS.F ht⟩) hS.2.2 hd) hP hD va_S.rf hl
set_option maxHeartbeats 4000000 in
theorem krN_of {C'' : (Nat → Nat) → va_W} {mc ms : Nat} (hy : plainName y.cls = true) (hw : ws = Cond.code y cc maxL none :: ws') (hln : (lg_sl as).length ≤ maxL)
    (body : ∀ (p : Program) (e : Env) (s : State) (m : MethodId) (args : Array Value) (below : List Frame) (meth : Method) (c : Code) (A : Nat → Prop) (Q : State → Prop) (ls : Array Slot), p.tables.exec = Jvm.exec → c.code = cc → c.maxLocals = maxL → s.vm.findClass y.cls = some m.cls → (∀ w ∈ ws, w.before args s = true) → krK D κ s → (∀ q, s.heap.size ≤ q → A q) → meth.name = y.name →
      (∀ (u : Nat → Nat) (H : Heap) (locs : List Loc) (pc : Nat) (ls : Array Slot), va_P D vwCl (C'' u) H → va_D A (C'' u) → va_S A s.heap H locs → decode cc pc = .ok (.return_, 1) → W p l e rm s m args below meth c H locs mc ms Q (F0 m pc ls [])) →
      va_P D vwCl C s.heap → va_D A C → va_S A s.heap s.heap [] → lv_has ls maxL (lv_args 0 as) → W p l e rm s m args below meth c s.heap [] 0 0 Q (F0 m 0 ls [])) : krN l y ws rm D κ as C C'' mc ms := by
  intro sz
  refine Met.ofW (cc := cc) (maxL := maxL) (ret := none) hy hw ?_
  intro p e s m args below meth c s₁ B hml hv
  obtain ⟨rfl, hsz, hP, hK, hD0⟩ := hv
  have hlocks := B.notSynchronized
  subst hsz
  have hD := hD0.self (sz := s.heap.size)
  have hl := lv_entry as (n := maxL) hln
  rw [lg_entry_eq]
  exact body p e s m _ below meth c _ _ _ B.exec B.bytes hml (findClass_of_methodNamed B.named) (atoms_spec (ws := ws) B.pre) hK (fun q h => Or.inr h) (name_of_methodNamed B.named B.method).1 (fun u H locs pc ls hP1 hD1 hS hd => W.vret B.exec B.bytes B.returns (fun t ht hW => ⟨⟨u, rfl, trivial, by rw [ht]; exact hP1, hD1⟩, hS.F ht⟩) hS.2.2 hd) hP hD va_S.rf hl
end KRof
/-! ===== calls ===== -/
theorem kr_fm {α β : Type} {f : α → Option β} : ∀ {is : List α} {w : List β}, is.map f = w.map some → is.filterMap f = w
  | [], [], _ => rfl
  | [], _ :: _, h => by simp at h
  | _ :: _, [], h => by simp at h
  | i :: is, x :: w, h => by
    rw [List.map_cons, List.map_cons] at h
    obtain ⟨h1, h2⟩ := List.cons.inj h
    rw [List.filterMap_cons, h1, kr_fm h2]
section KRcall
variable {p : Program} {l : Launch} {e : Env} {R : Room} {s : State} {m : MethodId} {args : Array Value} {below : List Frame} {meth : Method} {c : Code} {H H0 : Heap} {locs : List Loc} {cells slots : Nat} {Q : State → Prop}
  {y : MethodName} {bytes cc : ByteArray} {maxL nL mc ms n index pc : Nat} {ret : Option FieldType} {ws : List Cond} {rm : Room} {Ts : List Cond} {own host Cn : String} {b : Addr} {As rest st0 as : List Value} {ls : Array Slot} {D : va_G} {κ : Nat → ClassId} {C C' Wd wr : va_W} {A0 : Nat → Prop} {a : Array Value}
theorem kr_blind {sz : Nat} : FrameBlind (krP D κ sz as C) := fun _ _ _ _ q => ⟨q.1, q.2.1, q.2.2.1, q.2.2.2.1.same rfl, q.2.2.2.2⟩
theorem kr_preS {isC : List Nat} (hK : krK D κ s) (hP : va_P D vwCl Wd H) (hD : va_D A0 Wd) (hC : isC.map (fun i => Wd[i]?) = C.map some) (hnC : va_nd isC = true) : PreS s H (krP D κ H.size As C) As :=
  ⟨kr_blind, fun U hU hW => ⟨rfl, by rw [hU], by rw [hU]; exact hP.sub isC (kr_fm hC), hK.warm hW, (hD.sub isC hnC hC).weaken (fun _ _ _ _ => trivial)⟩⟩
theorem kr_preV {isC : List Nat} {ci : Nat} {fs : List Value} {q : vw_C} (hK : krK D κ s) (hP : va_P D vwCl Wd H) (hD : va_D A0 Wd) (hC : isC.map (fun i => Wd[i]?) = C.map some) (hnC : va_nd isC = true) (he : C[0]? = some (b, .inr (ci, fs))) (hci : vwCl[ci]? = some q) (hq : q.1 = Cn) : PreV s H Cn b (krP D κ H.size (.ref b :: As) C) As :=
  ⟨kr_blind, by rw [← hq]; exact va_recv hK.1 (hP.sub isC (kr_fm hC)) hci he, (kr_preS (As := .ref b :: As) hK hP hD hC hnC).2⟩
theorem krI_after {r0 : Int32} (hr : va_Run p l e R s m args below meth c H locs cells slots 0 0 (F0 m pc ls st0) rest (va_Qi (fun r (_ : Unit) => r = r0) (fun _ t => va_P D vwCl C' t.heap ∧ va_D (va_A C H.size) C') (va_A C H.size) a) (va_A C H.size)) (hP : va_P D vwCl Wd H) (hD : va_D A0 Wd) (hS : va_S A0 H0 H locs) (hA : ∀ q, H0.size ≤ q → A0 q) (isC isR : List Nat) (hC : isC.map (fun i => Wd[i]?) = C.map some) (hR : isR.map (fun i => Wd[i]?) = wr.map some) (hnR : va_nd isR = true) (hdis : ∀ i ∈ isR, i ∉ isC)
    (kk : ∀ (H : Heap) (locs : List Loc), va_P D vwCl (wr ++ C') H → va_D A0 (wr ++ C') → va_S A0 H0 H locs → W p l e R s m args below meth c H locs cells slots Q (F0 m (pc + 3) ls (.int r0 :: rest))) : W p l e R s m args below meth c H locs cells slots Q (F0 m pc ls st0) := by
  have hFc := va_free (wc := C) hD hS hA isC hC
  refine va_calli hr hS (fun q _ h => hFc q h) hFc (fun r u t H1 locs1 ht hvm hw hB hz hk hS1 => ?_)
  obtain ⟨hP1, hD1⟩ := hB
  rw [ht] at hP1
  obtain ⟨hP2, hD2⟩ := va_join hP hD isC isR hC hR hnR hdis hk hFc hP1 hD1
  subst hw
  exact kk H1 locs1 hP2 hD2 hS1
theorem krL_after {r0 : Int64} (hr : va_Run p l e R s m args below meth c H locs cells slots 0 0 (F0 m pc ls st0) rest (va_Ql (fun r (_ : Unit) => r = r0) (fun _ t => va_P D vwCl C' t.heap ∧ va_D (va_A C H.size) C') (va_A C H.size) a) (va_A C H.size)) (hP : va_P D vwCl Wd H) (hD : va_D A0 Wd) (hS : va_S A0 H0 H locs) (hA : ∀ q, H0.size ≤ q → A0 q) (isC isR : List Nat) (hC : isC.map (fun i => Wd[i]?) = C.map some) (hR : isR.map (fun i => Wd[i]?) = wr.map some) (hnR : va_nd isR = true) (hdis : ∀ i ∈ isR, i ∉ isC)
    (kk : ∀ (H : Heap) (locs : List Loc), va_P D vwCl (wr ++ C') H → va_D A0 (wr ++ C') → va_S A0 H0 H locs → W p l e R s m args below meth c H locs cells slots Q (F0 m (pc + 3) ls (.long r0 :: rest))) : W p l e R s m args below meth c H locs cells slots Q (F0 m pc ls st0) := by
  have hFc := va_free (wc := C) hD hS hA isC hC
  refine va_calll hr hS (fun q _ h => hFc q h) hFc (fun r u t H1 locs1 ht hvm hw hB hz hk hS1 => ?_)
  obtain ⟨hP1, hD1⟩ := hB
  rw [ht] at hP1
  obtain ⟨hP2, hD2⟩ := va_join hP hD isC isR hC hR hnR hdis hk hFc hP1 hD1
  subst hw
  exact kk H1 locs1 hP2 hD2 hS1
theorem krV_after (hr : va_Run p l e R s m args below meth c H locs cells slots 0 0 (F0 m pc ls st0) rest (va_Qv (fun (_ : Unit) => True) (fun _ t => va_P D vwCl C' t.heap ∧ va_D (va_A C H.size) C') (va_A C H.size) a) (va_A C H.size)) (hP : va_P D vwCl Wd H) (hD : va_D A0 Wd) (hS : va_S A0 H0 H locs) (hA : ∀ q, H0.size ≤ q → A0 q) (isC isR : List Nat) (hC : isC.map (fun i => Wd[i]?) = C.map some) (hR : isR.map (fun i => Wd[i]?) = wr.map some) (hnR : va_nd isR = true) (hdis : ∀ i ∈ isR, i ∉ isC)
    (kk : ∀ (H : Heap) (locs : List Loc), va_P D vwCl (wr ++ C') H → va_D A0 (wr ++ C') → va_S A0 H0 H locs → W p l e R s m args below meth c H locs cells slots Q (F0 m (pc + 3) ls rest)) : W p l e R s m args below meth c H locs cells slots Q (F0 m pc ls st0) := by
  have hFc := va_free (wc := C) hD hS hA isC hC
  refine va_callv hr hS (fun q _ h => hFc q h) hFc (fun u t H1 locs1 ht hvm hw hB hz hk hS1 => ?_)
  obtain ⟨hP1, hD1⟩ := hB
  rw [ht] at hP1
  obtain ⟨hP2, hD2⟩ := va_join hP hD isC isR hC hR hnR hdis hk hFc hP1 hD1
  exact kk H1 locs1 hP2 hD2 hS1
theorem krN_after {C'' : (Nat → Nat) → va_W} (hr : va_Run p l e R s m args below meth c H locs cells slots mc ms (F0 m pc ls st0) rest (va_Qv (fun (_ : Nat → Nat) => True) (fun u t => va_P D vwCl (C'' u) t.heap ∧ va_D (va_A C H.size) (C'' u)) (va_A C H.size) a) (va_A C H.size)) (hP : va_P D vwCl Wd H) (hD : va_D A0 Wd) (hS : va_S A0 H0 H locs) (hA : ∀ q, H0.size ≤ q → A0 q) (isC isR : List Nat) (hC : isC.map (fun i => Wd[i]?) = C.map some) (hR : isR.map (fun i => Wd[i]?) = wr.map some) (hnR : va_nd isR = true) (hdis : ∀ i ∈ isR, i ∉ isC)
    (kk : ∀ (u : Nat → Nat) (H : Heap) (locs : List Loc), va_P D vwCl (wr ++ C'' u) H → va_D A0 (wr ++ C'' u) → va_S A0 H0 H locs → W p l e R s m args below meth c H locs (cells + mc) (slots + ms) Q (F0 m (pc + 3) ls rest)) : W p l e R s m args below meth c H locs cells slots Q (F0 m pc ls st0) := by
  have hFc := va_free (wc := C) hD hS hA isC hC
  refine va_callv hr hS (fun q _ h => hFc q h) hFc (fun u t H1 locs1 ht hvm hw hB hz hk hS1 => ?_)
  obtain ⟨hP1, hD1⟩ := hB
  rw [ht] at hP1
  obtain ⟨hP2, hD2⟩ := va_join hP hD isC isR hC hR hnR hdis hk hFc hP1 hD1
  exact kk u H1 locs1 hP2 hD2 hS1
/-- a call of a method that needs no cell -/
theorem krI_after0 {r0 : Int32} (hr : va_Run p l e R s m args below meth c H locs cells slots 0 0 (F0 m pc ls st0) rest (va_Qi (fun r (_ : Unit) => r = r0) (fun _ t => va_P D vwCl [] t.heap ∧ va_D (va_A [] H.size) []) (va_A [] H.size) a) (va_A [] H.size)) (hP : va_P D vwCl Wd H) (hD : va_D A0 Wd) (hS : va_S A0 H0 H locs) (hA : ∀ q, H0.size ≤ q → A0 q)
    (kk : ∀ (H : Heap) (locs : List Loc), va_P D vwCl Wd H → va_D A0 Wd → va_S A0 H0 H locs → W p l e R s m args below meth c H locs cells slots Q (F0 m (pc + 3) ls (.int r0 :: rest))) : W p l e R s m args below meth c H locs cells slots Q (F0 m pc ls st0) := by
  have hF : ∀ q, va_A [] H.size q → A0 q := fun q h => by
    rcases h with ⟨k, e, h⟩ | h
    · simp at h
    · exact hA q (Nat.le_trans hS.1 h)
  refine va_calli hr hS (fun q _ h => hF q h) hF (fun r u t H1 locs1 ht hvm hw hB hz hk hS1 => ?_)
  subst hw
  refine kk H1 locs1 (hP.kept (fun k q hq => hk q.1 (hP k q hq).lt (fun z => ?_))) hD hS1
  rcases z with ⟨k2, e, h⟩ | h
  · simp at h
  · exact absurd h (Nat.not_le.mpr (hP k q hq).lt)
theorem krL_after0 {r0 : Int64} (hr : va_Run p l e R s m args below meth c H locs cells slots 0 0 (F0 m pc ls st0) rest (va_Ql (fun r (_ : Unit) => r = r0) (fun _ t => va_P D vwCl [] t.heap ∧ va_D (va_A [] H.size) []) (va_A [] H.size) a) (va_A [] H.size)) (hP : va_P D vwCl Wd H) (hD : va_D A0 Wd) (hS : va_S A0 H0 H locs) (hA : ∀ q, H0.size ≤ q → A0 q)
    (kk : ∀ (H : Heap) (locs : List Loc), va_P D vwCl Wd H → va_D A0 Wd → va_S A0 H0 H locs → W p l e R s m args below meth c H locs cells slots Q (F0 m (pc + 3) ls (.long r0 :: rest))) : W p l e R s m args below meth c H locs cells slots Q (F0 m pc ls st0) := by
  have hF : ∀ q, va_A [] H.size q → A0 q := fun q h => by
    rcases h with ⟨k, e, h⟩ | h
    · simp at h
    · exact hA q (Nat.le_trans hS.1 h)
  refine va_calll hr hS (fun q _ h => hF q h) hF (fun r u t H1 locs1 ht hvm hw hB hz hk hS1 => ?_)
  subst hw
  refine kk H1 locs1 (hP.kept (fun k q hq => hk q.1 (hP k q hq).lt (fun z => ?_))) hD hS1
  rcases z with ⟨k2, e, h⟩ | h
  · simp at h
  · exact absurd h (Nat.not_le.mpr (hP k q hq).lt)
theorem krI_V {r0 : Int32} (F : CallFix p m c cc nL s args Ts own) (hK : krK D κ s) (hM : krI l y ws rm D κ (.ref b :: As) C C' r0) (cw : CallW R s args own Cn index y bytes maxL ret ws rm 0 0 n) {ci : Nat} {fs : List Value} {q : vw_C} (he : C[0]? = some (b, .inr (ci, fs))) (hci : vwCl[ci]? = some q) (hq : q.1 = Cn) (hP : va_P D vwCl Wd H) (hD : va_D A0 Wd) (hS : va_S A0 H0 H locs) (hA : ∀ q, H0.size ≤ q → A0 q) (isC isR : List Nat) (hC : isC.map (fun i => Wd[i]?) = C.map some) (hR : isR.map (fun i => Wd[i]?) = wr.map some) (hnC : va_nd isC = true) (hnR : va_nd isR = true) (hdis : ∀ i ∈ isR, i ∉ isC) (hn : As.length = n) (hls : ls.size = nL) (hst : st0 = As.reverse ++ .ref b :: rest) (hroom : (rest.map fun v => v.category).sum ≤ 8) (hdg : decode cc pc = .ok (.invokevirtual index, 3)) (hcs : cells ≤ R.cells ∧ slots ≤ R.slots)
    (kk : ∀ (H : Heap) (locs : List Loc), va_P D vwCl (wr ++ C') H → va_D A0 (wr ++ C') → va_S A0 H0 H locs → W p l e R s m args below meth c H locs cells slots Q (F0 m (pc + 3) ls (.int r0 :: rest))) : W p l e R s m args below meth c H locs cells slots Q (F0 m pc ls st0) :=
  krI_after (va_runV F (hM H.size) cw (kr_preV hK hP hD hC hnC he hci hq) rfl hn hls hst (lv_room hroom) hdg hcs) hP hD hS hA isC isR hC hR hnR hdis kk
theorem krI_VN {r0 : Int32} (F : CallFix p m c cc nL s args Ts own) (hK : krK D κ s) (hM : krI l y ws rm D κ (.ref b :: As) C C' r0) (cw : va_CN R s args own index y host bytes maxL ret ws rm 0 0 n ∧ (Cond.instanceMethod y).before args s = true ∧ (Cond.selects Cn y y).before args s = true) {ci : Nat} {fs : List Value} {q : vw_C} (he : C[0]? = some (b, .inr (ci, fs))) (hci : vwCl[ci]? = some q) (hq : q.1 = Cn) (hP : va_P D vwCl Wd H) (hD : va_D A0 Wd) (hS : va_S A0 H0 H locs) (hA : ∀ q, H0.size ≤ q → A0 q) (isC isR : List Nat) (hC : isC.map (fun i => Wd[i]?) = C.map some) (hR : isR.map (fun i => Wd[i]?) = wr.map some) (hnC : va_nd isC = true) (hnR : va_nd isR = true) (hdis : ∀ i ∈ isR, i ∉ isC) (hn : As.length = n) (hls : ls.size = nL) (hst : st0 = As.reverse ++ .ref b :: rest) (hroom : (rest.map fun v => v.category).sum ≤ 8) (hdg : decode cc pc = .ok (.invokevirtual index, 3)) (hcs : cells ≤ R.cells ∧ slots ≤ R.slots)
    (kk : ∀ (H : Heap) (locs : List Loc), va_P D vwCl (wr ++ C') H → va_D A0 (wr ++ C') → va_S A0 H0 H locs → W p l e R s m args below meth c H locs cells slots Q (F0 m (pc + 3) ls (.int r0 :: rest))) : W p l e R s m args below meth c H locs cells slots Q (F0 m pc ls st0) :=
  krI_after (va_runVN F (hM H.size) cw (kr_preV hK hP hD hC hnC he hci hq) rfl hn hls hst (lv_room hroom) hdg hcs) hP hD hS hA isC isR hC hR hnR hdis kk
theorem krV_V (F : CallFix p m c cc nL s args Ts own) (hK : krK D κ s) (hM : krV l y ws rm D κ (.ref b :: As) C C') (cw : CallW R s args own Cn index y bytes maxL ret ws rm 0 0 n) {ci : Nat} {fs : List Value} {q : vw_C} (he : C[0]? = some (b, .inr (ci, fs))) (hci : vwCl[ci]? = some q) (hq : q.1 = Cn) (hP : va_P D vwCl Wd H) (hD : va_D A0 Wd) (hS : va_S A0 H0 H locs) (hA : ∀ q, H0.size ≤ q → A0 q) (isC isR : List Nat) (hC : isC.map (fun i => Wd[i]?) = C.map some) (hR : isR.map (fun i => Wd[i]?) = wr.map some) (hnC : va_nd isC = true) (hnR : va_nd isR = true) (hdis : ∀ i ∈ isR, i ∉ isC) (hn : As.length = n) (hls : ls.size = nL) (hst : st0 = As.reverse ++ .ref b :: rest) (hroom : (rest.map fun v => v.category).sum ≤ 8) (hdg : decode cc pc = .ok (.invokevirtual index, 3)) (hcs : cells ≤ R.cells ∧ slots ≤ R.slots)
    (kk : ∀ (H : Heap) (locs : List Loc), va_P D vwCl (wr ++ C') H → va_D A0 (wr ++ C') → va_S A0 H0 H locs → W p l e R s m args below meth c H locs cells slots Q (F0 m (pc + 3) ls rest)) : W p l e R s m args below meth c H locs cells slots Q (F0 m pc ls st0) :=
  krV_after (va_runV F (hM H.size) cw (kr_preV hK hP hD hC hnC he hci hq) rfl hn hls hst (lv_room hroom) hdg hcs) hP hD hS hA isC isR hC hR hnR hdis kk
theorem krV_VN (F : CallFix p m c cc nL s args Ts own) (hK : krK D κ s) (hM : krV l y ws rm D κ (.ref b :: As) C C') (cw : va_CN R s args own index y host bytes maxL ret ws rm 0 0 n ∧ (Cond.instanceMethod y).before args s = true ∧ (Cond.selects Cn y y).before args s = true) {ci : Nat} {fs : List Value} {q : vw_C} (he : C[0]? = some (b, .inr (ci, fs))) (hci : vwCl[ci]? = some q) (hq : q.1 = Cn) (hP : va_P D vwCl Wd H) (hD : va_D A0 Wd) (hS : va_S A0 H0 H locs) (hA : ∀ q, H0.size ≤ q → A0 q) (isC isR : List Nat) (hC : isC.map (fun i => Wd[i]?) = C.map some) (hR : isR.map (fun i => Wd[i]?) = wr.map some) (hnC : va_nd isC = true) (hnR : va_nd isR = true) (hdis : ∀ i ∈ isR, i ∉ isC) (hn : As.length = n) (hls : ls.size = nL) (hst : st0 = As.reverse ++ .ref b :: rest) (hroom : (rest.map fun v => v.category).sum ≤ 8) (hdg : decode cc pc = .ok (.invokevirtual index, 3)) (hcs : cells ≤ R.cells ∧ slots ≤ R.slots)
    (kk : ∀ (H : Heap) (locs : List Loc), va_P D vwCl (wr ++ C') H → va_D A0 (wr ++ C') → va_S A0 H0 H locs → W p l e R s m args below meth c H locs cells slots Q (F0 m (pc + 3) ls rest)) : W p l e R s m args below meth c H locs cells slots Q (F0 m pc ls st0) :=
  krV_after (va_runVN F (hM H.size) cw (kr_preV hK hP hD hC hnC he hci hq) rfl hn hls hst (lv_room hroom) hdg hcs) hP hD hS hA isC isR hC hR hnR hdis kk
theorem krI_S {r0 : Int32} (F : CallFix p m c cc nL s args Ts own) (hK : krK D κ s) (hM : krI l y ws rm D κ As C C' r0) (cw : CallB R s args own index y bytes maxL ret ws rm 0 0 n ∧ (Cond.static y).before args s = true) (hP : va_P D vwCl Wd H) (hD : va_D A0 Wd) (hS : va_S A0 H0 H locs) (hA : ∀ q, H0.size ≤ q → A0 q) (isC isR : List Nat) (hC : isC.map (fun i => Wd[i]?) = C.map some) (hR : isR.map (fun i => Wd[i]?) = wr.map some) (hnC : va_nd isC = true) (hnR : va_nd isR = true) (hdis : ∀ i ∈ isR, i ∉ isC) (hn : As.length = n) (hls : ls.size = nL) (hst : st0 = As.reverse ++ rest) (hroom : (rest.map fun v => v.category).sum ≤ 8) (hdg : decode cc pc = .ok (.invokestatic index, 3)) (hcs : cells ≤ R.cells ∧ slots ≤ R.slots)
    (kk : ∀ (H : Heap) (locs : List Loc), va_P D vwCl (wr ++ C') H → va_D A0 (wr ++ C') → va_S A0 H0 H locs → W p l e R s m args below meth c H locs cells slots Q (F0 m (pc + 3) ls (.int r0 :: rest))) : W p l e R s m args below meth c H locs cells slots Q (F0 m pc ls st0) :=
  krI_after (va_runS F (hM H.size) cw (kr_preS hK hP hD hC hnC) rfl hn hls hst (lv_room hroom) hdg hcs) hP hD hS hA isC isR hC hR hnR hdis kk
theorem krI_S0 {r0 : Int32} (F : CallFix p m c cc nL s args Ts own) (hK : krK D κ s) (hM : krI l y ws rm D κ As [] [] r0) (cw : CallB R s args own index y bytes maxL ret ws rm 0 0 n ∧ (Cond.static y).before args s = true) (hP : va_P D vwCl Wd H) (hD : va_D A0 Wd) (hS : va_S A0 H0 H locs) (hA : ∀ q, H0.size ≤ q → A0 q) (hn : As.length = n) (hls : ls.size = nL) (hst : st0 = As.reverse ++ rest) (hroom : (rest.map fun v => v.category).sum ≤ 8) (hdg : decode cc pc = .ok (.invokestatic index, 3)) (hcs : cells ≤ R.cells ∧ slots ≤ R.slots)
    (kk : ∀ (H : Heap) (locs : List Loc), va_P D vwCl Wd H → va_D A0 Wd → va_S A0 H0 H locs → W p l e R s m args below meth c H locs cells slots Q (F0 m (pc + 3) ls (.int r0 :: rest))) : W p l e R s m args below meth c H locs cells slots Q (F0 m pc ls st0) :=
  krI_after0 (va_runS F (hM H.size) cw (kr_preS (isC := []) hK hP hD rfl rfl) rfl hn hls hst (lv_room hroom) hdg hcs) hP hD hS hA kk
theorem krI_SN {r0 : Int32} (F : CallFix p m c cc nL s args Ts own) (hK : krK D κ s) (hM : krI l y ws rm D κ As C C' r0) (cw : va_CN R s args own index y host bytes maxL ret ws rm 0 0 n ∧ (Cond.static y).before args s = true ∧ True) (hP : va_P D vwCl Wd H) (hD : va_D A0 Wd) (hS : va_S A0 H0 H locs) (hA : ∀ q, H0.size ≤ q → A0 q) (isC isR : List Nat) (hC : isC.map (fun i => Wd[i]?) = C.map some) (hR : isR.map (fun i => Wd[i]?) = wr.map some) (hnC : va_nd isC = true) (hnR : va_nd isR = true) (hdis : ∀ i ∈ isR, i ∉ isC) (hn : As.length = n) (hls : ls.size = nL) (hst : st0 = As.reverse ++ rest) (hroom : (rest.map fun v => v.category).sum ≤ 8) (hdg : decode cc pc = .ok (.invokestatic index, 3)) (hcs : cells ≤ R.cells ∧ slots ≤ R.slots)
    (kk : ∀ (H : Heap) (locs : List Loc), va_P D vwCl (wr ++ C') H → va_D A0 (wr ++ C') → va_S A0 H0 H locs → W p l e R s m args below meth c H locs cells slots Q (F0 m (pc + 3) ls (.int r0 :: rest))) : W p l e R s m args below meth c H locs cells slots Q (F0 m pc ls st0) :=
  krI_after (va_runSN F (hM H.size) cw (kr_preS hK hP hD hC hnC) rfl hn hls hst (lv_room hroom) hdg hcs) hP hD hS hA isC isR hC hR hnR hdis kk
theorem krI_SN0 {r0 : Int32} (F : CallFix p m c cc nL s args Ts own) (hK : krK D κ s) (hM : krI l y ws rm D κ As [] [] r0) (cw : va_CN R s args own index y host bytes maxL ret ws rm 0 0 n ∧ (Cond.static y).before args s = true ∧ True) (hP : va_P D vwCl Wd H) (hD : va_D A0 Wd) (hS : va_S A0 H0 H locs) (hA : ∀ q, H0.size ≤ q → A0 q) (hn : As.length = n) (hls : ls.size = nL) (hst : st0 = As.reverse ++ rest) (hroom : (rest.map fun v => v.category).sum ≤ 8) (hdg : decode cc pc = .ok (.invokestatic index, 3)) (hcs : cells ≤ R.cells ∧ slots ≤ R.slots)
    (kk : ∀ (H : Heap) (locs : List Loc), va_P D vwCl Wd H → va_D A0 Wd → va_S A0 H0 H locs → W p l e R s m args below meth c H locs cells slots Q (F0 m (pc + 3) ls (.int r0 :: rest))) : W p l e R s m args below meth c H locs cells slots Q (F0 m pc ls st0) :=
  krI_after0 (va_runSN F (hM H.size) cw (kr_preS (isC := []) hK hP hD rfl rfl) rfl hn hls hst (lv_room hroom) hdg hcs) hP hD hS hA kk
theorem krL_S {r0 : Int64} (F : CallFix p m c cc nL s args Ts own) (hK : krK D κ s) (hM : krL l y ws rm D κ As C C' r0) (cw : CallB R s args own index y bytes maxL ret ws rm 0 0 n ∧ (Cond.static y).before args s = true) (hP : va_P D vwCl Wd H) (hD : va_D A0 Wd) (hS : va_S A0 H0 H locs) (hA : ∀ q, H0.size ≤ q → A0 q) (isC isR : List Nat) (hC : isC.map (fun i => Wd[i]?) = C.map some) (hR : isR.map (fun i => Wd[i]?) = wr.map some) (hnC : va_nd isC = true) (hnR : va_nd isR = true) (hdis : ∀ i ∈ isR, i ∉ isC) (hn : As.length = n) (hls : ls.size = nL) (hst : st0 = As.reverse ++ rest) (hroom : (rest.map fun v => v.category).sum ≤ 8) (hdg : decode cc pc = .ok (.invokestatic index, 3)) (hcs : cells ≤ R.cells ∧ slots ≤ R.slots)
    (kk : ∀ (H : Heap) (locs : List Loc), va_P D vwCl (wr ++ C') H → va_D A0 (wr ++ C') → va_S A0 H0 H locs → W p l e R s m args below meth c H locs cells slots Q (F0 m (pc + 3) ls (.long r0 :: rest))) : W p l e R s m args below meth c H locs cells slots Q (F0 m pc ls st0) :=
  krL_after (va_runS F (hM H.size) cw (kr_preS hK hP hD hC hnC) rfl hn hls hst (lv_room hroom) hdg hcs) hP hD hS hA isC isR hC hR hnR hdis kk
theorem krL_S0 {r0 : Int64} (F : CallFix p m c cc nL s args Ts own) (hK : krK D κ s) (hM : krL l y ws rm D κ As [] [] r0) (cw : CallB R s args own index y bytes maxL ret ws rm 0 0 n ∧ (Cond.static y).before args s = true) (hP : va_P D vwCl Wd H) (hD : va_D A0 Wd) (hS : va_S A0 H0 H locs) (hA : ∀ q, H0.size ≤ q → A0 q) (hn : As.length = n) (hls : ls.size = nL) (hst : st0 = As.reverse ++ rest) (hroom : (rest.map fun v => v.category).sum ≤ 8) (hdg : decode cc pc = .ok (.invokestatic index, 3)) (hcs : cells ≤ R.cells ∧ slots ≤ R.slots)
    (kk : ∀ (H : Heap) (locs : List Loc), va_P D vwCl Wd H → va_D A0 Wd → va_S A0 H0 H locs → W p l e R s m args below meth c H locs cells slots Q (F0 m (pc + 3) ls (.long r0 :: rest))) : W p l e R s m args below meth c H locs cells slots Q (F0 m pc ls st0) :=
  krL_after0 (va_runS F (hM H.size) cw (kr_preS (isC := []) hK hP hD rfl rfl) rfl hn hls hst (lv_room hroom) hdg hcs) hP hD hS hA kk
theorem krL_SN {r0 : Int64} (F : CallFix p m c cc nL s args Ts own) (hK : krK D κ s) (hM : krL l y ws rm D κ As C C' r0) (cw : va_CN R s args own index y host bytes maxL ret ws rm 0 0 n ∧ (Cond.static y).before args s = true ∧ True) (hP : va_P D vwCl Wd H) (hD : va_D A0 Wd) (hS : va_S A0 H0 H locs) (hA : ∀ q, H0.size ≤ q → A0 q) (isC isR : List Nat) (hC : isC.map (fun i => Wd[i]?) = C.map some) (hR : isR.map (fun i => Wd[i]?) = wr.map some) (hnC : va_nd isC = true) (hnR : va_nd isR = true) (hdis : ∀ i ∈ isR, i ∉ isC) (hn : As.length = n) (hls : ls.size = nL) (hst : st0 = As.reverse ++ rest) (hroom : (rest.map fun v => v.category).sum ≤ 8) (hdg : decode cc pc = .ok (.invokestatic index, 3)) (hcs : cells ≤ R.cells ∧ slots ≤ R.slots)
    (kk : ∀ (H : Heap) (locs : List Loc), va_P D vwCl (wr ++ C') H → va_D A0 (wr ++ C') → va_S A0 H0 H locs → W p l e R s m args below meth c H locs cells slots Q (F0 m (pc + 3) ls (.long r0 :: rest))) : W p l e R s m args below meth c H locs cells slots Q (F0 m pc ls st0) :=
  krL_after (va_runSN F (hM H.size) cw (kr_preS hK hP hD hC hnC) rfl hn hls hst (lv_room hroom) hdg hcs) hP hD hS hA isC isR hC hR hnR hdis kk
theorem krL_SN0 {r0 : Int64} (F : CallFix p m c cc nL s args Ts own) (hK : krK D κ s) (hM : krL l y ws rm D κ As [] [] r0) (cw : va_CN R s args own index y host bytes maxL ret ws rm 0 0 n ∧ (Cond.static y).before args s = true ∧ True) (hP : va_P D vwCl Wd H) (hD : va_D A0 Wd) (hS : va_S A0 H0 H locs) (hA : ∀ q, H0.size ≤ q → A0 q) (hn : As.length = n) (hls : ls.size = nL) (hst : st0 = As.reverse ++ rest) (hroom : (rest.map fun v => v.category).sum ≤ 8) (hdg : decode cc pc = .ok (.invokestatic index, 3)) (hcs : cells ≤ R.cells ∧ slots ≤ R.slots)
    (kk : ∀ (H : Heap) (locs : List Loc), va_P D vwCl Wd H → va_D A0 Wd → va_S A0 H0 H locs → W p l e R s m args below meth c H locs cells slots Q (F0 m (pc + 3) ls (.long r0 :: rest))) : W p l e R s m args below meth c H locs cells slots Q (F0 m pc ls st0) :=
  krL_after0 (va_runSN F (hM H.size) cw (kr_preS (isC := []) hK hP hD rfl rfl) rfl hn hls hst (lv_room hroom) hdg hcs) hP hD hS hA kk
theorem krN_I {C'' : (Nat → Nat) → va_W} (F : CallFix p m c cc nL s args Ts own) (hK : krK D κ s) (hM : krN l y ws rm D κ (.ref b :: As) C C'' mc ms) (cw : CallB R s args own index y bytes maxL none ws rm mc ms n ∧ y.name = "<init>" ∧ (Cond.instanceMethod y).before args s = true) (hP : va_P D vwCl Wd H) (hD : va_D A0 Wd) (hS : va_S A0 H0 H locs) (hA : ∀ q, H0.size ≤ q → A0 q) (isC isR : List Nat) (hC : isC.map (fun i => Wd[i]?) = C.map some) (hR : isR.map (fun i => Wd[i]?) = wr.map some) (hnC : va_nd isC = true) (hnR : va_nd isR = true) (hdis : ∀ i ∈ isR, i ∉ isC) (hn : As.length = n) (hls : ls.size = nL) (hst : st0 = As.reverse ++ .ref b :: rest) (hroom : (rest.map fun v => v.category).sum ≤ 8) (hdg : decode cc pc = .ok (.invokespecial index, 3)) (hcs : cells + mc ≤ R.cells ∧ slots + ms ≤ R.slots)
    (kk : ∀ (u : Nat → Nat) (H : Heap) (locs : List Loc), va_P D vwCl (wr ++ C'' u) H → va_D A0 (wr ++ C'' u) → va_S A0 H0 H locs → W p l e R s m args below meth c H locs (cells + mc) (slots + ms) Q (F0 m (pc + 3) ls rest)) : W p l e R s m args below meth c H locs cells slots Q (F0 m pc ls st0) :=
  krN_after (va_runI F (hM H.size) cw (kr_preS (As := .ref b :: As) hK hP hD hC hnC) rfl hn hls hst (lv_room hroom) hdg hcs) hP hD hS hA isC isR hC hR hnR hdis kk
theorem krN_IN {C'' : (Nat → Nat) → va_W} (F : CallFix p m c cc nL s args Ts own) (hK : krK D κ s) (hM : krN l y ws rm D κ (.ref b :: As) C C'' mc ms) (cw : va_CN R s args own index y host bytes maxL none ws rm mc ms n ∧ y.name = "<init>" ∧ (Cond.instanceMethod y).before args s = true) (hP : va_P D vwCl Wd H) (hD : va_D A0 Wd) (hS : va_S A0 H0 H locs) (hA : ∀ q, H0.size ≤ q → A0 q) (isC isR : List Nat) (hC : isC.map (fun i => Wd[i]?) = C.map some) (hR : isR.map (fun i => Wd[i]?) = wr.map some) (hnC : va_nd isC = true) (hnR : va_nd isR = true) (hdis : ∀ i ∈ isR, i ∉ isC) (hn : As.length = n) (hls : ls.size = nL) (hst : st0 = As.reverse ++ .ref b :: rest) (hroom : (rest.map fun v => v.category).sum ≤ 8) (hdg : decode cc pc = .ok (.invokespecial index, 3)) (hcs : cells + mc ≤ R.cells ∧ slots + ms ≤ R.slots)
    (kk : ∀ (u : Nat → Nat) (H : Heap) (locs : List Loc), va_P D vwCl (wr ++ C'' u) H → va_D A0 (wr ++ C'' u) → va_S A0 H0 H locs → W p l e R s m args below meth c H locs (cells + mc) (slots + ms) Q (F0 m (pc + 3) ls rest)) : W p l e R s m args below meth c H locs cells slots Q (F0 m pc ls st0) :=
  krN_after (va_runIN F (hM H.size) cw (kr_preS (As := .ref b :: As) hK hP hD hC hnC) rfl hn hls hst (lv_room hroom) hdg hcs) hP hD hS hA isC isR hC hR hnR hdis kk
/-! ===== arrays, tops, booleans ===== -/
theorem kr_tope {x z : Int32} (h : z = x) (k : W p l e R s m args below meth c H locs cells slots Q (F0 m pc ls (.int z :: rest))) : W p l e R s m args below meth c H locs cells slots Q (F0 m pc ls (.int x :: rest)) := by rw [← h]; exact k
theorem kr_topl {x z : Int64} (h : z = x) (k : W p l e R s m args below meth c H locs cells slots Q (F0 m pc ls (.long z :: rest))) : W p l e R s m args below meth c H locs cells slots Q (F0 m pc ls (.long x :: rest)) := by rw [← h]; exact k
theorem kr_nz {r : Int32} (h : ¬ ¬ (r = 0 ∨ r = 1)) : narrow .boolean (.int r) = .int r := by
  rcases Decidable.not_not.mp h with h | h <;> rw [h] <;> rfl
theorem kr_fz {r : Int32} (h : ¬ ¬ (r = 0 ∨ r = 1)) : fits .boolean (.int r) = true := by
  rcases Decidable.not_not.mp h with h | h <;> rw [h] <;> rfl
theorem kr_vz {r : Int32} (h : ¬ ¬ (r = 0 ∨ r = 1)) : vp_nar .boolean r = r := by
  rcases Decidable.not_not.mp h with h | h <;> rw [h] <;> rfl
theorem kr_iald (hx : p.tables.exec = Jvm.exec) (hb : c.code = cc) (hK : krK D κ s) (hP : va_P D vwCl Wd H) (q0 : Nat) {N a : Nat} {f : Nat → Int32} (ha : Wd[q0]? = some (a, .inl (κ 0, N, .inl f))) {i : Int32} (hin : ¬ (i < 0 ∨ N ≤ i.toNatClampNeg)) {j : Nat} (hj : i.toNatClampNeg = j) (hdg : decode cc pc = .ok (.iaload, 1))
    (kk : W p l e R s m args below meth c H locs cells slots Q (F0 m (pc + 1) ls (.int (f j) :: rest))) : W p l e R s m args below meth c H locs cells slots Q (F0 m pc ls (.int i :: .ref a :: rest)) := by
  subst hj; exact va_iald hx hb hK.1 hP q0 0 ha rfl hin hdg kk
theorem kr_zald (hx : p.tables.exec = Jvm.exec) (hb : c.code = cc) (hK : krK D κ s) (hP : va_P D vwCl Wd H) (q0 : Nat) {N a : Nat} {f : Nat → Int32} (ha : Wd[q0]? = some (a, .inl (κ 1, N, .inl f))) {i : Int32} (hin : ¬ (i < 0 ∨ N ≤ i.toNatClampNeg)) {j : Nat} (hj : i.toNatClampNeg = j) (hdg : decode cc pc = .ok (.baload, 1))
    (kk : W p l e R s m args below meth c H locs cells slots Q (F0 m (pc + 1) ls (.int (f j) :: rest))) : W p l e R s m args below meth c H locs cells slots Q (F0 m pc ls (.int i :: .ref a :: rest)) := by
  subst hj; exact va_zald hx hb hK.1 hP q0 1 ha rfl hin hdg kk
theorem kr_iast (hx : p.tables.exec = Jvm.exec) (hb : c.code = cc) (hK : krK D κ s) (hP : va_P D vwCl Wd H) (hD : va_D A0 Wd) (hS : va_S A0 H0 H locs) (q0 : Nat) {N a : Nat} {f : Nat → Int32} (ha : Wd[q0]? = some (a, .inl (κ 0, N, .inl f))) {i x : Int32} (hin : ¬ (i < 0 ∨ N ≤ i.toNatClampNeg)) {j : Nat} (hj : i.toNatClampNeg = j) (hdg : decode cc pc = .ok (.iastore, 1))
    (kk : ∀ (H : Heap) (locs : List Loc), va_P D vwCl (Wd.set q0 (a, .inl (κ 0, N, .inl (upd f j x)))) H → va_D A0 (Wd.set q0 (a, .inl (κ 0, N, .inl (upd f j x)))) → va_S A0 H0 H locs → W p l e R s m args below meth c H locs cells slots Q (F0 m (pc + 1) ls rest)) : W p l e R s m args below meth c H locs cells slots Q (F0 m pc ls (.int x :: .int i :: .ref a :: rest)) := by
  subst hj; exact va_iast hx hb hK.1 hP hD hS q0 0 ha rfl hin hdg kk
theorem kr_zast (hx : p.tables.exec = Jvm.exec) (hb : c.code = cc) (hK : krK D κ s) (hP : va_P D vwCl Wd H) (hD : va_D A0 Wd) (hS : va_S A0 H0 H locs) (q0 : Nat) {N a : Nat} {f : Nat → Int32} (ha : Wd[q0]? = some (a, .inl (κ 1, N, .inl f))) {i x : Int32} (hin : ¬ (i < 0 ∨ N ≤ i.toNatClampNeg)) {j : Nat} (hj : i.toNatClampNeg = j) (hz : vp_nar .boolean x = x) (hdg : decode cc pc = .ok (.bastore, 1))
    (kk : ∀ (H : Heap) (locs : List Loc), va_P D vwCl (Wd.set q0 (a, .inl (κ 1, N, .inl (upd f j x)))) H → va_D A0 (Wd.set q0 (a, .inl (κ 1, N, .inl (upd f j x)))) → va_S A0 H0 H locs → W p l e R s m args below meth c H locs cells slots Q (F0 m (pc + 1) ls rest)) : W p l e R s m args below meth c H locs cells slots Q (F0 m pc ls (.int x :: .int i :: .ref a :: rest)) := by
  subst hj; refine va_zast hx hb hK.1 hP hD hS q0 1 ha rfl hin hdg ?_
  rw [hz]; exact kk
theorem kr_newi (hx : p.tables.exec = Jvm.exec) (hb : c.code = cc) (hK : krK D κ s) (harr : (Cond.arrayClass .int).before args s = true) (hP : va_P D vwCl Wd H) (hD : va_D A0 Wd) (hS : va_S A0 H0 H locs) (hA : ∀ q, H0.size ≤ q → A0 q) {k : Int32} {N : Nat} (hn : ¬ k < 0) (hN : k.toNatClampNeg = N) (hbytes : N * componentBytes .int ≤ 536870912) (hcells : cells + 1 ≤ R.cells) (hslots : slots + N ≤ R.slots) (hdg : decode cc pc = .ok (.newarray .int, 2))
    (kk : ∀ (q : Nat) (H : Heap), va_P D vwCl (Wd ++ [(q, .inl (κ 0, N, .inl (fun _ => 0)))]) H → va_D A0 (Wd ++ [(q, .inl (κ 0, N, .inl (fun _ => 0)))]) → va_S A0 H0 H locs → W p l e R s m args below meth c H locs (cells + 1) (slots + N) Q (F0 m (pc + 2) ls (.ref q :: rest))) : W p l e R s m args below meth c H locs cells slots Q (F0 m pc ls (.int k :: rest)) := by
  refine va_newa (atype := .int) (ty := .int) (a0 := (N, .inl (fun _ => 0))) hx hb harr rfl hK.1 hP hD hS hA (fun _ => rfl) hn hN hbytes hcells hslots hdg (fun q cA H1 hK1 hP1 hD1 hS1 => ?_)
  have h1 := va_nm_int (hK1.2 4 (cA, .int) rfl).2
  have h2 := va_nm_int (hK.1.2 0 (κ 0, .int) rfl).2
  rw [h1] at h2
  obtain rfl := Option.some.inj h2
  exact kk q H1 hP1 hD1 hS1
theorem kr_newz (hx : p.tables.exec = Jvm.exec) (hb : c.code = cc) (hK : krK D κ s) (harr : (Cond.arrayClass .boolean).before args s = true) (hP : va_P D vwCl Wd H) (hD : va_D A0 Wd) (hS : va_S A0 H0 H locs) (hA : ∀ q, H0.size ≤ q → A0 q) {k : Int32} {N : Nat} (hn : ¬ k < 0) (hN : k.toNatClampNeg = N) (hbytes : N * componentBytes .boolean ≤ 536870912) (hcells : cells + 1 ≤ R.cells) (hslots : slots + N ≤ R.slots) (hdg : decode cc pc = .ok (.newarray .boolean, 2))
    (kk : ∀ (q : Nat) (H : Heap), va_P D vwCl (Wd ++ [(q, .inl (κ 1, N, .inl (fun _ => 0)))]) H → va_D A0 (Wd ++ [(q, .inl (κ 1, N, .inl (fun _ => 0)))]) → va_S A0 H0 H locs → W p l e R s m args below meth c H locs (cells + 1) (slots + N) Q (F0 m (pc + 2) ls (.ref q :: rest))) : W p l e R s m args below meth c H locs cells slots Q (F0 m pc ls (.int k :: rest)) := by
  refine va_newa (atype := .boolean) (ty := .boolean) (a0 := (N, .inl (fun _ => 0))) hx hb harr rfl hK.1 hP hD hS hA (fun _ => rfl) hn hN hbytes hcells hslots hdg (fun q cA H1 hK1 hP1 hD1 hS1 => ?_)
  have h1 := va_nm_boolean (hK1.2 4 (cA, .boolean) rfl).2
  have h2 := va_nm_boolean (hK.1.2 1 (κ 1, .boolean) rfl).2
  rw [h1] at h2
  obtain rfl := Option.some.inj h2
  exact kk q H1 hP1 hD1 hS1
theorem kr_newqJ (hx : p.tables.exec = Jvm.exec) (hb : c.code = cc) (hK : krK D κ s) (hown : s.vm.findClass own = some m.cls) (hcl : (Cond.classLink own index RX1).before args s = true) (hP : va_P D vwCl Wd H) (hD : va_D A0 Wd) (hS : va_S A0 H0 H locs) (hA : ∀ q, H0.size ≤ q → A0 q) {k : Int32} {N : Nat} (hn : ¬ k < 0) (hN : k.toNatClampNeg = N) (hbytes : N * 4 ≤ 536870912) (hcells : cells + 1 ≤ R.cells) (hslots : slots + N ≤ R.slots) (hdg : decode cc pc = .ok (.anewarray index, 3))
    (kk : ∀ (q : Nat) (H : Heap), va_P D vwCl (Wd ++ [(q, .inl (κ 2, N, .inr (.inr (.inr (.inr (fun _ => none))))))]) H → va_D A0 (Wd ++ [(q, .inl (κ 2, N, .inr (.inr (.inr (.inr (fun _ => none))))))]) → va_S A0 H0 H locs → W p l e R s m args below meth c H locs (cells + 1) (slots + N) Q (F0 m (pc + 3) ls (.ref q :: rest))) : W p l e R s m args below meth c H locs cells slots Q (F0 m pc ls (.int k :: rest)) := by
  refine va_newq hx hb hown hcl hK.2.2.2.1 hK.1 hP hD hS hA hn hN hbytes hcells hslots hdg (fun q cA H1 hK1 hP1 hD1 hS1 => ?_)
  obtain ⟨_, _, -, -, -, h1⟩ := (hK1.2 4 (cA, .object RX1) rfl).2
  obtain ⟨_, _, -, -, -, h2⟩ := (hK.1.2 2 (κ 2, .object RX1) rfl).2
  rw [h1] at h2
  obtain rfl := Option.some.inj h2
  exact kk q H1 hP1 hD1 hS1
theorem kr_newqS (hx : p.tables.exec = Jvm.exec) (hb : c.code = cc) (hK : krK D κ s) (hown : s.vm.findClass own = some m.cls) (hcl : (Cond.classLink own index RX5).before args s = true) (hP : va_P D vwCl Wd H) (hD : va_D A0 Wd) (hS : va_S A0 H0 H locs) (hA : ∀ q, H0.size ≤ q → A0 q) {k : Int32} {N : Nat} (hn : ¬ k < 0) (hN : k.toNatClampNeg = N) (hbytes : N * 4 ≤ 536870912) (hcells : cells + 1 ≤ R.cells) (hslots : slots + N ≤ R.slots) (hdg : decode cc pc = .ok (.anewarray index, 3))
    (kk : ∀ (q : Nat) (H : Heap), va_P D vwCl (Wd ++ [(q, .inl (κ 3, N, .inr (.inr (.inr (.inr (fun _ => none))))))]) H → va_D A0 (Wd ++ [(q, .inl (κ 3, N, .inr (.inr (.inr (.inr (fun _ => none))))))]) → va_S A0 H0 H locs → W p l e R s m args below meth c H locs (cells + 1) (slots + N) Q (F0 m (pc + 3) ls (.ref q :: rest))) : W p l e R s m args below meth c H locs cells slots Q (F0 m pc ls (.int k :: rest)) := by
  refine va_newq hx hb hown hcl hK.2.2.2.2 hK.1 hP hD hS hA hn hN hbytes hcells hslots hdg (fun q cA H1 hK1 hP1 hD1 hS1 => ?_)
  obtain ⟨_, _, -, -, -, h1⟩ := (hK1.2 4 (cA, .object RX5) rfl).2
  obtain ⟨_, _, -, -, -, h2⟩ := (hK.1.2 3 (κ 3, .object RX5) rfl).2
  rw [h1] at h2
  obtain rfl := Option.some.inj h2
  exact kk q H1 hP1 hD1 hS1
end KRcall
