section ZQA
/-! counting, finding, extremum, marks: pure -/
theorem zq_p {α : Type} {post : α → Prop} {a b : α} (h : post a) (e : b = a) : post b := by rw [e]; exact h
def zq_b (b : Bool) : Int32 := if b = true then 1 else 0
theorem zq_bt : zq_b true = 1 := rfl
theorem zq_bf : zq_b false = 0 := rfl
theorem zq_n10 : ¬ (1 : Int32) = 0 := by decide
theorem zq_br {x : Bool} {A B : Prop} (a : x = false → A) (b : x = true → B) : (zq_b x = 0 → A) ∧ (¬ zq_b x = 0 → B) := by
  cases x
  · exact ⟨fun _ => a rfl, fun h => absurd zq_bf h⟩
  · exact ⟨fun h => absurd h zq_n10, fun _ => b rfl⟩
theorem zq_b01 (x : Bool) : zq_b x = 0 ∨ zq_b x = 1 := by
  cases x
  · exact Or.inl rfl
  · exact Or.inr rfl
theorem zq_b0 {x : Bool} : zq_b x = 0 ↔ x = false := by
  cases x
  · exact ⟨fun _ => rfl, fun _ => rfl⟩
  · exact ⟨fun h => absurd h zq_n10, fun h => by cases h⟩
theorem zq_lp {W : Nat → Nat → Prop} (n : Nat) (h0 : ∀ m, W (m + 1) n) (hs : ∀ m i, i < n → W m (i + 1) → W (m + 1) i) : ∃ m, W m 0 := by
  have h : ∀ d i, i + d = n → W (d + 1) i := by
    intro d
    induction d with
    | zero =>
      intro i e
      have e' : i = n := by omega
      rw [e']
      exact h0 0
    | succ d ih =>
      intro i e
      exact hs (d + 1) i (by omega) (ih (i + 1) (by omega))
  exact ⟨n + 1, h n 0 (by omega)⟩
def zq_cn (p : Nat → Bool) : Nat → Nat
  | 0 => 0
  | i + 1 => zq_cn p i + (if p i = true then 1 else 0)
theorem zq_cn_t {p : Nat → Bool} {i : Nat} (h : p i = true) : zq_cn p (i + 1) = zq_cn p i + 1 := by simp [zq_cn, h]
theorem zq_cn_f {p : Nat → Bool} {i : Nat} (h : p i = false) : zq_cn p (i + 1) = zq_cn p i := by simp [zq_cn, h]
theorem zq_cn_le (p : Nat → Bool) : ∀ i, zq_cn p i ≤ i := by
  intro i
  induction i with
  | zero => exact Nat.le_refl _
  | succ i ih =>
    cases h : p i
    · rw [zq_cn_f h]; omega
    · rw [zq_cn_t h]; omega
theorem zq_cn_lt {p : Nat → Bool} {j : Nat} (hp : p j = false) : ∀ n, j < n → zq_cn p n < n := by
  intro n
  induction n with
  | zero => intro h; omega
  | succ n ih =>
    intro h
    by_cases e : j = n
    · rw [e] at hp
      rw [zq_cn_f hp]
      have := zq_cn_le p n
      omega
    · have := ih (by omega)
      cases g : p n
      · rw [zq_cn_f g]; omega
      · rw [zq_cn_t g]; omega
theorem zq_cn_mono {p q : Nat → Bool} : ∀ n, (∀ s, s < n → p s = true → q s = true) → zq_cn p n ≤ zq_cn q n := by
  intro n
  induction n with
  | zero => intro _; exact Nat.le_refl _
  | succ n ih =>
    intro h
    have := ih (fun s hs => h s (by omega))
    cases g : p n
    · rw [zq_cn_f g]
      cases k : q n
      · rw [zq_cn_f k]; exact this
      · rw [zq_cn_t k]; omega
    · rw [zq_cn_t g, zq_cn_t (h n (by omega) g)]; omega
theorem zq_cn_smono {p q : Nat → Bool} {t : Nat} (hp : p t = false) (hq : q t = true) : ∀ n, (∀ s, s < n → p s = true → q s = true) → t < n → zq_cn p n < zq_cn q n := by
  intro n
  induction n with
  | zero => intro _ h; omega
  | succ n ih =>
    intro h ht
    by_cases e : t = n
    · rw [e] at hp hq
      rw [zq_cn_f hp, zq_cn_t hq]
      have := zq_cn_mono n (fun s hs => h s (by omega))
      omega
    · have := ih (fun s hs => h s (by omega)) (by omega)
      cases g : p n
      · rw [zq_cn_f g]
        cases k : q n
        · rw [zq_cn_f k]; exact this
        · rw [zq_cn_t k]; omega
      · rw [zq_cn_t g, zq_cn_t (h n (by omega) g)]; omega
theorem zq_cn_c {p q : Nat → Bool} : ∀ n, (∀ s, s < n → p s = q s) → zq_cn p n = zq_cn q n := by
  intro n h
  exact Nat.le_antisymm (zq_cn_mono n (fun s hs g => by rw [← h s hs]; exact g)) (zq_cn_mono n (fun s hs g => by rw [h s hs]; exact g))
def zq_fd (p : Nat → Bool) : Nat → Option Nat
  | 0 => none
  | i + 1 => match zq_fd p i with
    | some b => some b
    | none => if p i = true then some i else none
theorem zq_fd_n {p : Nat → Bool} : ∀ n, (∀ j, j < n → p j = false) → zq_fd p n = none := by
  intro n
  induction n with
  | zero => intro _; rfl
  | succ n ih => intro h; simp [zq_fd, ih (fun j hj => h j (by omega)), h n (by omega)]
theorem zq_fd_s {p : Nat → Bool} {i : Nat} (hi : ∀ j, j < i → p j = false) (hp : p i = true) : ∀ n, i < n → zq_fd p n = some i := by
  intro n
  induction n with
  | zero => intro h; omega
  | succ n ih =>
    intro h
    by_cases e : i = n
    · rw [e] at hi hp
      simp [zq_fd, zq_fd_n n hi, hp, e]
    · simp [zq_fd, ih (by omega)]
theorem zq_fd_lt {p : Nat → Bool} {b : Nat} : ∀ n, zq_fd p n = some b → b < n ∧ p b = true := by
  intro n
  induction n with
  | zero => intro h; exact absurd h (by simp [zq_fd])
  | succ n ih =>
    intro h
    cases g : zq_fd p n with
    | none =>
      cases k : p n
      · simp [zq_fd, g, k] at h
      · have e : zq_fd p (n + 1) = some n := by simp [zq_fd, g, k]
        have e2 : n = b := Option.some.inj (e.symm.trans h)
        rw [← e2]
        exact ⟨by omega, k⟩
    | some a =>
      have e : zq_fd p (n + 1) = some a := by simp [zq_fd, g]
      have e2 : a = b := Option.some.inj (e.symm.trans h)
      have := ih (by rw [g, e2])
      exact ⟨by omega, this.2⟩
def zq_o : Option Nat → Int32
  | none => -1
  | some b => nI b
def zq_ex (f : Nat → Bool) (lt : Nat → Nat → Bool) : Nat → Option Nat
  | 0 => none
  | i + 1 => if f i = true then (match zq_ex f lt i with
    | none => some i
    | some b => if lt i b = true then some i else some b) else zq_ex f lt i
theorem zq_ex_0 {f : Nat → Bool} {lt : Nat → Nat → Bool} {i : Nat} (h : f i = false) : zq_ex f lt (i + 1) = zq_ex f lt i := by simp [zq_ex, h]
theorem zq_ex_1 {f : Nat → Bool} {lt : Nat → Nat → Bool} {i : Nat} (h : f i = true) (g : zq_ex f lt i = none) : zq_ex f lt (i + 1) = some i := by simp [zq_ex, h, g]
theorem zq_ex_2 {f : Nat → Bool} {lt : Nat → Nat → Bool} {i b : Nat} (h : f i = true) (g : zq_ex f lt i = some b) (k : lt i b = true) : zq_ex f lt (i + 1) = some i := by simp [zq_ex, h, g, k]
theorem zq_ex_3 {f : Nat → Bool} {lt : Nat → Nat → Bool} {i b : Nat} (h : f i = true) (g : zq_ex f lt i = some b) (k : lt i b = false) : zq_ex f lt (i + 1) = some b := by simp [zq_ex, h, g, k]
theorem zq_ex_lt {f : Nat → Bool} {lt : Nat → Nat → Bool} : ∀ n b, zq_ex f lt n = some b → b < n ∧ f b = true := by
  intro n
  induction n with
  | zero => intro b h; exact absurd h (by simp [zq_ex])
  | succ n ih =>
    intro b h
    cases k : f n
    · rw [zq_ex_0 k] at h
      have := ih b h
      exact ⟨by omega, this.2⟩
    · cases g : zq_ex f lt n with
      | none =>
        rw [zq_ex_1 k g] at h
        have e : n = b := Option.some.inj h
        rw [← e]
        exact ⟨by omega, k⟩
      | some a =>
        cases l : lt n a
        · rw [zq_ex_3 k g l] at h
          have e : a = b := Option.some.inj h
          have := ih a g
          rw [← e]
          exact ⟨by omega, this.2⟩
        · rw [zq_ex_2 k g l] at h
          have e : n = b := Option.some.inj h
          rw [← e]
          exact ⟨by omega, k⟩
theorem zq_ex_c {f : Nat → Bool} {lt lu : Nat → Nat → Bool} : ∀ n, (∀ i b, i < n → b < n → f i = true → f b = true → lt i b = lu i b) → zq_ex f lt n = zq_ex f lu n := by
  intro n
  induction n with
  | zero => intro _; rfl
  | succ n ih =>
    intro h
    have e := ih (fun i b hi hb => h i b (by omega) (by omega))
    cases k : f n
    · rw [zq_ex_0 k, zq_ex_0 k, e]
    · cases g : zq_ex f lt n with
      | none => rw [zq_ex_1 k g, zq_ex_1 k (e ▸ g)]
      | some a =>
        have ha := zq_ex_lt n a g
        have hl := h n a (by omega) (by omega) k ha.2
        cases l : lt n a
        · rw [zq_ex_3 k g l, zq_ex_3 k (e ▸ g) (hl ▸ l)]
        · rw [zq_ex_2 k g l, zq_ex_2 k (e ▸ g) (hl ▸ l)]
theorem zq_ex_cf {f g : Nat → Bool} {lt : Nat → Nat → Bool} : ∀ n, (∀ i, i < n → f i = g i) → zq_ex f lt n = zq_ex g lt n := by
  intro n
  induction n with
  | zero => intro _; rfl
  | succ n ih =>
    intro h
    have e := ih (fun i hi => h i (by omega))
    have hn := h n (by omega)
    simp only [zq_ex, e, hn]
def zq_mk (g : Nat → Int32) (A : Nat → Int32) : Nat → Nat → Int32
  | 0 => A
  | i + 1 => upd (zq_mk g A i) i (g i)
theorem zq_mk_lt {g A : Nat → Int32} {j : Nat} : ∀ i, j < i → zq_mk g A i j = g j := by
  intro i
  induction i with
  | zero => intro h; omega
  | succ i ih =>
    intro h
    show (if j = i then g i else zq_mk g A i j) = g j
    by_cases e : j = i
    · rw [if_pos e, e]
    · rw [if_neg e]; exact ih (by omega)
theorem zq_mk_c {g h A : Nat → Int32} : ∀ n, (∀ j, j < n → g j = h j) → zq_mk g A n = zq_mk h A n := by
  intro n
  induction n with
  | zero => intro _; rfl
  | succ n ih =>
    intro e
    show upd (zq_mk g A n) n (g n) = upd (zq_mk h A n) n (h n)
    rw [ih (fun j hj => e j (by omega)), e n (by omega)]
def zq_mkL (g : Nat → Int64) (A : Nat → Int64) : Nat → Nat → Int64
  | 0 => A
  | i + 1 => vp_updL (zq_mkL g A i) i (g i)
theorem zq_mkL_c {g h A : Nat → Int64} : ∀ n, (∀ j, j < n → g j = h j) → zq_mkL g A n = zq_mkL h A n := by
  intro n
  induction n with
  | zero => intro _; rfl
  | succ n ih =>
    intro e
    show vp_updL (zq_mkL g A n) n (g n) = vp_updL (zq_mkL h A n) n (h n)
    rw [ih (fun j hj => e j (by omega)), e n (by omega)]
theorem zq_mk_p {g A : Nat → Int32} {Q : Int32 → Prop} (hA : ∀ j, Q (A j)) (hg : ∀ j, Q (g j)) : ∀ i j, Q (zq_mk g A i j) := by
  intro i
  induction i with
  | zero => exact hA
  | succ i ih =>
    intro j
    show Q (if j = i then g i else zq_mk g A i j)
    by_cases e : j = i
    · rw [if_pos e]; exact hg i
    · rw [if_neg e]; exact ih j
theorem zq_mk_p2 {g A : Nat → Int32} {h B : Nat → Int64} {Q : Int32 → Int64 → Prop} (hA : ∀ j, Q (A j) (B j)) (hg : ∀ j, Q (g j) (h j)) : ∀ i j, Q (zq_mk g A i j) (zq_mkL h B i j) := by
  intro i
  induction i with
  | zero => exact hA
  | succ i ih =>
    intro j
    show Q (if j = i then g i else zq_mk g A i j) (if j = i then h i else zq_mkL h B i j)
    by_cases e : j = i
    · rw [if_pos e, if_pos e]; exact hg i
    · rw [if_neg e, if_neg e]; exact ih j
def zq_sm (f : Nat → Bool) (V : Nat → Int32) : Nat → Int64
  | 0 => 0
  | i + 1 => if f i = true then zq_sm f V i + (V i).toInt64 else zq_sm f V i
theorem zq_sm_t {f : Nat → Bool} {V : Nat → Int32} {i : Nat} (h : f i = true) : zq_sm f V (i + 1) = zq_sm f V i + (V i).toInt64 := by simp [zq_sm, h]
theorem zq_sm_f {f : Nat → Bool} {V : Nat → Int32} {i : Nat} (h : f i = false) : zq_sm f V (i + 1) = zq_sm f V i := by simp [zq_sm, h]
/-- the least (or greatest) value so far, as the reference keeps it -/
def zq_mm (f : Nat → Bool) (V : Nat → Int32) (c : Int64 → Int64 → Bool) : Nat → Int64
  | 0 => 0
  | i + 1 => if f i = true then (if zq_cn f i = 0 then (V i).toInt64 else if c (V i).toInt64 (zq_mm f V c i) = true then (V i).toInt64 else zq_mm f V c i) else zq_mm f V c i
theorem zq_mm_f {f : Nat → Bool} {V : Nat → Int32} {c : Int64 → Int64 → Bool} {i : Nat} (h : f i = false) : zq_mm f V c (i + 1) = zq_mm f V c i := by simp [zq_mm, h]
theorem zq_mm_0 {f : Nat → Bool} {V : Nat → Int32} {c : Int64 → Int64 → Bool} {i : Nat} (h : f i = true) (g : zq_cn f i = 0) : zq_mm f V c (i + 1) = (V i).toInt64 := by simp [zq_mm, h, g]
theorem zq_mm_1 {f : Nat → Bool} {V : Nat → Int32} {c : Int64 → Int64 → Bool} {i : Nat} (h : f i = true) (k : c (V i).toInt64 (zq_mm f V c i) = true) : zq_mm f V c (i + 1) = (V i).toInt64 := by simp [zq_mm, h, k]
theorem zq_mm_2 {f : Nat → Bool} {V : Nat → Int32} {c : Int64 → Int64 → Bool} {i : Nat} (h : f i = true) (g : ¬ zq_cn f i = 0) (k : c (V i).toInt64 (zq_mm f V c i) = false) : zq_mm f V c (i + 1) = zq_mm f V c i := by simp [zq_mm, h, g, k]
def zq_v (V : Nat → Int32) : Option Nat → Int64
  | none => 0
  | some b => (V b).toInt64
theorem zq_mm_ex {f : Nat → Bool} {V : Nat → Int32} {c : Int64 → Int64 → Bool} : ∀ n, zq_mm f V c n = zq_v V (zq_ex f (fun i b => c (V i).toInt64 (V b).toInt64) n) ∧ (zq_cn f n = 0 ↔ zq_ex f (fun i b => c (V i).toInt64 (V b).toInt64) n = none) := by
  intro n
  induction n with
  | zero => exact ⟨rfl, fun _ => rfl, fun _ => rfl⟩
  | succ n ih =>
    cases k : f n
    · rw [zq_mm_f k, zq_ex_0 k, zq_cn_f k]; exact ih
    · rw [zq_cn_t k]
      cases g : zq_ex f (fun i b => c (V i).toInt64 (V b).toInt64) n with
      | none =>
        rw [zq_ex_1 k g, zq_mm_0 k (ih.2.mpr g)]
        exact ⟨rfl, fun h => absurd h (by omega), fun h => by cases h⟩
      | some a =>
        have h0 : ¬ zq_cn f n = 0 := fun h => by rw [ih.2.mp h] at g; cases g
        have hv : zq_mm f V c n = (V a).toInt64 := by rw [ih.1, g]; rfl
        cases l : c (V n).toInt64 (V a).toInt64
        · rw [zq_ex_3 k g l, zq_mm_2 k h0 (by rw [hv]; exact l), hv]
          exact ⟨rfl, fun h => absurd h (by omega), fun h => by cases h⟩
        · rw [zq_ex_2 k g l, zq_mm_1 k (by rw [hv]; exact l)]
          exact ⟨rfl, fun h => absurd h (by omega), fun h => by cases h⟩
end ZQA
