section
section ZQA
/-! counting, finding, extremum, marks: pure -/
theorem zq_p {α : Type} {post : α → Prop} {a b : α} (h : post a) (e : b = a) : post b := by rw [e]; exact h
def zq_b (b : Bool) : Int32 := if b = true then 1 else 0
theorem zq_bt : zq_b true = 1 := rfl
theorem zq_bf : zq_b false = 0 := rfl
theorem zq_n10 : ¬ (1 : Int32) = 0 := by decide
theorem zq_br {x : Bool} {A B : Prop} (a : x = false → A) (b : x = true → B) : (zq_b x = 0 → A) ∧ (¬ zq_b x = 0 → B) := by
  cases x
  · exact ⟨fun _ => a rfl, fun h => absurd zq_bf h⟩
  · exact ⟨fun h => absurd h zq_n10, fun _ => b rfl⟩
theorem zq_b01 (x : Bool) : zq_b x = 0 ∨ zq_b x = 1 := by
  cases x
  · exact Or.inl rfl
  · exact Or.inr rfl
theorem zq_b0 {x : Bool} : zq_b x = 0 ↔ x = false := by
  cases x
  · exact ⟨fun _ => rfl, fun _ => rfl⟩
  · exact ⟨fun h => absurd h zq_n10, fun h => by cases h⟩
theorem zq_lp {W : Nat → Nat → Prop} (n : Nat) (h0 : ∀ m, W (m + 1) n) (hs : ∀ m i, i < n → W m (i + 1) → W (m + 1) i) : ∃ m, W m 0 := by
  have h : ∀ d i, i + d = n → W (d + 1) i := by
    intro d
    induction d with
    | zero =>
      intro i e
      have e' : i = n := by omega
      rw [e']
      exact h0 0
    | succ d ih =>
      intro i e
      exact hs (d + 1) i (by omega) (ih (i + 1) (by omega))
  exact ⟨n + 1, h n 0 (by omega)⟩
def zq_cn (p : Nat → Bool) : Nat → Nat
  | 0 => 0
  | i + 1 => zq_cn p i + (if p i = true then 1 else 0)
theorem zq_cn_t {p : Nat → Bool} {i : Nat} (h : p i = true) : zq_cn p (i + 1) = zq_cn p i + 1 := by simp [zq_cn, h]
theorem zq_cn_f {p : Nat → Bool} {i : Nat} (h : p i = false) : zq_cn p (i + 1) = zq_cn p i := by simp [zq_cn, h]
theorem zq_cn_le (p : Nat → Bool) : ∀ i, zq_cn p i ≤ i := by
  intro i
  induction i with
  | zero => exact Nat.le_refl _
  | succ i ih =>
    cases h : p i
    · rw [zq_cn_f h]; omega
    · rw [zq_cn_t h]; omega
theorem zq_cn_lt {p : Nat → Bool} {j : Nat} (hp : p j = false) : ∀ n, j < n → zq_cn p n < n := by
  intro n
  induction n with
  | zero => intro h; omega
  | succ n ih =>
    intro h
    by_cases e : j = n
    · rw [e] at hp
      rw [zq_cn_f hp]
      have := zq_cn_le p n
      omega
    · have := ih (by omega)
      cases g : p n
      · rw [zq_cn_f g]; omega
      · rw [zq_cn_t g]; omega
theorem zq_cn_mono {p q : Nat → Bool} : ∀ n, (∀ s, s < n → p s = true → q s = true) → zq_cn p n ≤ zq_cn q n := by
  intro n
  induction n with
  | zero => intro _; exact Nat.le_refl _
  | succ n ih =>
    intro h
    have := ih (fun s hs => h s (by omega))
    cases g : p n
    · rw [zq_cn_f g]
      cases k : q n
      · rw [zq_cn_f k]; exact this
      · rw [zq_cn_t k]; omega
    · rw [zq_cn_t g, zq_cn_t (h n (by omega) g)]; omega
theorem zq_cn_smono {p q : Nat → Bool} {t : Nat} (hp : p t = false) (hq : q t = true) : ∀ n, (∀ s, s < n → p s = true → q s = true) → t < n → zq_cn p n < zq_cn q n := by
  intro n
  induction n with
  | zero => intro _ h; omega
  | succ n ih =>
    intro h ht
    by_cases e : t = n
    · rw [e] at hp hq
      rw [zq_cn_f hp, zq_cn_t hq]
      have := zq_cn_mono n (fun s hs => h s (by omega))
      omega
    · have := ih (fun s hs => h s (by omega)) (by omega)
      cases g : p n
      · rw [zq_cn_f g]
        cases k : q n
        · rw [zq_cn_f k]; exact this
        · rw [zq_cn_t k]; omega
      · rw [zq_cn_t g, zq_cn_t (h n (by omega) g)]; omega
theorem zq_cn_c {p q : Nat → Bool} : ∀ n, (∀ s, s < n → p s = q s) → zq_cn p n = zq_cn q n := by
  intro n h
  exact Nat.le_antisymm (zq_cn_mono n (fun s hs g => by rw [← h s hs]; exact g)) (zq_cn_mono n (fun s hs g => by rw [h s hs]; exact g))
def zq_fd (p : Nat → Bool) : Nat → Option Nat
  | 0 => none
  | i + 1 => match zq_fd p i with
    | some b => some b
    | none => if p i = true then some i else none
theorem zq_fd_n {p : Nat → Bool} : ∀ n, (∀ j, j < n → p j = false) → zq_fd p n = none := by
  intro n
  induction n with
  | zero => intro _; rfl
  | succ n ih => intro h; simp [zq_fd, ih (fun j hj => h j (by omega)), h n (by omega)]
theorem zq_fd_s {p : Nat → Bool} {i : Nat} (hi : ∀ j, j < i → p j = false) (hp : p i = true) : ∀ n, i < n → zq_fd p n = some i := by
  intro n
  induction n with
  | zero => intro h; omega
  | succ n ih =>
    intro h
    by_cases e : i = n
    · rw [e] at hi hp
      simp [zq_fd, zq_fd_n n hi, hp, e]
    · simp [zq_fd, ih (by omega)]
theorem zq_fd_lt {p : Nat → Bool} {b : Nat} : ∀ n, zq_fd p n = some b → b < n ∧ p b = true := by
  intro n
  induction n with
  | zero => intro h; exact absurd h (by simp [zq_fd])
  | succ n ih =>
    intro h
    cases g : zq_fd p n with
    | none =>
      cases k : p n
      · simp [zq_fd, g, k] at h
      · have e : zq_fd p (n + 1) = some n := by simp [zq_fd, g, k]
        have e2 : n = b := Option.some.inj (e.symm.trans h)
        rw [← e2]
        exact ⟨by omega, k⟩
    | some a =>
      have e : zq_fd p (n + 1) = some a := by simp [zq_fd, g]
      have e2 : a = b := Option.some.inj (e.symm.trans h)
      have := ih (by rw [g, e2])
      exact ⟨by omega, this.2⟩
def zq_o : Option Nat → Int32
  | none => -1
  | some b => nI b
def zq_ex (f : Nat → Bool) (lt : Nat → Nat → Bool) : Nat → Option Nat
  | 0 => none
  | i + 1 => if f i = true then (match zq_ex f lt i with
    | none => some i
    | some b => if lt i b = true then some i else some b) else zq_ex f lt i
theorem zq_ex_0 {f : Nat → Bool} {lt : Nat → Nat → Bool} {i : Nat} (h : f i = false) : zq_ex f lt (i + 1) = zq_ex f lt i := by simp [zq_ex, h]
theorem zq_ex_1 {f : Nat → Bool} {lt : Nat → Nat → Bool} {i : Nat} (h : f i = true) (g : zq_ex f lt i = none) : zq_ex f lt (i + 1) = some i := by simp [zq_ex, h, g]
theorem zq_ex_2 {f : Nat → Bool} {lt : Nat → Nat → Bool} {i b : Nat} (h : f i = true) (g : zq_ex f lt i = some b) (k : lt i b = true) : zq_ex f lt (i + 1) = some i := by simp [zq_ex, h, g, k]
theorem zq_ex_3 {f : Nat → Bool} {lt : Nat → Nat → Bool} {i b : Nat} (h : f i = true) (g : zq_ex f lt i = some b) (k : lt i b = false) : zq_ex f lt (i + 1) = some b := by simp [zq_ex, h, g, k]
theorem zq_ex_lt {f : Nat → Bool} {lt : Nat → Nat → Bool} : ∀ n b, zq_ex f lt n = some b → b < n ∧ f b = true := by
  intro n
  induction n with
  | zero => intro b h; exact absurd h (by simp [zq_ex])
  | succ n ih =>
    intro b h
    cases k : f n
    · rw [zq_ex_0 k] at h
      have := ih b h
      exact ⟨by omega, this.2⟩
    · cases g : zq_ex f lt n with
      | none =>
        rw [zq_ex_1 k g] at h
        have e : n = b := Option.some.inj h
        rw [← e]
        exact ⟨by omega, k⟩
      | some a =>
        cases l : lt n a
        · rw [zq_ex_3 k g l] at h
          have e : a = b := Option.some.inj h
          have := ih a g
          rw [← e]
          exact ⟨by omega, this.2⟩
        · rw [zq_ex_2 k g l] at h
          have e : n = b := Option.some.inj h
          rw [← e]
          exact ⟨by omega, k⟩
theorem zq_ex_c {f : Nat → Bool} {lt lu : Nat → Nat → Bool} : ∀ n, (∀ i b, i < n → b < n → f i = true → f b = true → lt i b = lu i b) → zq_ex f lt n = zq_ex f lu n := by
  intro n
  induction n with
  | zero => intro _; rfl
  | succ n ih =>
    intro h
    have e := ih (fun i b hi hb => h i b (by omega) (by omega))
    cases k : f n
    · rw [zq_ex_0 k, zq_ex_0 k, e]
    · cases g : zq_ex f lt n with
      | none => rw [zq_ex_1 k g, zq_ex_1 k (e ▸ g)]
      | some a =>
        have ha := zq_ex_lt n a g
        have hl := h n a (by omega) (by omega) k ha.2
        cases l : lt n a
        · rw [zq_ex_3 k g l, zq_ex_3 k (e ▸ g) (hl ▸ l)]
        · rw [zq_ex_2 k g l, zq_ex_2 k (e ▸ g) (hl ▸ l)]
theorem zq_ex_cf {f g : Nat → Bool} {lt : Nat → Nat → Bool} : ∀ n, (∀ i, i < n → f i = g i) → zq_ex f lt n = zq_ex g lt n := by
  intro n
  induction n with
  | zero => intro _; rfl
  | succ n ih =>
    intro h
    have e := ih (fun i hi => h i (by omega))
    have hn := h n (by omega)
    simp only [zq_ex, e, hn]
def zq_mk (g : Nat → Int32) (A : Nat → Int32) : Nat → Nat → Int32
  | 0 => A
  | i + 1 => upd (zq_mk g A i) i (g i)
theorem zq_mk_lt {g A : Nat → Int32} {j : Nat} : ∀ i, j < i → zq_mk g A i j = g j := by
  intro i
  induction i with
  | zero => intro h; omega
  | succ i ih =>
    intro h
    show (if j = i then g i else zq_mk g A i j) = g j
    by_cases e : j = i
    · rw [if_pos e, e]
    · rw [if_neg e]; exact ih (by omega)
theorem zq_mk_c {g h A : Nat → Int32} : ∀ n, (∀ j, j < n → g j = h j) → zq_mk g A n = zq_mk h A n := by
  intro n
  induction n with
  | zero => intro _; rfl
  | succ n ih =>
    intro e
    show upd (zq_mk g A n) n (g n) = upd (zq_mk h A n) n (h n)
    rw [ih (fun j hj => e j (by omega)), e n (by omega)]
def zq_mkL (g : Nat → Int64) (A : Nat → Int64) : Nat → Nat → Int64
  | 0 => A
  | i + 1 => vp_updL (zq_mkL g A i) i (g i)
theorem zq_mkL_c {g h A : Nat → Int64} : ∀ n, (∀ j, j < n → g j = h j) → zq_mkL g A n = zq_mkL h A n := by
  intro n
  induction n with
  | zero => intro _; rfl
  | succ n ih =>
    intro e
    show vp_updL (zq_mkL g A n) n (g n) = vp_updL (zq_mkL h A n) n (h n)
    rw [ih (fun j hj => e j (by omega)), e n (by omega)]
theorem zq_mk_p {g A : Nat → Int32} {Q : Int32 → Prop} (hA : ∀ j, Q (A j)) (hg : ∀ j, Q (g j)) : ∀ i j, Q (zq_mk g A i j) := by
  intro i
  induction i with
  | zero => exact hA
  | succ i ih =>
    intro j
    show Q (if j = i then g i else zq_mk g A i j)
    by_cases e : j = i
    · rw [if_pos e]; exact hg i
    · rw [if_neg e]; exact ih j
theorem zq_mk_p2 {g A : Nat → Int32} {h B : Nat → Int64} {Q : Int32 → Int64 → Prop} (hA : ∀ j, Q (A j) (B j)) (hg : ∀ j, Q (g j) (h j)) : ∀ i j, Q (zq_mk g A i j) (zq_mkL h B i j) := by
  intro i
  induction i with
  | zero => exact hA
  | succ i ih =>
    intro j
    show Q (if j = i then g i else zq_mk g A i j) (if j = i then h i else zq_mkL h B i j)
    by_cases e : j = i
    · rw [if_pos e, if_pos e]; exact hg i
    · rw [if_neg e, if_neg e]; exact ih j
def zq_sm (f : Nat → Bool) (V : Nat → Int32) : Nat → Int64
  | 0 => 0
  | i + 1 => if f i = true then zq_sm f V i + (V i).toInt64 else zq_sm f V i
theorem zq_sm_t {f : Nat → Bool} {V : Nat → Int32} {i : Nat} (h : f i = true) : zq_sm f V (i + 1) = zq_sm f V i + (V i).toInt64 := by simp [zq_sm, h]
theorem zq_sm_f {f : Nat → Bool} {V : Nat → Int32} {i : Nat} (h : f i = false) : zq_sm f V (i + 1) = zq_sm f V i := by simp [zq_sm, h]
/-- the least (or greatest) value so far, as the reference keeps it -/
def zq_mm (f : Nat → Bool) (V : Nat → Int32) (c : Int64 → Int64 → Bool) : Nat → Int64
  | 0 => 0
  | i + 1 => if f i = true then (if zq_cn f i = 0 then (V i).toInt64 else if c (V i).toInt64 (zq_mm f V c i) = true then (V i).toInt64 else zq_mm f V c i) else zq_mm f V c i
theorem zq_mm_f {f : Nat → Bool} {V : Nat → Int32} {c : Int64 → Int64 → Bool} {i : Nat} (h : f i = false) : zq_mm f V c (i + 1) = zq_mm f V c i := by simp [zq_mm, h]
theorem zq_mm_0 {f : Nat → Bool} {V : Nat → Int32} {c : Int64 → Int64 → Bool} {i : Nat} (h : f i = true) (g : zq_cn f i = 0) : zq_mm f V c (i + 1) = (V i).toInt64 := by simp [zq_mm, h, g]
theorem zq_mm_1 {f : Nat → Bool} {V : Nat → Int32} {c : Int64 → Int64 → Bool} {i : Nat} (h : f i = true) (k : c (V i).toInt64 (zq_mm f V c i) = true) : zq_mm f V c (i + 1) = (V i).toInt64 := by simp [zq_mm, h, k]
theorem zq_mm_2 {f : Nat → Bool} {V : Nat → Int32} {c : Int64 → Int64 → Bool} {i : Nat} (h : f i = true) (g : ¬ zq_cn f i = 0) (k : c (V i).toInt64 (zq_mm f V c i) = false) : zq_mm f V c (i + 1) = zq_mm f V c i := by simp [zq_mm, h, g, k]
def zq_v (V : Nat → Int32) : Option Nat → Int64
  | none => 0
  | some b => (V b).toInt64
theorem zq_mm_ex {f : Nat → Bool} {V : Nat → Int32} {c : Int64 → Int64 → Bool} : ∀ n, zq_mm f V c n = zq_v V (zq_ex f (fun i b => c (V i).toInt64 (V b).toInt64) n) ∧ (zq_cn f n = 0 ↔ zq_ex f (fun i b => c (V i).toInt64 (V b).toInt64) n = none) := by
  intro n
  induction n with
  | zero => exact ⟨rfl, fun _ => rfl, fun _ => rfl⟩
  | succ n ih =>
    cases k : f n
    · rw [zq_mm_f k, zq_ex_0 k, zq_cn_f k]; exact ih
    · rw [zq_cn_t k]
      cases g : zq_ex f (fun i b => c (V i).toInt64 (V b).toInt64) n with
      | none =>
        rw [zq_ex_1 k g, zq_mm_0 k (ih.2.mpr g)]
        exact ⟨rfl, fun h => absurd h (by omega), fun h => by cases h⟩
      | some a =>
        have h0 : ¬ zq_cn f n = 0 := fun h => by rw [ih.2.mp h] at g; cases g
        have hv : zq_mm f V c n = (V a).toInt64 := by rw [ih.1, g]; rfl
        cases l : c (V n).toInt64 (V a).toInt64
        · rw [zq_ex_3 k g l, zq_mm_2 k h0 (by rw [hv]; exact l), hv]
          exact ⟨rfl, fun h => absurd h (by omega), fun h => by cases h⟩
        · rw [zq_ex_2 k g l, zq_mm_1 k (by rw [hv]; exact l)]
          exact ⟨rfl, fun h => absurd h (by omega), fun h => by cases h⟩
end ZQA
end
section
section ZQB
/-! the sort order: keys, before, positions -/
def zq_cmp (P O N : Nat → Int32) (d nl : Int32) (a b : Nat) : Int32 :=
  if P a = P b then
    if d = 0 then 0
    else if N a = 0 then
      (if N b = 0 then
        (if O a = O b then 0 else if O a < O b then (if d = 1 then -1 else 1) else (if d = 1 then 1 else -1))
      else (if nl = 1 then 1 else -1))
    else (if N b = 0 then (if nl = 1 then -1 else 1) else 0)
  else if P a < P b then -1 else 1
def zq_kr (O N : Nat → Int32) (d nl : Int32) (a : Nat) : Int :=
  if d = 0 then 0 else if N a = 0 then (if d = 1 then (O a).toInt else -(O a).toInt) else (if nl = 1 then -34359738368 else 34359738368)
variable {P O N : Nat → Int32} {d nl : Int32}
theorem zq_kr_0 {a : Nat} (hd : d = 0) : zq_kr O N d nl a = 0 := by unfold zq_kr; rw [if_pos hd]
theorem zq_kr_n {a : Nat} (hd : ¬ d = 0) (na : N a = 0) (h1 : d = 1) : zq_kr O N d nl a = (O a).toInt := by
  unfold zq_kr; rw [if_neg hd, if_pos na, if_pos h1]
theorem zq_kr_m {a : Nat} (hd : ¬ d = 0) (na : N a = 0) (h1 : ¬ d = 1) : zq_kr O N d nl a = -(O a).toInt := by
  unfold zq_kr; rw [if_neg hd, if_pos na, if_neg h1]
theorem zq_kr_f {a : Nat} (hd : ¬ d = 0) (na : ¬ N a = 0) (h1 : nl = 1) : zq_kr O N d nl a = -34359738368 := by
  unfold zq_kr; rw [if_neg hd, if_neg na, if_pos h1]
theorem zq_kr_l {a : Nat} (hd : ¬ d = 0) (na : ¬ N a = 0) (h1 : ¬ nl = 1) : zq_kr O N d nl a = 34359738368 := by
  unfold zq_kr; rw [if_neg hd, if_neg na, if_neg h1]
theorem zq_kr_b {a : Nat} (hd : ¬ d = 0) (na : N a = 0) : -34359738368 < zq_kr O N d nl a ∧ zq_kr O N d nl a < 34359738368 := by
  have h1 := Int32.le_toInt (O a)
  have h2 := Int32.toInt_lt (O a)
  by_cases h : d = 1
  · rw [zq_kr_n hd na h]; omega
  · rw [zq_kr_m hd na h]; omega
theorem zq_ck (P O N : Nat → Int32) (d nl : Int32) (a b : Nat) :
    (zq_cmp P O N d nl a b = -1 ∧ ((P a).toInt < (P b).toInt ∨ ((P a).toInt = (P b).toInt ∧ zq_kr O N d nl a < zq_kr O N d nl b)))
    ∨ (zq_cmp P O N d nl a b = 0 ∧ (P a).toInt = (P b).toInt ∧ zq_kr O N d nl a = zq_kr O N d nl b)
    ∨ (zq_cmp P O N d nl a b = 1 ∧ ((P b).toInt < (P a).toInt ∨ ((P a).toInt = (P b).toInt ∧ zq_kr O N d nl b < zq_kr O N d nl a))) := by
  by_cases hp : P a = P b
  · have hp' : (P a).toInt = (P b).toInt := by rw [hp]
    by_cases hd : d = 0
    · refine Or.inr (Or.inl ⟨?_, hp', ?_⟩)
      · unfold zq_cmp; rw [if_pos hp, if_pos hd]
      · rw [zq_kr_0 hd, zq_kr_0 hd]
    · by_cases na : N a = 0
      · by_cases nb : N b = 0
        · by_cases ho : O a = O b
          · refine Or.inr (Or.inl ⟨?_, hp', ?_⟩)
            · unfold zq_cmp; rw [if_pos hp, if_neg hd, if_pos na, if_pos nb, if_pos ho]
            · by_cases h1 : d = 1
              · rw [zq_kr_n hd na h1, zq_kr_n hd nb h1, ho]
              · rw [zq_kr_m hd na h1, zq_kr_m hd nb h1, ho]
          · by_cases hl : O a < O b
            · have hl' := Int32.lt_iff_toInt_lt.mp hl
              by_cases h1 : d = 1
              · refine Or.inl ⟨?_, Or.inr ⟨hp', ?_⟩⟩
                · unfold zq_cmp; rw [if_pos hp, if_neg hd, if_pos na, if_pos nb, if_neg ho, if_pos hl, if_pos h1]
                · rw [zq_kr_n hd na h1, zq_kr_n hd nb h1]; exact hl'
              · refine Or.inr (Or.inr ⟨?_, Or.inr ⟨hp', ?_⟩⟩)
                · unfold zq_cmp; rw [if_pos hp, if_neg hd, if_pos na, if_pos nb, if_neg ho, if_pos hl, if_neg h1]
                · rw [zq_kr_m hd na h1, zq_kr_m hd nb h1]; omega
            · have hl' : (O b).toInt < (O a).toInt := by
                have h2 : ¬ (O a).toInt < (O b).toInt := fun z => hl (Int32.lt_iff_toInt_lt.mpr z)
                have h3 : ¬ (O a).toInt = (O b).toInt := fun z => ho (Int32.toInt_inj.mp z)
                omega
              by_cases h1 : d = 1
              · refine Or.inr (Or.inr ⟨?_, Or.inr ⟨hp', ?_⟩⟩)
                · unfold zq_cmp; rw [if_pos hp, if_neg hd, if_pos na, if_pos nb, if_neg ho, if_neg hl, if_pos h1]
                · rw [zq_kr_n hd na h1, zq_kr_n hd nb h1]; exact hl'
              · refine Or.inl ⟨?_, Or.inr ⟨hp', ?_⟩⟩
                · unfold zq_cmp; rw [if_pos hp, if_neg hd, if_pos na, if_pos nb, if_neg ho, if_neg hl, if_neg h1]
                · rw [zq_kr_m hd na h1, zq_kr_m hd nb h1]; omega
        · have hb := zq_kr_b (O := O) (N := N) (nl := nl) hd na
          by_cases h1 : nl = 1
          · refine Or.inr (Or.inr ⟨?_, Or.inr ⟨hp', ?_⟩⟩)
            · unfold zq_cmp; rw [if_pos hp, if_neg hd, if_pos na, if_neg nb, if_pos h1]
            · rw [zq_kr_f hd nb h1]; exact hb.1
          · refine Or.inl ⟨?_, Or.inr ⟨hp', ?_⟩⟩
            · unfold zq_cmp; rw [if_pos hp, if_neg hd, if_pos na, if_neg nb, if_neg h1]
            · rw [zq_kr_l hd nb h1]; exact hb.2
      · by_cases nb : N b = 0
        · have hb := zq_kr_b (O := O) (N := N) (nl := nl) hd nb
          by_cases h1 : nl = 1
          · refine Or.inl ⟨?_, Or.inr ⟨hp', ?_⟩⟩
            · unfold zq_cmp; rw [if_pos hp, if_neg hd, if_neg na, if_pos nb, if_pos h1]
            · rw [zq_kr_f hd na h1]; exact hb.1
          · refine Or.inr (Or.inr ⟨?_, Or.inr ⟨hp', ?_⟩⟩)
            · unfold zq_cmp; rw [if_pos hp, if_neg hd, if_neg na, if_pos nb, if_neg h1]
            · rw [zq_kr_l hd na h1]; exact hb.2
        · refine Or.inr (Or.inl ⟨?_, hp', ?_⟩)
          · unfold zq_cmp; rw [if_pos hp, if_neg hd, if_neg na, if_neg nb]
          · by_cases h1 : nl = 1
            · rw [zq_kr_f hd na h1, zq_kr_f hd nb h1]
            · rw [zq_kr_l hd na h1, zq_kr_l hd nb h1]
  · by_cases hl : P a < P b
    · refine Or.inl ⟨?_, Or.inl (Int32.lt_iff_toInt_lt.mp hl)⟩
      unfold zq_cmp; rw [if_neg hp, if_pos hl]
    · refine Or.inr (Or.inr ⟨?_, Or.inl ?_⟩)
      · unfold zq_cmp; rw [if_neg hp, if_neg hl]
      · have h2 : ¬ (P a).toInt < (P b).toInt := fun z => hl (Int32.lt_iff_toInt_lt.mpr z)
        have h3 : ¬ (P a).toInt = (P b).toInt := fun z => hp (Int32.toInt_inj.mp z)
        omega
theorem zq_m1lt : (-1 : Int32) < 0 := by decide
theorem zq_1lt : ¬ (1 : Int32) < 0 := by decide
theorem zq_m1ne : ¬ (-1 : Int32) = 0 := by decide
def zq_bef (c : Nat → Nat → Int32) (a b : Nat) : Bool := if c a b = 0 then decide (a < b) else decide (c a b < 0)
theorem zq_bef_i (a b : Nat) : zq_bef (zq_cmp P O N d nl) a b = true ↔ ((P a).toInt < (P b).toInt ∨ ((P a).toInt = (P b).toInt ∧ (zq_kr O N d nl a < zq_kr O N d nl b ∨ (zq_kr O N d nl a = zq_kr O N d nl b ∧ a < b)))) := by
  rcases zq_ck P O N d nl a b with ⟨h, g⟩ | ⟨h, g1, g2⟩ | ⟨h, g⟩
  · unfold zq_bef
    rw [h, if_neg zq_m1ne, decide_eq_true_eq]
    exact ⟨fun _ => by omega, fun _ => zq_m1lt⟩
  · unfold zq_bef
    rw [h, if_pos rfl, decide_eq_true_eq]
    omega
  · unfold zq_bef
    rw [h, if_neg zq_n10, decide_eq_true_eq]
    exact ⟨fun z => absurd z zq_1lt, fun z => by omega⟩
/-- what the positions need of the order -/
def zq_Or (c : Nat → Nat → Int32) : Prop := (∀ a, zq_bef c a a = false) ∧ (∀ a b e, zq_bef c a b = true → zq_bef c b e = true → zq_bef c a e = true) ∧ (∀ a b, zq_bef c a b = false → a = b ∨ zq_bef c b a = true)
theorem zq_or : zq_Or (zq_cmp P O N d nl) := by
  refine ⟨fun a => ?_, fun a b e h1 h2 => ?_, fun a b h => ?_⟩
  · apply Bool.eq_false_iff.mpr
    intro h
    have := (zq_bef_i a a).mp h
    omega
  · have g1 := (zq_bef_i a b).mp h1
    have g2 := (zq_bef_i b e).mp h2
    apply (zq_bef_i a e).mpr
    omega
  · have g : ¬ ((P a).toInt < (P b).toInt ∨ ((P a).toInt = (P b).toInt ∧ (zq_kr O N d nl a < zq_kr O N d nl b ∨ (zq_kr O N d nl a = zq_kr O N d nl b ∧ a < b)))) := by
      intro z
      have := (zq_bef_i a b).mpr z
      rw [h] at this
      cases this
    by_cases e : a = b
    · exact Or.inl e
    · refine Or.inr ((zq_bef_i b a).mpr ?_)
      omega
def zq_pp (P : Nat → Int32) (c : Nat → Nat → Int32) (r : Nat) : Nat → Bool := fun s => decide (P s = P r) && zq_bef c s r
def zq_pos (P : Nat → Int32) (c : Nat → Nat → Int32) (n r : Nat) : Nat := zq_cn (zq_pp P c r) n
theorem zq_pos_l {c : Nat → Nat → Int32} (hc : zq_Or c) {n s t : Nat} (hs : s < n) (e : P s = P t) (h : zq_bef c s t = true) : zq_pos P c n s < zq_pos P c n t := by
  refine zq_cn_smono (t := s) ?_ ?_ n ?_ hs
  · simp [zq_pp, hc.1 s]
  · simp [zq_pp, e, h]
  · intro x hx g
    simp only [zq_pp, Bool.and_eq_true, decide_eq_true_eq] at g ⊢
    exact ⟨g.1.trans e, hc.2.1 x s t g.2 h⟩
theorem zq_pos_i {c : Nat → Nat → Int32} (hc : zq_Or c) {n s t : Nat} (hs : s < n) (ht : t < n) (e : P s = P t) : zq_bef c s t = true ↔ zq_pos P c n s < zq_pos P c n t := by
  constructor
  · exact zq_pos_l hc hs e
  · intro h
    cases g : zq_bef c s t
    · rcases hc.2.2 s t g with k | k
      · rw [k] at h; omega
      · have := zq_pos_l hc ht e.symm k
        omega
    · rfl
theorem zq_pos_le (P : Nat → Int32) (c : Nat → Nat → Int32) (n r : Nat) : zq_pos P c n r ≤ n := zq_cn_le _ n
def zq_rb (c : Nat → Nat → Int32) (n r : Nat) : Nat := zq_cn (fun s => zq_bef c s r) n
theorem zq_rb_lt {c : Nat → Nat → Int32} (hc : zq_Or c) {n r : Nat} (h : r < n) : zq_rb c n r < n := zq_cn_lt (p := fun s => zq_bef c s r) (hc.1 r) n h
end ZQB
end
section
section ZQC
/-! longs of ints -/
theorem zq_i_sub (a b : Int32) : (a.toInt64 - b.toInt64).toInt = a.toInt - b.toInt := by
  have h1 := Int32.le_toInt a
  have h2 := Int32.toInt_lt a
  have h3 := Int32.le_toInt b
  have h4 := Int32.toInt_lt b
  rw [Int64.toInt_sub, Int32.toInt_toInt64, Int32.toInt_toInt64]
  exact Int.bmod_eq_of_le (by omega) (by omega)
theorem zq_i_add (a b : Int32) : (a.toInt64 + b.toInt64).toInt = a.toInt + b.toInt := by
  have h1 := Int32.le_toInt a
  have h2 := Int32.toInt_lt a
  have h3 := Int32.le_toInt b
  have h4 := Int32.toInt_lt b
  rw [Int64.toInt_add, Int32.toInt_toInt64, Int32.toInt_toInt64]
  exact Int.bmod_eq_of_le (by omega) (by omega)
theorem zq_i_neg (a : Int32) : (-a.toInt64).toInt = -a.toInt := by
  have h1 := Int32.le_toInt a
  have h2 := Int32.toInt_lt a
  rw [Int64.toInt_neg, Int32.toInt_toInt64]
  exact Int.bmod_eq_of_le (by omega) (by omega)
theorem zq_i_nsub (a b : Int32) : (-(a.toInt64 - b.toInt64)).toInt = b.toInt - a.toInt := by
  have h1 := Int32.le_toInt a
  have h2 := Int32.toInt_lt a
  have h3 := Int32.le_toInt b
  have h4 := Int32.toInt_lt b
  rw [Int64.toInt_neg, zq_i_sub]
  rw [Int.bmod_eq_of_le (by omega) (by omega)]
  omega
/-! the frame, as the reference asks -/
def zq_ys (c : Nat → Nat → Int32) (q O N : Nat → Int32) (d md sk so : Int32) (s r : Nat) : Bool :=
  if sk = 0 then true
  else if md = 0 then
    (if sk = 1 then decide ((q r).toInt64 - so.toInt64 ≤ (q s).toInt64)
    else if sk = 3 then decide ((q r).toInt64 + so.toInt64 ≤ (q s).toInt64)
    else decide ((q r).toInt64 ≤ (q s).toInt64))
  else if sk = 2 then decide (0 ≤ c s r)
  else if N r = 0 then
    (if N s = 0 then
      (if d = 1 then (if sk = 1 then decide ((O r).toInt64 - so.toInt64 ≤ (O s).toInt64) else decide ((O r).toInt64 + so.toInt64 ≤ (O s).toInt64))
      else (if sk = 1 then decide ((O s).toInt64 ≤ (O r).toInt64 + so.toInt64) else decide ((O s).toInt64 ≤ (O r).toInt64 - so.toInt64)))
    else false)
  else decide (0 ≤ c s r)
def zq_ye (c : Nat → Nat → Int32) (q O N : Nat → Int32) (d md ek eo : Int32) (s r : Nat) : Bool :=
  if ek = 4 then true
  else if md = 0 then
    (if ek = 1 then decide ((q s).toInt64 ≤ (q r).toInt64 - eo.toInt64)
    else if ek = 3 then decide ((q s).toInt64 ≤ (q r).toInt64 + eo.toInt64)
    else decide ((q s).toInt64 ≤ (q r).toInt64))
  else if ek = 2 then decide (c s r ≤ 0)
  else if N r = 0 then
    (if N s = 0 then
      (if d = 1 then (if ek = 1 then decide ((O s).toInt64 ≤ (O r).toInt64 - eo.toInt64) else decide ((O s).toInt64 ≤ (O r).toInt64 + eo.toInt64))
      else (if ek = 1 then decide ((O r).toInt64 + eo.toInt64 ≤ (O s).toInt64) else decide ((O r).toInt64 - eo.toInt64 ≤ (O s).toInt64)))
    else false)
  else decide (c s r ≤ 0)
/-! .. and as the class does -/
def zq_to (k : Int32) : Bool := decide (k = 1) || decide (k = 3)
def zq_pe (md k : Int32) (N : Nat → Int32) (r : Nat) : Bool := decide (md = 1) && (!(zq_to k) || !(decide (N r = 0)))
def zq_hd (md : Int32) (N : Nat → Int32) (s : Nat) : Bool := decide (md = 0) || decide (N s = 0)
def zq_di (q O : Nat → Int32) (d md : Int32) (s r : Nat) : Int64 :=
  if md = 0 then (q s).toInt64 - (q r).toInt64 else if d = 2 then -((O s).toInt64 - (O r).toInt64) else (O s).toInt64 - (O r).toInt64
def zq_re (k o : Int32) : Int64 := if k = 1 then -o.toInt64 else o.toInt64
def zq_xs (c : Nat → Nat → Int32) (q O N : Nat → Int32) (d md sk so : Int32) (s r : Nat) : Bool :=
  if sk = 0 then true else if zq_pe md sk N r = true then decide (0 ≤ c s r) else zq_hd md N s && decide (zq_re sk so ≤ zq_di q O d md s r)
def zq_xe (c : Nat → Nat → Int32) (q O N : Nat → Int32) (d md ek eo : Int32) (s r : Nat) : Bool :=
  if ek = 4 then true else if zq_pe md ek N r = true then decide (c s r ≤ 0) else zq_hd md N s && decide (zq_di q O d md s r ≤ zq_re ek eo)
def zq_to' (k : Int32) : Prop := k = 1 ∨ k = 3
/-- the specification's ranges: direction, mode, kinds; CURRENT ROW has offset 0 -/
def zq_Sp (d md sk so ek eo : Int32) : Prop := (d = 0 ∨ d = 1 ∨ d = 2) ∧ (md = 0 ∨ md = 1) ∧ (sk = 0 ∨ sk = 1 ∨ sk = 2 ∨ sk = 3) ∧ (sk = 2 → so = 0) ∧ (ek = 1 ∨ ek = 2 ∨ ek = 3 ∨ ek = 4) ∧ (ek = 2 → eo = 0)
theorem zq_z32 : (0 : Int32).toInt = 0 := by decide
theorem zq_n01 : ¬ (0 : Int32) = 1 := by decide
theorem zq_n21 : ¬ (2 : Int32) = 1 := by decide
theorem zq_n31 : ¬ (3 : Int32) = 1 := by decide
theorem zq_n02 : ¬ (0 : Int32) = 2 := by decide
theorem zq_n12 : ¬ (1 : Int32) = 2 := by decide
theorem zq_n13 : ¬ (1 : Int32) = 3 := by decide
theorem zq_n14 : ¬ (1 : Int32) = 4 := by decide
theorem zq_n20 : ¬ (2 : Int32) = 0 := by decide
theorem zq_n23 : ¬ (2 : Int32) = 3 := by decide
theorem zq_n24 : ¬ (2 : Int32) = 4 := by decide
theorem zq_n30 : ¬ (3 : Int32) = 0 := by decide
theorem zq_n32 : ¬ (3 : Int32) = 2 := by decide
theorem zq_n34 : ¬ (3 : Int32) = 4 := by decide
variable {c : Nat → Nat → Int32} {q O N : Nat → Int32} {d md k o : Int32} {s r : Nat}
theorem zq_pe_0 : zq_pe 0 k N r = false := by simp [zq_pe, zq_n01]
theorem zq_pe_n1 (nr : N r = 0) : zq_pe md 1 N r = false := by simp [zq_pe, zq_to, nr]
theorem zq_pe_n3 (nr : N r = 0) : zq_pe md 3 N r = false := by simp [zq_pe, zq_to, nr]
theorem zq_pe_t (nr : ¬ N r = 0) : zq_pe 1 k N r = true := by simp [zq_pe, nr]
theorem zq_pe_2 : zq_pe 1 2 N r = true := by simp [zq_pe, zq_to, zq_n21, zq_n23]
theorem zq_hd_0 : zq_hd 0 N s = true := by simp [zq_hd]
theorem zq_hd_t (ns : N s = 0) : zq_hd md N s = true := by simp [zq_hd, ns]
theorem zq_hd_f (ns : ¬ N s = 0) : zq_hd 1 N s = false := by simp [zq_hd, ns, zq_n10]
theorem zq_di_0 : zq_di q O d 0 s r = (q s).toInt64 - (q r).toInt64 := by unfold zq_di; rw [if_pos rfl]
theorem zq_di_1 : zq_di q O 1 1 s r = (O s).toInt64 - (O r).toInt64 := by unfold zq_di; rw [if_neg zq_n10, if_neg zq_n12]
theorem zq_di_2 : zq_di q O 2 1 s r = -((O s).toInt64 - (O r).toInt64) := by unfold zq_di; rw [if_neg zq_n10, if_pos rfl]
theorem zq_re_1 : zq_re 1 o = -o.toInt64 := by unfold zq_re; rw [if_pos rfl]
theorem zq_re_2 : zq_re 2 o = o.toInt64 := by unfold zq_re; rw [if_neg zq_n21]
theorem zq_re_3 : zq_re 3 o = o.toInt64 := by unfold zq_re; rw [if_neg zq_n31]
theorem zq_Bft : ¬ (false = true) := by decide
theorem zq_xs_p (h0 : ¬ k = 0) (hp : zq_pe md k N r = true) : zq_xs c q O N d md k o s r = decide (0 ≤ c s r) := by unfold zq_xs; rw [if_neg h0, if_pos hp]
theorem zq_xs_d (h0 : ¬ k = 0) (hp : zq_pe md k N r = false) (hh : zq_hd md N s = true) : zq_xs c q O N d md k o s r = decide (zq_re k o ≤ zq_di q O d md s r) := by unfold zq_xs; rw [if_neg h0, hp, if_neg zq_Bft, hh, Bool.true_and]
theorem zq_xs_f (h0 : ¬ k = 0) (hp : zq_pe md k N r = false) (hh : zq_hd md N s = false) : zq_xs c q O N d md k o s r = false := by unfold zq_xs; rw [if_neg h0, hp, if_neg zq_Bft, hh, Bool.false_and]
theorem zq_ys_01 : zq_ys c q O N d 0 1 o s r = decide ((q r).toInt64 - o.toInt64 ≤ (q s).toInt64) := by unfold zq_ys; rw [if_neg zq_n10, if_pos rfl, if_pos rfl]
theorem zq_ys_03 : zq_ys c q O N d 0 3 o s r = decide ((q r).toInt64 + o.toInt64 ≤ (q s).toInt64) := by unfold zq_ys; rw [if_neg zq_n30, if_pos rfl, if_neg zq_n31, if_pos rfl]
theorem zq_ys_02 : zq_ys c q O N d 0 2 o s r = decide ((q r).toInt64 ≤ (q s).toInt64) := by unfold zq_ys; rw [if_neg zq_n20, if_pos rfl, if_neg zq_n21, if_neg zq_n23]
theorem zq_ys_12 : zq_ys c q O N d 1 2 o s r = decide (0 ≤ c s r) := by unfold zq_ys; rw [if_neg zq_n20, if_neg zq_n10, if_pos rfl]
theorem zq_ys_11n (nr : ¬ N r = 0) : zq_ys c q O N d 1 1 o s r = decide (0 ≤ c s r) := by unfold zq_ys; rw [if_neg zq_n10, if_neg zq_n10, if_neg zq_n12, if_neg nr]
theorem zq_ys_11f (nr : N r = 0) (ns : ¬ N s = 0) : zq_ys c q O N d 1 1 o s r = false := by unfold zq_ys; rw [if_neg zq_n10, if_neg zq_n10, if_neg zq_n12, if_pos nr, if_neg ns]
theorem zq_ys_111 (nr : N r = 0) (ns : N s = 0) : zq_ys c q O N 1 1 1 o s r = decide ((O r).toInt64 - o.toInt64 ≤ (O s).toInt64) := by unfold zq_ys; rw [if_neg zq_n10, if_neg zq_n10, if_neg zq_n12, if_pos nr, if_pos ns, if_pos rfl, if_pos rfl]
theorem zq_ys_112 (nr : N r = 0) (ns : N s = 0) : zq_ys c q O N 2 1 1 o s r = decide ((O s).toInt64 ≤ (O r).toInt64 + o.toInt64) := by unfold zq_ys; rw [if_neg zq_n10, if_neg zq_n10, if_neg zq_n12, if_pos nr, if_pos ns, if_neg zq_n21, if_pos rfl]
theorem zq_ys_13n (nr : ¬ N r = 0) : zq_ys c q O N d 1 3 o s r = decide (0 ≤ c s r) := by unfold zq_ys; rw [if_neg zq_n30, if_neg zq_n10, if_neg zq_n32, if_neg nr]
theorem zq_ys_13f (nr : N r = 0) (ns : ¬ N s = 0) : zq_ys c q O N d 1 3 o s r = false := by unfold zq_ys; rw [if_neg zq_n30, if_neg zq_n10, if_neg zq_n32, if_pos nr, if_neg ns]
theorem zq_ys_131 (nr : N r = 0) (ns : N s = 0) : zq_ys c q O N 1 1 3 o s r = decide ((O r).toInt64 + o.toInt64 ≤ (O s).toInt64) := by unfold zq_ys; rw [if_neg zq_n30, if_neg zq_n10, if_neg zq_n32, if_pos nr, if_pos ns, if_pos rfl, if_neg zq_n31]
theorem zq_ys_132 (nr : N r = 0) (ns : N s = 0) : zq_ys c q O N 2 1 3 o s r = decide ((O s).toInt64 ≤ (O r).toInt64 - o.toInt64) := by unfold zq_ys; rw [if_neg zq_n30, if_neg zq_n10, if_neg zq_n32, if_pos nr, if_pos ns, if_neg zq_n21, if_neg zq_n31]
theorem zq_xs_y (hd : d = 0 ∨ d = 1 ∨ d = 2) (hm : md = 0 ∨ md = 1) (hk : k = 0 ∨ k = 1 ∨ k = 2 ∨ k = 3) (h2 : k = 2 → o = 0) (hn : md = 1 → d = 0 → ¬ k = 1 ∧ ¬ k = 3) (s r : Nat) : zq_xs c q O N d md k o s r = zq_ys c q O N d md k o s r := by
  rcases hk with rfl | rfl | rfl | rfl
  · unfold zq_xs zq_ys; rw [if_pos rfl, if_pos rfl]
  · rcases hm with rfl | rfl
    · rw [zq_xs_d zq_n10 zq_pe_0 zq_hd_0, zq_ys_01, zq_re_1, zq_di_0, decide_eq_decide]
      simp only [Int64.le_iff_toInt_le, zq_i_neg, zq_i_nsub, zq_i_sub, zq_i_add, Int32.toInt_toInt64, zq_z32]
      omega
    · by_cases nr : N r = 0
      · by_cases ns : N s = 0
        · rcases hd with rfl | rfl | rfl
          · exact absurd rfl (hn rfl rfl).1
          · rw [zq_xs_d zq_n10 (zq_pe_n1 nr) (zq_hd_t ns), zq_ys_111 nr ns, zq_re_1, zq_di_1, decide_eq_decide]
            simp only [Int64.le_iff_toInt_le, zq_i_neg, zq_i_nsub, zq_i_sub, zq_i_add, Int32.toInt_toInt64, zq_z32]
            omega
          · rw [zq_xs_d zq_n10 (zq_pe_n1 nr) (zq_hd_t ns), zq_ys_112 nr ns, zq_re_1, zq_di_2, decide_eq_decide]
            simp only [Int64.le_iff_toInt_le, zq_i_neg, zq_i_nsub, zq_i_sub, zq_i_add, Int32.toInt_toInt64, zq_z32]
            omega
        · rw [zq_xs_f zq_n10 (zq_pe_n1 nr) (zq_hd_f ns), zq_ys_11f nr ns]
      · rw [zq_xs_p zq_n10 (zq_pe_t nr), zq_ys_11n nr]
  · rcases hm with rfl | rfl
    · cases h2 rfl
      rw [zq_xs_d zq_n20 zq_pe_0 zq_hd_0, zq_ys_02, zq_re_2, zq_di_0, decide_eq_decide]
      simp only [Int64.le_iff_toInt_le, zq_i_neg, zq_i_nsub, zq_i_sub, zq_i_add, Int32.toInt_toInt64, zq_z32]
      omega
    · rw [zq_xs_p zq_n20 zq_pe_2, zq_ys_12]
  · rcases hm with rfl | rfl
    · rw [zq_xs_d zq_n30 zq_pe_0 zq_hd_0, zq_ys_03, zq_re_3, zq_di_0, decide_eq_decide]
      simp only [Int64.le_iff_toInt_le, zq_i_neg, zq_i_nsub, zq_i_sub, zq_i_add, Int32.toInt_toInt64, zq_z32]
      omega
    · by_cases nr : N r = 0
      · by_cases ns : N s = 0
        · rcases hd with rfl | rfl | rfl
          · exact absurd rfl (hn rfl rfl).2
          · rw [zq_xs_d zq_n30 (zq_pe_n3 nr) (zq_hd_t ns), zq_ys_131 nr ns, zq_re_3, zq_di_1, decide_eq_decide]
            simp only [Int64.le_iff_toInt_le, zq_i_neg, zq_i_nsub, zq_i_sub, zq_i_add, Int32.toInt_toInt64, zq_z32]
            omega
          · rw [zq_xs_d zq_n30 (zq_pe_n3 nr) (zq_hd_t ns), zq_ys_132 nr ns, zq_re_3, zq_di_2, decide_eq_decide]
            simp only [Int64.le_iff_toInt_le, zq_i_neg, zq_i_nsub, zq_i_sub, zq_i_add, Int32.toInt_toInt64, zq_z32]
            omega
        · rw [zq_xs_f zq_n30 (zq_pe_n3 nr) (zq_hd_f ns), zq_ys_13f nr ns]
      · rw [zq_xs_p zq_n30 (zq_pe_t nr), zq_ys_13n nr]
theorem zq_xe_p (h0 : ¬ k = 4) (hp : zq_pe md k N r = true) : zq_xe c q O N d md k o s r = decide (c s r ≤ 0) := by unfold zq_xe; rw [if_neg h0, if_pos hp]
theorem zq_xe_d (h0 : ¬ k = 4) (hp : zq_pe md k N r = false) (hh : zq_hd md N s = true) : zq_xe c q O N d md k o s r = decide (zq_di q O d md s r ≤ zq_re k o) := by unfold zq_xe; rw [if_neg h0, hp, if_neg zq_Bft, hh, Bool.true_and]
theorem zq_xe_f (h0 : ¬ k = 4) (hp : zq_pe md k N r = false) (hh : zq_hd md N s = false) : zq_xe c q O N d md k o s r = false := by unfold zq_xe; rw [if_neg h0, hp, if_neg zq_Bft, hh, Bool.false_and]
theorem zq_ye_01 : zq_ye c q O N d 0 1 o s r = decide ((q s).toInt64 ≤ (q r).toInt64 - o.toInt64) := by unfold zq_ye; rw [if_neg zq_n14, if_pos rfl, if_pos rfl]
theorem zq_ye_03 : zq_ye c q O N d 0 3 o s r = decide ((q s).toInt64 ≤ (q r).toInt64 + o.toInt64) := by unfold zq_ye; rw [if_neg zq_n34, if_pos rfl, if_neg zq_n31, if_pos rfl]
theorem zq_ye_02 : zq_ye c q O N d 0 2 o s r = decide ((q s).toInt64 ≤ (q r).toInt64) := by unfold zq_ye; rw [if_neg zq_n24, if_pos rfl, if_neg zq_n21, if_neg zq_n23]
theorem zq_ye_12 : zq_ye c q O N d 1 2 o s r = decide (c s r ≤ 0) := by unfold zq_ye; rw [if_neg zq_n24, if_neg zq_n10, if_pos rfl]
theorem zq_ye_11n (nr : ¬ N r = 0) : zq_ye c q O N d 1 1 o s r = decide (c s r ≤ 0) := by unfold zq_ye; rw [if_neg zq_n14, if_neg zq_n10, if_neg zq_n12, if_neg nr]
theorem zq_ye_11f (nr : N r = 0) (ns : ¬ N s = 0) : zq_ye c q O N d 1 1 o s r = false := by unfold zq_ye; rw [if_neg zq_n14, if_neg zq_n10, if_neg zq_n12, if_pos nr, if_neg ns]
theorem zq_ye_111 (nr : N r = 0) (ns : N s = 0) : zq_ye c q O N 1 1 1 o s r = decide ((O s).toInt64 ≤ (O r).toInt64 - o.toInt64) := by unfold zq_ye; rw [if_neg zq_n14, if_neg zq_n10, if_neg zq_n12, if_pos nr, if_pos ns, if_pos rfl, if_pos rfl]
theorem zq_ye_112 (nr : N r = 0) (ns : N s = 0) : zq_ye c q O N 2 1 1 o s r = decide ((O r).toInt64 + o.toInt64 ≤ (O s).toInt64) := by unfold zq_ye; rw [if_neg zq_n14, if_neg zq_n10, if_neg zq_n12, if_pos nr, if_pos ns, if_neg zq_n21, if_pos rfl]
theorem zq_ye_13n (nr : ¬ N r = 0) : zq_ye c q O N d 1 3 o s r = decide (c s r ≤ 0) := by unfold zq_ye; rw [if_neg zq_n34, if_neg zq_n10, if_neg zq_n32, if_neg nr]
theorem zq_ye_13f (nr : N r = 0) (ns : ¬ N s = 0) : zq_ye c q O N d 1 3 o s r = false := by unfold zq_ye; rw [if_neg zq_n34, if_neg zq_n10, if_neg zq_n32, if_pos nr, if_neg ns]
theorem zq_ye_131 (nr : N r = 0) (ns : N s = 0) : zq_ye c q O N 1 1 3 o s r = decide ((O s).toInt64 ≤ (O r).toInt64 + o.toInt64) := by unfold zq_ye; rw [if_neg zq_n34, if_neg zq_n10, if_neg zq_n32, if_pos nr, if_pos ns, if_pos rfl, if_neg zq_n31]
theorem zq_ye_132 (nr : N r = 0) (ns : N s = 0) : zq_ye c q O N 2 1 3 o s r = decide ((O r).toInt64 - o.toInt64 ≤ (O s).toInt64) := by unfold zq_ye; rw [if_neg zq_n34, if_neg zq_n10, if_neg zq_n32, if_pos nr, if_pos ns, if_neg zq_n21, if_neg zq_n31]
theorem zq_xe_y (hd : d = 0 ∨ d = 1 ∨ d = 2) (hm : md = 0 ∨ md = 1) (hk : k = 4 ∨ k = 1 ∨ k = 2 ∨ k = 3) (h2 : k = 2 → o = 0) (hn : md = 1 → d = 0 → ¬ k = 1 ∧ ¬ k = 3) (s r : Nat) : zq_xe c q O N d md k o s r = zq_ye c q O N d md k o s r := by
  rcases hk with rfl | rfl | rfl | rfl
  · unfold zq_xe zq_ye; rw [if_pos rfl, if_pos rfl]
  · rcases hm with rfl | rfl
    · rw [zq_xe_d zq_n14 zq_pe_0 zq_hd_0, zq_ye_01, zq_re_1, zq_di_0, decide_eq_decide]
      simp only [Int64.le_iff_toInt_le, zq_i_neg, zq_i_nsub, zq_i_sub, zq_i_add, Int32.toInt_toInt64, zq_z32]
      omega
    · by_cases nr : N r = 0
      · by_cases ns : N s = 0
        · rcases hd with rfl | rfl | rfl
          · exact absurd rfl (hn rfl rfl).1
          · rw [zq_xe_d zq_n14 (zq_pe_n1 nr) (zq_hd_t ns), zq_ye_111 nr ns, zq_re_1, zq_di_1, decide_eq_decide]
            simp only [Int64.le_iff_toInt_le, zq_i_neg, zq_i_nsub, zq_i_sub, zq_i_add, Int32.toInt_toInt64, zq_z32]
            omega
          · rw [zq_xe_d zq_n14 (zq_pe_n1 nr) (zq_hd_t ns), zq_ye_112 nr ns, zq_re_1, zq_di_2, decide_eq_decide]
            simp only [Int64.le_iff_toInt_le, zq_i_neg, zq_i_nsub, zq_i_sub, zq_i_add, Int32.toInt_toInt64, zq_z32]
            omega
        · rw [zq_xe_f zq_n14 (zq_pe_n1 nr) (zq_hd_f ns), zq_ye_11f nr ns]
      · rw [zq_xe_p zq_n14 (zq_pe_t nr), zq_ye_11n nr]
  · rcases hm with rfl | rfl
    · cases h2 rfl
      rw [zq_xe_d zq_n24 zq_pe_0 zq_hd_0, zq_ye_02, zq_re_2, zq_di_0, decide_eq_decide]
      simp only [Int64.le_iff_toInt_le, zq_i_neg, zq_i_nsub, zq_i_sub, zq_i_add, Int32.toInt_toInt64, zq_z32]
      omega
    · rw [zq_xe_p zq_n24 zq_pe_2, zq_ye_12]
  · rcases hm with rfl | rfl
    · rw [zq_xe_d zq_n34 zq_pe_0 zq_hd_0, zq_ye_03, zq_re_3, zq_di_0, decide_eq_decide]
      simp only [Int64.le_iff_toInt_le, zq_i_neg, zq_i_nsub, zq_i_sub, zq_i_add, Int32.toInt_toInt64, zq_z32]
      omega
    · by_cases nr : N r = 0
      · by_cases ns : N s = 0
        · rcases hd with rfl | rfl | rfl
          · exact absurd rfl (hn rfl rfl).2
          · rw [zq_xe_d zq_n34 (zq_pe_n3 nr) (zq_hd_t ns), zq_ye_131 nr ns, zq_re_3, zq_di_1, decide_eq_decide]
            simp only [Int64.le_iff_toInt_le, zq_i_neg, zq_i_nsub, zq_i_sub, zq_i_add, Int32.toInt_toInt64, zq_z32]
            omega
          · rw [zq_xe_d zq_n34 (zq_pe_n3 nr) (zq_hd_t ns), zq_ye_132 nr ns, zq_re_3, zq_di_2, decide_eq_decide]
            simp only [Int64.le_iff_toInt_le, zq_i_neg, zq_i_nsub, zq_i_sub, zq_i_add, Int32.toInt_toInt64, zq_z32]
            omega
        · rw [zq_xe_f zq_n34 (zq_pe_n3 nr) (zq_hd_f ns), zq_ye_13f nr ns]
      · rw [zq_xe_p zq_n34 (zq_pe_t nr), zq_ye_13n nr]
/-! exclusion and the frame -/
def zq_xx (ex : Int32) (c : Nat → Nat → Int32) (s r : Nat) : Bool :=
  if ex = 1 then decide (s = r) else if ex = 2 then decide (c s r = 0) else if ex = 3 then (!(decide (s = r)) && decide (c s r = 0)) else false
def zq_xf (P : Nat → Int32) (c : Nat → Nat → Int32) (q O N : Nat → Int32) (d md ex sk so ek eo : Int32) (r s : Nat) : Bool :=
  decide (P s = P r) && (zq_xs c q O N d md sk so s r && (zq_xe c q O N d md ek eo s r && !(zq_xx ex c s r)))
def zq_yf (P : Nat → Int32) (c : Nat → Nat → Int32) (q O N : Nat → Int32) (d md ex sk so ek eo : Int32) (r s : Nat) : Bool :=
  decide (P s = P r) && (zq_ys c q O N d md sk so s r && (zq_ye c q O N d md ek eo s r && !(zq_xx ex c s r)))
theorem zq_xf_y {P : Nat → Int32} {ex sk so ek eo : Int32} (h : zq_Sp d md sk so ek eo) (hn : md = 1 → d = 0 → (¬ sk = 1 ∧ ¬ sk = 3) ∧ (¬ ek = 1 ∧ ¬ ek = 3)) (r : Nat) :
    zq_xf P c q O N d md ex sk so ek eo r = zq_yf P c q O N d md ex sk so ek eo r := by
  obtain ⟨h1, h2, h3, h4, h5, h6⟩ := h
  funext s
  unfold zq_xf zq_yf
  rw [zq_xs_y h1 h2 h3 h4 (fun a b => (hn a b).1), zq_xe_y h1 h2 (by rcases h5 with z | z | z | z <;> simp [z]) h6 (fun a b => (hn a b).2)]
theorem zq_yf_P {P : Nat → Int32} {ex sk so ek eo : Int32} {r s : Nat} (h : zq_yf P c q O N d md ex sk so ek eo r s = true) : P s = P r := by
  unfold zq_yf at h
  rw [Bool.and_eq_true, decide_eq_true_eq] at h
  exact h.1
end ZQC
end
section
section ZQD
/-! what a function answers for a row: NULL or not, and the number -/
def zq_q (n : Nat) (P : Nat → Int32) (c : Nat → Nat → Int32) (i : Nat) : Int32 := nI (zq_pos P c n i)
def zq_nv (fr : Nat → Bool) (M : Nat → Int32) : Nat → Bool := fun s => fr s && decide (M s = 0)
def zq_rk (P : Nat → Int32) (c : Nat → Nat → Int32) (r : Nat) : Nat → Bool := fun s => decide (P s = P r) && decide (c s r < 0)
def zq_ld (c : Nat → Nat → Int32) (s : Nat) : Bool := (zq_fd (fun t => decide (c t s = 0)) s).isNone
def zq_dr (P : Nat → Int32) (c : Nat → Nat → Int32) (r : Nat) : Nat → Bool := fun s => zq_rk P c r s && zq_ld c s
def zq_tg (P q : Nat → Int32) (r : Nat) (t : Int64) : Nat → Bool := fun s => decide (P s = P r) && decide ((q s).toInt64 = t)
def zq_one (V M : Nat → Int32) : Option Nat → Bool × Int64
  | none => (true, 0)
  | some b => if M b = 0 then (false, (V b).toInt64) else (true, 0)
theorem zq_one_n {V M : Nat → Int32} : zq_one V M none = (true, 0) := rfl
theorem zq_one_v {V M : Nat → Int32} {b : Nat} (h : M b = 0) : zq_one V M (some b) = (false, (V b).toInt64) := if_pos h
theorem zq_one_w {V M : Nat → Int32} {b : Nat} (h : ¬ M b = 0) : zq_one V M (some b) = (true, 0) := if_neg h
def zq_Z (x : Bool × Int64) : Prop := x.1 = true → x.2 = 0
theorem zq_Zf {v : Int64} : zq_Z (false, v) := fun h => by cases h
theorem zq_Z0 : zq_Z (true, 0) := fun _ => rfl
theorem zq_Zo {V M : Nat → Int32} (x : Option Nat) : zq_Z (zq_one V M x) := by
  cases x with
  | none => exact zq_Z0
  | some b =>
    by_cases h : M b = 0
    · rw [zq_one_v h]; exact zq_Zf
    · rw [zq_one_w h]; exact zq_Z0
def zq_an (n : Nat) (P V M : Nat → Int32) (c : Nat → Nat → Int32) (fr : Nat → Bool) (f arg : Int32) (r : Nat) : Bool × Int64 :=
  if f = 0 then (false, (zq_q n P c r).toInt64 + 1)
  else if f = 1 then (false, lN (zq_cn (zq_rk P c r) n + 1))
  else if f = 2 then (false, lN (zq_cn (zq_dr P c r) n + 1))
  else if f = 3 then zq_one V M (zq_fd (zq_tg P (zq_q n P c) r ((zq_q n P c r).toInt64 - arg.toInt64)) n)
  else if f = 4 then zq_one V M (zq_fd (zq_tg P (zq_q n P c) r ((zq_q n P c r).toInt64 + arg.toInt64)) n)
  else if f = 5 then zq_one V M (zq_ex fr (fun i b => zq_bef c i b) n)
  else if f = 6 then zq_one V M (zq_ex fr (fun i b => zq_bef c b i) n)
  else if f = 7 then (decide (zq_cn (zq_nv fr M) n = 0), if zq_cn (zq_nv fr M) n = 0 then 0 else zq_sm (zq_nv fr M) V n)
  else if f = 8 then (false, lN (zq_cn (zq_nv fr M) n))
  else if f = 9 then (false, lN (zq_cn fr n))
  else if f = 10 then zq_one V M (zq_ex (zq_nv fr M) (fun i b => decide (V i < V b)) n)
  else zq_one V M (zq_ex (zq_nv fr M) (fun i b => decide (V b < V i)) n)
variable {n r : Nat} {P V M : Nat → Int32} {c : Nat → Nat → Int32} {fr : Nat → Bool} {f arg : Int32}
theorem zq_an_0 : zq_an n P V M c fr 0 arg r = (false, (zq_q n P c r).toInt64 + 1) := by unfold zq_an; rw [if_pos rfl]
theorem zq_an_1 : zq_an n P V M c fr 1 arg r = (false, lN (zq_cn (zq_rk P c r) n + 1)) := by unfold zq_an; rw [if_neg (show ¬ (1 : Int32) = 0 by decide), if_pos rfl]
theorem zq_an_2 : zq_an n P V M c fr 2 arg r = (false, lN (zq_cn (zq_dr P c r) n + 1)) := by unfold zq_an; rw [if_neg (show ¬ (2 : Int32) = 0 by decide), if_neg (show ¬ (2 : Int32) = 1 by decide), if_pos rfl]
theorem zq_an_3 : zq_an n P V M c fr 3 arg r = zq_one V M (zq_fd (zq_tg P (zq_q n P c) r ((zq_q n P c r).toInt64 - arg.toInt64)) n) := by unfold zq_an; rw [if_neg (show ¬ (3 : Int32) = 0 by decide), if_neg (show ¬ (3 : Int32) = 1 by decide), if_neg (show ¬ (3 : Int32) = 2 by decide), if_pos rfl]
theorem zq_an_4 : zq_an n P V M c fr 4 arg r = zq_one V M (zq_fd (zq_tg P (zq_q n P c) r ((zq_q n P c r).toInt64 + arg.toInt64)) n) := by unfold zq_an; rw [if_neg (show ¬ (4 : Int32) = 0 by decide), if_neg (show ¬ (4 : Int32) = 1 by decide), if_neg (show ¬ (4 : Int32) = 2 by decide), if_neg (show ¬ (4 : Int32) = 3 by decide), if_pos rfl]
theorem zq_an_5 : zq_an n P V M c fr 5 arg r = zq_one V M (zq_ex fr (fun i b => zq_bef c i b) n) := by unfold zq_an; rw [if_neg (show ¬ (5 : Int32) = 0 by decide), if_neg (show ¬ (5 : Int32) = 1 by decide), if_neg (show ¬ (5 : Int32) = 2 by decide), if_neg (show ¬ (5 : Int32) = 3 by decide), if_neg (show ¬ (5 : Int32) = 4 by decide), if_pos rfl]
theorem zq_an_6 : zq_an n P V M c fr 6 arg r = zq_one V M (zq_ex fr (fun i b => zq_bef c b i) n) := by unfold zq_an; rw [if_neg (show ¬ (6 : Int32) = 0 by decide), if_neg (show ¬ (6 : Int32) = 1 by decide), if_neg (show ¬ (6 : Int32) = 2 by decide), if_neg (show ¬ (6 : Int32) = 3 by decide), if_neg (show ¬ (6 : Int32) = 4 by decide), if_neg (show ¬ (6 : Int32) = 5 by decide), if_pos rfl]
theorem zq_an_7 : zq_an n P V M c fr 7 arg r = (decide (zq_cn (zq_nv fr M) n = 0), if zq_cn (zq_nv fr M) n = 0 then 0 else zq_sm (zq_nv fr M) V n) := by unfold zq_an; rw [if_neg (show ¬ (7 : Int32) = 0 by decide), if_neg (show ¬ (7 : Int32) = 1 by decide), if_neg (show ¬ (7 : Int32) = 2 by decide), if_neg (show ¬ (7 : Int32) = 3 by decide), if_neg (show ¬ (7 : Int32) = 4 by decide), if_neg (show ¬ (7 : Int32) = 5 by decide), if_neg (show ¬ (7 : Int32) = 6 by decide), if_pos rfl]
theorem zq_an_8 : zq_an n P V M c fr 8 arg r = (false, lN (zq_cn (zq_nv fr M) n)) := by unfold zq_an; rw [if_neg (show ¬ (8 : Int32) = 0 by decide), if_neg (show ¬ (8 : Int32) = 1 by decide), if_neg (show ¬ (8 : Int32) = 2 by decide), if_neg (show ¬ (8 : Int32) = 3 by decide), if_neg (show ¬ (8 : Int32) = 4 by decide), if_neg (show ¬ (8 : Int32) = 5 by decide), if_neg (show ¬ (8 : Int32) = 6 by decide), if_neg (show ¬ (8 : Int32) = 7 by decide), if_pos rfl]
theorem zq_an_9 : zq_an n P V M c fr 9 arg r = (false, lN (zq_cn fr n)) := by unfold zq_an; rw [if_neg (show ¬ (9 : Int32) = 0 by decide), if_neg (show ¬ (9 : Int32) = 1 by decide), if_neg (show ¬ (9 : Int32) = 2 by decide), if_neg (show ¬ (9 : Int32) = 3 by decide), if_neg (show ¬ (9 : Int32) = 4 by decide), if_neg (show ¬ (9 : Int32) = 5 by decide), if_neg (show ¬ (9 : Int32) = 6 by decide), if_neg (show ¬ (9 : Int32) = 7 by decide), if_neg (show ¬ (9 : Int32) = 8 by decide), if_pos rfl]
theorem zq_an_10 : zq_an n P V M c fr 10 arg r = zq_one V M (zq_ex (zq_nv fr M) (fun i b => decide (V i < V b)) n) := by unfold zq_an; rw [if_neg (show ¬ (10 : Int32) = 0 by decide), if_neg (show ¬ (10 : Int32) = 1 by decide), if_neg (show ¬ (10 : Int32) = 2 by decide), if_neg (show ¬ (10 : Int32) = 3 by decide), if_neg (show ¬ (10 : Int32) = 4 by decide), if_neg (show ¬ (10 : Int32) = 5 by decide), if_neg (show ¬ (10 : Int32) = 6 by decide), if_neg (show ¬ (10 : Int32) = 7 by decide), if_neg (show ¬ (10 : Int32) = 8 by decide), if_neg (show ¬ (10 : Int32) = 9 by decide), if_pos rfl]
theorem zq_an_11 : zq_an n P V M c fr 11 arg r = zq_one V M (zq_ex (zq_nv fr M) (fun i b => decide (V b < V i)) n) := by unfold zq_an; rw [if_neg (show ¬ (11 : Int32) = 0 by decide), if_neg (show ¬ (11 : Int32) = 1 by decide), if_neg (show ¬ (11 : Int32) = 2 by decide), if_neg (show ¬ (11 : Int32) = 3 by decide), if_neg (show ¬ (11 : Int32) = 4 by decide), if_neg (show ¬ (11 : Int32) = 5 by decide), if_neg (show ¬ (11 : Int32) = 6 by decide), if_neg (show ¬ (11 : Int32) = 7 by decide), if_neg (show ¬ (11 : Int32) = 8 by decide), if_neg (show ¬ (11 : Int32) = 9 by decide), if_neg (show ¬ (11 : Int32) = 10 by decide)]
theorem zq_an_Z : zq_Z (zq_an n P V M c fr f arg r) := by
  unfold zq_an
  by_cases h0 : f = 0
  · rw [if_pos h0]; exact zq_Zf
  rw [if_neg h0]
  by_cases h1 : f = 1
  · rw [if_pos h1]; exact zq_Zf
  rw [if_neg h1]
  by_cases h2 : f = 2
  · rw [if_pos h2]; exact zq_Zf
  rw [if_neg h2]
  by_cases h3 : f = 3
  · rw [if_pos h3]; exact zq_Zo _
  rw [if_neg h3]
  by_cases h4 : f = 4
  · rw [if_pos h4]; exact zq_Zo _
  rw [if_neg h4]
  by_cases h5 : f = 5
  · rw [if_pos h5]; exact zq_Zo _
  rw [if_neg h5]
  by_cases h6 : f = 6
  · rw [if_pos h6]; exact zq_Zo _
  rw [if_neg h6]
  by_cases h7 : f = 7
  · rw [if_pos h7]; intro z; exact if_pos (of_decide_eq_true z)
  rw [if_neg h7]
  by_cases h8 : f = 8
  · rw [if_pos h8]; exact zq_Zf
  rw [if_neg h8]
  by_cases h9 : f = 9
  · rw [if_pos h9]; exact zq_Zf
  rw [if_neg h9]
  by_cases h10 : f = 10
  · rw [if_pos h10]; exact zq_Zo _
  rw [if_neg h10]
  exact zq_Zo _
theorem zq_mmx (k : Int64 → Int64 → Bool) (lt : Nat → Nat → Bool) (hk : ∀ i b, k (V i).toInt64 (V b).toInt64 = lt i b) : (decide (zq_cn (zq_nv fr M) n = 0), if zq_cn (zq_nv fr M) n = 0 then 0 else zq_mm (zq_nv fr M) V k n) = zq_one V M (zq_ex (zq_nv fr M) lt n) := by
  have e : lt = fun i b => k (V i).toInt64 (V b).toInt64 := by
    funext i b
    exact (hk i b).symm
  rw [e]
  have h := zq_mm_ex (f := zq_nv fr M) (V := V) (c := k) n
  cases g : zq_ex (zq_nv fr M) (fun i b => k (V i).toInt64 (V b).toInt64) n with
  | none =>
    rw [if_pos (h.2.mpr g), decide_eq_true (h.2.mpr g)]
    exact zq_one_n.symm
  | some b =>
    have h0 : ¬ zq_cn (zq_nv fr M) n = 0 := fun z => by rw [h.2.mp z] at g; cases g
    have hb := (zq_ex_lt n b g).2
    have hm : M b = 0 := by
      unfold zq_nv at hb
      rw [Bool.and_eq_true, decide_eq_true_eq] at hb
      exact hb.2
    rw [if_neg h0, decide_eq_false h0, h.1, g, zq_one_v hm]
    rfl
theorem zq_lt64 (a b : Int32) : decide (a.toInt64 < b.toInt64) = decide (a < b) := by
  rw [decide_eq_decide]; exact Int32.toInt64_lt
theorem zq_mn10 : (decide (zq_cn (zq_nv fr M) n = 0), if zq_cn (zq_nv fr M) n = 0 then 0 else zq_mm (zq_nv fr M) V (fun x m => decide (x < m)) n) = zq_an n P V M c fr 10 arg r := by
  rw [zq_an_10]
  exact zq_mmx _ _ (fun i b => zq_lt64 (V i) (V b))
theorem zq_mx11 : (decide (zq_cn (zq_nv fr M) n = 0), if zq_cn (zq_nv fr M) n = 0 then 0 else zq_mm (zq_nv fr M) V (fun x m => decide (m < x)) n) = zq_an n P V M c fr 11 arg r := by
  rw [zq_an_11]
  exact zq_mmx _ _ (fun i b => zq_lt64 (V b) (V i))
/-- first and last of the frame: by position, or by the order itself -/
theorem zq_qlt (hn : n < 2 ^ 31) (i b : Nat) : zq_q n P c i < zq_q n P c b ↔ zq_pos P c n i < zq_pos P c n b := by
  have h1 := zq_pos_le P c n i
  have h2 := zq_pos_le P c n b
  exact nI_ltI (by omega) (by omega)
theorem zq_qb (hn : n < 2 ^ 31) (hc : zq_Or c) {i b : Nat} (hi : i < n) (hb : b < n) (e : P i = P b) : decide (zq_q n P c i < zq_q n P c b) = zq_bef c i b := by
  cases g : zq_bef c i b
  · apply decide_eq_false
    intro z
    have := (zq_pos_i hc hi hb e).mpr ((zq_qlt hn i b).mp z)
    rw [g] at this
    cases this
  · apply decide_eq_true
    exact (zq_qlt hn i b).mpr ((zq_pos_i hc hi hb e).mp g)
theorem zq_fst (hn : n < 2 ^ 31) (hc : zq_Or c) (hf : ∀ s, fr s = true → P s = P r) : zq_ex fr (fun i b => decide (zq_q n P c i < zq_q n P c b)) n = zq_ex fr (fun i b => zq_bef c i b) n :=
  zq_ex_c n (fun i b hi hb fi fb => zq_qb hn hc hi hb ((hf i fi).trans (hf b fb).symm))
theorem zq_lst (hn : n < 2 ^ 31) (hc : zq_Or c) (hf : ∀ s, fr s = true → P s = P r) : zq_ex fr (fun i b => decide (zq_q n P c b < zq_q n P c i)) n = zq_ex fr (fun i b => zq_bef c b i) n :=
  zq_ex_c n (fun i b hi hb fi fb => zq_qb hn hc hb hi ((hf b fb).trans (hf i fi).symm))
end ZQD
end
section
section ZQE
/-! the reference's private methods -/
variable {cp d nl md ex sk so ek eo lf f arg : Int32} {P O V N M Z A F : Nat → Int32} {R : Nat → Int64} {n a b r s i : Nat}
theorem zq_in (h : a < 32) : vp_in (nI a) 32 := vp_in_nI h (by omega)
theorem zq_cl (h : a < 32) : (nI a).toNatClampNeg = a := nI_clamp (by omega)
theorem zy_cmp {post : Int32 → Prop} (ha : a < 32) (hb : b < 32) (hp : post (zq_cmp P O N d nl a b)) : wpY_cmp post (cp, nI n, d, nl, md, ex, sk, so, ek, eo, lf, P, O, V, N, M, R, Z) (nI a) (nI b) := by
  have ia := zq_in ha
  have ib := zq_in hb
  unfold wpY_cmp wY_cmp_65 wY_cmp_148
  dsimp only
  rw [zq_cl ha, zq_cl hb]
  unfold zq_cmp at hp
  refine ⟨ia, ib, br_c (fun h1 => br_c (fun h2 => zq_p hp ?_) (fun h2 => ⟨ia, br_c (fun h3 => ⟨ia, br_c (fun h4 => ⟨ib, br_c (fun h5 => ⟨ia, ib, br_c (fun h6 => zq_p hp ?_) (fun h6 => ⟨ia, ib, br_c (fun h7 => br_c (fun h8 => br_c (fun h9 => zq_p hp ?_) (fun h9 => absurd rfl h9)) (fun h8 => br_c (fun h9 => zq_p hp ?_) (fun h9 => absurd rfl h9))) (fun h7 => br_c (fun h8 => br_c (fun h9 => absurd h9 zq_n10) (fun h9 => zq_p hp ?_)) (fun h8 => br_c (fun h9 => absurd h9 zq_n10) (fun h9 => zq_p hp ?_)))⟩)⟩) (fun h5 => br_c (fun h6 => zq_p hp ?_) (fun h6 => zq_p hp ?_))⟩) (fun h4 => absurd h3 h4)⟩) (fun h3 => ⟨ib, br_c (fun h4 => ⟨ia, br_c (fun h5 => absurd h5 h3) (fun h5 => br_c (fun h6 => zq_p hp ?_) (fun h6 => zq_p hp ?_))⟩) (fun h4 => zq_p hp ?_)⟩)⟩)) (fun h1 => ⟨ia, ib, br_c (fun h2 => zq_p hp ?_) (fun h2 => zq_p hp ?_)⟩)⟩
  · rw [if_pos h1, if_pos h2]
  · rw [if_pos h1, if_neg h2, if_pos h3, if_pos h5, if_pos h6]
  · rw [if_pos h1, if_neg h2, if_pos h3, if_pos h5, if_neg h6, if_neg (Int32.not_lt.mpr h7), if_pos h8]
  · rw [if_pos h1, if_neg h2, if_pos h3, if_pos h5, if_neg h6, if_neg (Int32.not_lt.mpr h7), if_neg h8]
  · rw [if_pos h1, if_neg h2, if_pos h3, if_pos h5, if_neg h6, if_pos (Int32.not_le.mp h7), if_pos h8]
  · rw [if_pos h1, if_neg h2, if_pos h3, if_pos h5, if_neg h6, if_pos (Int32.not_le.mp h7), if_neg h8]
  · rw [if_pos h1, if_neg h2, if_pos h3, if_neg h5, if_pos h6]
  · rw [if_pos h1, if_neg h2, if_pos h3, if_neg h5, if_neg h6]
  · rw [if_pos h1, if_neg h2, if_neg h3, if_pos h4, if_pos h6]
  · rw [if_pos h1, if_neg h2, if_neg h3, if_pos h4, if_neg h6]
  · rw [if_pos h1, if_neg h2, if_neg h3, if_neg h4]
  · rw [if_neg h1, if_neg (Int32.not_lt.mpr h2)]
  · rw [if_neg h1, if_pos (Int32.not_le.mp h2)]
theorem zy_before {post : Int32 → Prop} (ha : a < 32) (hb : b < 32) (hp : post (zq_b (zq_bef (zq_cmp P O N d nl) a b))) : wpY_before post (cp, nI n, d, nl, md, ex, sk, so, ek, eo, lf, P, O, V, N, M, R, Z) (nI a) (nI b) := by
  unfold wpY_before
  dsimp only
  refine zy_cmp ha hb ?_
  unfold zq_bef at hp
  refine br_c (fun h => br_c (fun g => zq_p hp ?_) (fun g => zq_p hp ?_)) (fun h => br_c (fun g => zq_p hp ?_) (fun g => zq_p hp ?_))
  · have g' := (nI_leI (a := b) (b := a) (by omega) (by omega)).mp g
    rw [if_pos h, decide_eq_false (by omega), zq_bf]
  · have g' : ¬ b ≤ a := fun z => g ((nI_leI (a := b) (b := a) (by omega) (by omega)).mpr z)
    rw [if_pos h, decide_eq_true (by omega), zq_bt]
  · rw [if_neg h, decide_eq_false (Int32.not_lt.mpr g), zq_bf]
  · rw [if_neg h, decide_eq_true (Int32.not_le.mp g), zq_bt]
theorem zy_pos {post : Int32 → Prop} (hn : n ≤ 32) (hr : r < 32) (hp : post ((zq_q n P (zq_cmp P O N d nl)) r)) : wpY_pos post (cp, nI n, d, nl, md, ex, sk, so, ek, eo, lf, P, O, V, N, M, R, Z) (nI r) := by
  unfold wpY_pos
  dsimp only
  refine zq_lp (W := fun m i => wY_pos_4 post (nI r) cp (nI n) d nl md ex sk so ek eo lf P O V N M R Z m (nI (zq_cn (zq_pp P (zq_cmp P O N d nl) r) i)) (nI i)) n (fun m => ?_) (fun m i hi ih => ?_)
  · exact br_t (nI_le (Nat.le_refl n) (by omega)) hp
  · rw [wY_pos_4]
    dsimp only
    rw [zq_cl hr, zq_cl (show i < 32 by omega)]
    refine br_f (nI_ge hi (by omega)) ⟨zq_in (by omega), zq_in hr, br_c (fun h => zy_before (by omega) hr (zq_br (fun g => nm_r (nI_1 i) ?_) (fun g => nm_r (nI_1 _) (nm_r (nI_1 i) ?_)))) (fun h => nm_r (nI_1 i) ?_)⟩
    · rw [zq_cn_f (show zq_pp P (zq_cmp P O N d nl) r i = false by simp [zq_pp, g])] at ih; exact ih
    · rw [zq_cn_t (show zq_pp P (zq_cmp P O N d nl) r i = true by simp [zq_pp, h, g])] at ih; exact ih
    · rw [zq_cn_f (show zq_pp P (zq_cmp P O N d nl) r i = false by simp [zq_pp, h])] at ih; exact ih
theorem zy_startOk {post : Int32 → Prop} (hn : n ≤ 32) (hs : s < 32) (hr : r < 32) (hp : post (zq_b (zq_ys (zq_cmp P O N d nl) (zq_q n P (zq_cmp P O N d nl)) O N d md sk so s r))) : wpY_startOk post (cp, nI n, d, nl, md, ex, sk, so, ek, eo, lf, P, O, V, N, M, R, Z) (nI s) (nI r) := by
  have is := zq_in hs
  have ir := zq_in hr
  unfold wpY_startOk wY_startOk_115
  dsimp only
  rw [zq_cl hs, zq_cl hr]
  unfold zq_ys at hp
  refine br_c (fun h0 => zq_p hp ?_) (fun h0 => br_c (fun hm => zy_pos hn hs (zy_pos hn hr (br_c (fun k1 => br_c (fun g => zq_p hp ?_) (fun g => zq_p hp ?_)) (fun k1 => br_c (fun k3 => br_c (fun g => zq_p hp ?_) (fun g => zq_p hp ?_)) (fun k3 => br_c (fun g => zq_p hp ?_) (fun g => zq_p hp ?_)))))) (fun hm => br_c (fun k2 => zy_cmp hs hr (br_c (fun g => zq_p hp ?_) (fun g => zq_p hp ?_))) (fun k2 => ⟨ir, br_c (fun nr => ⟨is, br_c (fun ns => ⟨ir, nm_e ⟨is, nm_e (br_c (fun d1 => br_c (fun k1 => br_c (fun g => zq_p hp ?_) (fun g => zq_p hp ?_)) (fun k1 => br_c (fun g => zq_p hp ?_) (fun g => zq_p hp ?_))) (fun d1 => br_c (fun k1 => br_c (fun g => zq_p hp ?_) (fun g => zq_p hp ?_)) (fun k1 => br_c (fun g => zq_p hp ?_) (fun g => zq_p hp ?_))))⟩⟩) (fun ns => zq_p hp ?_)⟩) (fun nr => zy_cmp hs hr (br_c (fun g => zq_p hp ?_) (fun g => zq_p hp ?_)))⟩)))
  · rw [if_pos h0, zq_bt]
  · rw [if_neg h0, if_pos hm, if_pos k1, decide_eq_false (Int64.not_le.mpr g), zq_bf]
  · rw [if_neg h0, if_pos hm, if_pos k1, decide_eq_true (Int64.not_lt.mp g), zq_bt]
  · rw [if_neg h0, if_pos hm, if_neg k1, if_pos k3, decide_eq_false (Int64.not_le.mpr g), zq_bf]
  · rw [if_neg h0, if_pos hm, if_neg k1, if_pos k3, decide_eq_true (Int64.not_lt.mp g), zq_bt]
  · rw [if_neg h0, if_pos hm, if_neg k1, if_neg k3, decide_eq_false (Int64.not_le.mpr g), zq_bf]
  · rw [if_neg h0, if_pos hm, if_neg k1, if_neg k3, decide_eq_true (Int64.not_lt.mp g), zq_bt]
  · rw [if_neg h0, if_neg hm, if_pos k2, decide_eq_false (Int32.not_le.mpr g), zq_bf]
  · rw [if_neg h0, if_neg hm, if_pos k2, decide_eq_true (Int32.not_lt.mp g), zq_bt]
  · rw [if_neg h0, if_neg hm, if_neg k2, if_pos nr, if_pos ns, if_pos d1, if_pos k1, decide_eq_false (Int64.not_le.mpr g), zq_bf]
  · rw [if_neg h0, if_neg hm, if_neg k2, if_pos nr, if_pos ns, if_pos d1, if_pos k1, decide_eq_true (Int64.not_lt.mp g), zq_bt]
  · rw [if_neg h0, if_neg hm, if_neg k2, if_pos nr, if_pos ns, if_pos d1, if_neg k1, decide_eq_false (Int64.not_le.mpr g), zq_bf]
  · rw [if_neg h0, if_neg hm, if_neg k2, if_pos nr, if_pos ns, if_pos d1, if_neg k1, decide_eq_true (Int64.not_lt.mp g), zq_bt]
  · rw [if_neg h0, if_neg hm, if_neg k2, if_pos nr, if_pos ns, if_neg d1, if_pos k1, decide_eq_false (Int64.not_le.mpr g), zq_bf]
  · rw [if_neg h0, if_neg hm, if_neg k2, if_pos nr, if_pos ns, if_neg d1, if_pos k1, decide_eq_true (Int64.not_lt.mp g), zq_bt]
  · rw [if_neg h0, if_neg hm, if_neg k2, if_pos nr, if_pos ns, if_neg d1, if_neg k1, decide_eq_false (Int64.not_le.mpr g), zq_bf]
  · rw [if_neg h0, if_neg hm, if_neg k2, if_pos nr, if_pos ns, if_neg d1, if_neg k1, decide_eq_true (Int64.not_lt.mp g), zq_bt]
  · rw [if_neg h0, if_neg hm, if_neg k2, if_pos nr, if_neg ns, zq_bf]
  · rw [if_neg h0, if_neg hm, if_neg k2, if_neg nr, decide_eq_false (Int32.not_le.mpr g), zq_bf]
  · rw [if_neg h0, if_neg hm, if_neg k2, if_neg nr, decide_eq_true (Int32.not_lt.mp g), zq_bt]
theorem zy_endOk {post : Int32 → Prop} (hn : n ≤ 32) (hs : s < 32) (hr : r < 32) (hp : post (zq_b (zq_ye (zq_cmp P O N d nl) (zq_q n P (zq_cmp P O N d nl)) O N d md ek eo s r))) : wpY_endOk post (cp, nI n, d, nl, md, ex, sk, so, ek, eo, lf, P, O, V, N, M, R, Z) (nI s) (nI r) := by
  have is := zq_in hs
  have ir := zq_in hr
  unfold wpY_endOk wY_endOk_116
  dsimp only
  rw [zq_cl hs, zq_cl hr]
  unfold zq_ye at hp
  refine br_c (fun h0 => zq_p hp ?_) (fun h0 => br_c (fun hm => zy_pos hn hs (zy_pos hn hr (br_c (fun k1 => br_c (fun g => zq_p hp ?_) (fun g => zq_p hp ?_)) (fun k1 => br_c (fun k3 => br_c (fun g => zq_p hp ?_) (fun g => zq_p hp ?_)) (fun k3 => br_c (fun g => zq_p hp ?_) (fun g => zq_p hp ?_)))))) (fun hm => br_c (fun k2 => zy_cmp hs hr (br_c (fun g => zq_p hp ?_) (fun g => zq_p hp ?_))) (fun k2 => ⟨ir, br_c (fun nr => ⟨is, br_c (fun ns => ⟨ir, nm_e ⟨is, nm_e (br_c (fun d1 => br_c (fun k1 => br_c (fun g => zq_p hp ?_) (fun g => zq_p hp ?_)) (fun k1 => br_c (fun g => zq_p hp ?_) (fun g => zq_p hp ?_))) (fun d1 => br_c (fun k1 => br_c (fun g => zq_p hp ?_) (fun g => zq_p hp ?_)) (fun k1 => br_c (fun g => zq_p hp ?_) (fun g => zq_p hp ?_))))⟩⟩) (fun ns => zq_p hp ?_)⟩) (fun nr => zy_cmp hs hr (br_c (fun g => zq_p hp ?_) (fun g => zq_p hp ?_)))⟩)))
  · rw [if_pos h0, zq_bt]
  · rw [if_neg h0, if_pos hm, if_pos k1, decide_eq_false (Int64.not_le.mpr g), zq_bf]
  · rw [if_neg h0, if_pos hm, if_pos k1, decide_eq_true (Int64.not_lt.mp g), zq_bt]
  · rw [if_neg h0, if_pos hm, if_neg k1, if_pos k3, decide_eq_false (Int64.not_le.mpr g), zq_bf]
  · rw [if_neg h0, if_pos hm, if_neg k1, if_pos k3, decide_eq_true (Int64.not_lt.mp g), zq_bt]
  · rw [if_neg h0, if_pos hm, if_neg k1, if_neg k3, decide_eq_false (Int64.not_le.mpr g), zq_bf]
  · rw [if_neg h0, if_pos hm, if_neg k1, if_neg k3, decide_eq_true (Int64.not_lt.mp g), zq_bt]
  · rw [if_neg h0, if_neg hm, if_pos k2, decide_eq_false (Int32.not_le.mpr g), zq_bf]
  · rw [if_neg h0, if_neg hm, if_pos k2, decide_eq_true (Int32.not_lt.mp g), zq_bt]
  · rw [if_neg h0, if_neg hm, if_neg k2, if_pos nr, if_pos ns, if_pos d1, if_pos k1, decide_eq_false (Int64.not_le.mpr g), zq_bf]
  · rw [if_neg h0, if_neg hm, if_neg k2, if_pos nr, if_pos ns, if_pos d1, if_pos k1, decide_eq_true (Int64.not_lt.mp g), zq_bt]
  · rw [if_neg h0, if_neg hm, if_neg k2, if_pos nr, if_pos ns, if_pos d1, if_neg k1, decide_eq_false (Int64.not_le.mpr g), zq_bf]
  · rw [if_neg h0, if_neg hm, if_neg k2, if_pos nr, if_pos ns, if_pos d1, if_neg k1, decide_eq_true (Int64.not_lt.mp g), zq_bt]
  · rw [if_neg h0, if_neg hm, if_neg k2, if_pos nr, if_pos ns, if_neg d1, if_pos k1, decide_eq_false (Int64.not_le.mpr g), zq_bf]
  · rw [if_neg h0, if_neg hm, if_neg k2, if_pos nr, if_pos ns, if_neg d1, if_pos k1, decide_eq_true (Int64.not_lt.mp g), zq_bt]
  · rw [if_neg h0, if_neg hm, if_neg k2, if_pos nr, if_pos ns, if_neg d1, if_neg k1, decide_eq_false (Int64.not_le.mpr g), zq_bf]
  · rw [if_neg h0, if_neg hm, if_neg k2, if_pos nr, if_pos ns, if_neg d1, if_neg k1, decide_eq_true (Int64.not_lt.mp g), zq_bt]
  · rw [if_neg h0, if_neg hm, if_neg k2, if_pos nr, if_neg ns, zq_bf]
  · rw [if_neg h0, if_neg hm, if_neg k2, if_neg nr, decide_eq_false (Int32.not_le.mpr g), zq_bf]
  · rw [if_neg h0, if_neg hm, if_neg k2, if_neg nr, decide_eq_true (Int32.not_lt.mp g), zq_bt]
theorem zy_inFrame {post : Int32 → Prop} (hn : n ≤ 32) (hs : s < 32) (hr : r < 32) (hp : post (zq_b (zq_yf P (zq_cmp P O N d nl) (zq_q n P (zq_cmp P O N d nl)) O N d md ex sk so ek eo r s))) : wpY_inFrame post (cp, nI n, d, nl, md, ex, sk, so, ek, eo, lf, P, O, V, N, M, R, Z) (nI s) (nI r) := by
  unfold wpY_inFrame wY_inFrame_52 wY_inFrame_71
  dsimp only
  rw [zq_cl hs, zq_cl hr]
  refine ⟨zq_in hs, zq_in hr, br_c (fun hP => zy_startOk hn hs hr (zq_br (fun g1 => zq_p hp ?_) (fun g1 => zy_endOk hn hs hr (zq_br (fun g2 => zq_p hp ?_) (fun g2 => ?_))))) (fun hP => zq_p hp ?_)⟩
  · unfold zq_yf; rw [g1, Bool.false_and, Bool.and_false, zq_bf]
  · unfold zq_yf; rw [g2, Bool.false_and, Bool.and_false, Bool.and_false, zq_bf]
  · have hq : post (zq_b (!(zq_xx ex (zq_cmp P O N d nl) s r))) := zq_p hp (by unfold zq_yf; rw [decide_eq_true hP, g1, g2, Bool.true_and, Bool.true_and, Bool.true_and])
    clear hp
    have e0 : nI s = nI r ↔ s = r := nI_eq (by omega) (by omega)
    unfold zq_xx at hq
    by_cases e1 : ex = 1
    · have n2 : ¬ ex = 2 := by rw [e1]; decide
      have n3 : ¬ ex = 3 := by rw [e1]; decide
      refine br_t e1 (br_c (fun g => zq_p hq ?_) (fun g => br_f n2 (br_f n3 (zq_p hq ?_))))
      · rw [if_pos e1, decide_eq_true (e0.mp g)]; rfl
      · rw [if_pos e1, decide_eq_false (fun z => g (e0.mpr z))]; rfl
    · refine br_f e1 ?_
      by_cases e2 : ex = 2
      · have n3 : ¬ ex = 3 := by rw [e2]; decide
        refine br_t e2 (zy_cmp hs hr (br_c (fun g => zq_p hq ?_) (fun g => br_f n3 (zq_p hq ?_))))
        · rw [if_neg e1, if_pos e2, decide_eq_true g]; rfl
        · rw [if_neg e1, if_pos e2, decide_eq_false g]; rfl
      · refine br_f e2 ?_
        by_cases e3 : ex = 3
        · refine br_t e3 (zy_cmp hs hr (br_c (fun g => br_c (fun k => zq_p hq ?_) (fun k => zq_p hq ?_)) (fun g => zq_p hq ?_)))
          · rw [if_neg e1, if_neg e2, if_pos e3, decide_eq_true (e0.mp k)]; rfl
          · rw [if_neg e1, if_neg e2, if_pos e3, decide_eq_false (fun z => k (e0.mpr z)), decide_eq_true g]; rfl
          · rw [if_neg e1, if_neg e2, if_pos e3, decide_eq_false g, Bool.and_false]; rfl
        · refine br_f e3 (zq_p hq ?_)
          rw [if_neg e1, if_neg e2, if_neg e3]; rfl
  · unfold zq_yf; rw [decide_eq_false hP, Bool.false_and, zq_bf]
theorem zy_leader {post : Int32 → Prop} (hs : s < 32) (hp : post (zq_b (zq_ld (zq_cmp P O N d nl) s))) : wpY_leader post (cp, nI n, d, nl, md, ex, sk, so, ek, eo, lf, P, O, V, N, M, R, Z) (nI s) := by
  unfold wpY_leader
  dsimp only
  obtain ⟨m, hm⟩ := zq_lp (W := fun m i => (∀ j, j < i → (fun t => decide (zq_cmp P O N d nl t s = 0)) j = false) → wY_leader_2 post (nI s) cp (nI n) d nl md ex sk so ek eo lf P O V N M R Z m (nI i)) s (fun m hj => br_t (nI_le (Nat.le_refl s) (by omega)) (zq_p hp (by unfold zq_ld; rw [zq_fd_n s hj]; rfl))) (fun m i hi ih hj => by
    refine br_f (nI_ge hi (by omega)) (zy_cmp (by omega) hs (br_c (fun g => zq_p hp ?_) (fun g => nm_r (nI_1 i) (ih ?_))))
    · unfold zq_ld
      rw [zq_fd_s hj (decide_eq_true g) s hi]; rfl
    · intro j hj'
      by_cases e : j = i
      · rw [e]; exact decide_eq_false g
      · exact hj j (by omega))
  exact ⟨m, hm (fun j hj => absurd hj (Nat.not_lt_zero j))⟩
theorem zq_nb0 : vp_nar .boolean 0 = 0 := by decide
theorem zq_nb1 : vp_nar .boolean 1 = 1 := by decide
theorem zy_set0 {post : SY → Prop} {v : Int64} (hr : r < 32) (hp : post (cp, nI n, d, nl, md, ex, sk, so, ek, eo, lf, P, O, V, N, M, vp_updL R r v, upd Z r 0)) : wpY_setRes post (cp, nI n, d, nl, md, ex, sk, so, ek, eo, lf, P, O, V, N, M, R, Z) (nI r) 0 v := by
  unfold wpY_setRes
  dsimp only
  rw [zq_cl hr, zq_nb0]
  exact ⟨zq_in hr, nm_e (br_t rfl ⟨zq_in hr, nm_e hp⟩)⟩
theorem zy_set1 {post : SY → Prop} {v : Int64} (hr : r < 32) (hp : post (cp, nI n, d, nl, md, ex, sk, so, ek, eo, lf, P, O, V, N, M, vp_updL R r 0, upd Z r 1)) : wpY_setRes post (cp, nI n, d, nl, md, ex, sk, so, ek, eo, lf, P, O, V, N, M, R, Z) (nI r) 1 v := by
  unfold wpY_setRes
  dsimp only
  rw [zq_cl hr, zq_nb1]
  exact ⟨zq_in hr, nm_e (br_f zq_n10 ⟨zq_in hr, nm_e hp⟩)⟩
end ZQE
end
section
section ZQF
/-! the reference's evalRow -/
variable {cp d nl md ex sk so ek eo lf f arg : Int32} {P O V N M Z A F : Nat → Int32} {R : Nat → Int64} {n a b r s i : Nat}
theorem zy_fin0 {post : SY → Prop} {x : Bool × Int64} {v : Int64} (e : x = (false, v)) (hp : post (cp, nI n, d, nl, md, ex, sk, so, ek, eo, lf, P, O, V, N, M, vp_updL R r (x).2, upd Z r (zq_b (x).1))) : post (cp, nI n, d, nl, md, ex, sk, so, ek, eo, lf, P, O, V, N, M, vp_updL R r v, upd Z r 0) := by
  rw [e] at hp
  exact hp
theorem zy_fin1 {post : SY → Prop} {x : Bool × Int64} (e : x = (true, 0)) (hp : post (cp, nI n, d, nl, md, ex, sk, so, ek, eo, lf, P, O, V, N, M, vp_updL R r (x).2, upd Z r (zq_b (x).1))) : post (cp, nI n, d, nl, md, ex, sk, so, ek, eo, lf, P, O, V, N, M, vp_updL R r 0, upd Z r 1) := by
  rw [e] at hp
  exact hp
theorem zy_one {post : SY → Prop} (hr : r < 32) (hM : M s = 0 ∨ M s = 1) (hp : post (cp, nI n, d, nl, md, ex, sk, so, ek, eo, lf, P, O, V, N, M, vp_updL R r (zq_one V M (some s)).2, upd Z r (zq_b (zq_one V M (some s)).1))) : wpY_setRes post (cp, nI n, d, nl, md, ex, sk, so, ek, eo, lf, P, O, V, N, M, R, Z) (nI r) (M s) ((V s).toInt64) := by
  rcases hM with h | h
  · rw [h]
    exact zy_set0 hr (zy_fin0 (zq_one_v h) hp)
  · have h' : ¬ M s = 0 := by rw [h]; exact zq_n10
    rw [h]
    exact zy_set1 hr (zy_fin1 (zq_one_w h') hp)
theorem zy_ev0 {post : SY → Prop} (hn : n ≤ 32) (hr : r < 32) (hp : post (cp, nI n, d, nl, md, ex, sk, so, ek, eo, lf, P, O, V, N, M, vp_updL R r ((zq_an n P V M (zq_cmp P O N d nl) (zq_yf P (zq_cmp P O N d nl) (zq_q n P (zq_cmp P O N d nl)) O N d md ex sk so ek eo r) 0 arg r)).2, upd Z r (zq_b ((zq_an n P V M (zq_cmp P O N d nl) (zq_yf P (zq_cmp P O N d nl) (zq_q n P (zq_cmp P O N d nl)) O N d md ex sk so ek eo r) 0 arg r)).1))) : wpY_evalRow post (cp, nI n, d, nl, md, ex, sk, so, ek, eo, lf, P, O, V, N, M, R, Z) (nI r) 0 arg := by
  unfold wpY_evalRow
  dsimp only
  exact br_t rfl (zy_pos hn hr (zy_set0 hr (zy_fin0 zq_an_0 hp)))
theorem zy_ev1 {post : SY → Prop} (hn : n ≤ 32) (hr : r < 32) (hp : post (cp, nI n, d, nl, md, ex, sk, so, ek, eo, lf, P, O, V, N, M, vp_updL R r ((zq_an n P V M (zq_cmp P O N d nl) (zq_yf P (zq_cmp P O N d nl) (zq_q n P (zq_cmp P O N d nl)) O N d md ex sk so ek eo r) 1 arg r)).2, upd Z r (zq_b ((zq_an n P V M (zq_cmp P O N d nl) (zq_yf P (zq_cmp P O N d nl) (zq_q n P (zq_cmp P O N d nl)) O N d md ex sk so ek eo r) 1 arg r)).1))) : wpY_evalRow post (cp, nI n, d, nl, md, ex, sk, so, ek, eo, lf, P, O, V, N, M, R, Z) (nI r) 1 arg := by
  have L : ∃ m, wY_evalRow_35 post (nI r) 1 cp (nI n) d nl md ex sk so ek eo lf P O V N M R Z m (lN (zq_cn (zq_rk P (zq_cmp P O N d nl) r) 0 + 1)) (nI 0) := by
    refine zq_lp (W := fun m i => wY_evalRow_35 post (nI r) 1 cp (nI n) d nl md ex sk so ek eo lf P O V N M R Z m (lN (zq_cn (zq_rk P (zq_cmp P O N d nl) r) i + 1)) (nI i)) n (fun m => ?_) (fun m i hi ih => ?_)
    · exact br_t (nI_le (Nat.le_refl n) (by omega)) (zy_set0 hr (zy_fin0 zq_an_1 hp))
    · rw [wY_evalRow_35]
      dsimp only
      rw [zq_cl hr, zq_cl (show i < 32 by omega)]
      refine br_f (nI_ge hi (by omega)) ⟨zq_in (by omega), zq_in hr, br_c (fun h => zy_cmp (by omega) hr (br_c (fun g => nm_r (nI_1 i) ?_) (fun g => br_t rfl (nm_r (lN_1 _) (nm_r (nI_1 i) ?_))))) (fun h => nm_r (nI_1 i) ?_)⟩
      · rw [zq_cn_f (show zq_rk P (zq_cmp P O N d nl) r i = false by simp only [zq_rk, decide_eq_false (Int32.not_lt.mpr g), Bool.and_false])] at ih; exact ih
      · rw [zq_cn_t (show zq_rk P (zq_cmp P O N d nl) r i = true by simp only [zq_rk, decide_eq_true h, decide_eq_true (Int32.not_le.mp g), Bool.and_true])] at ih; exact ih
      · rw [zq_cn_f (show zq_rk P (zq_cmp P O N d nl) r i = false by simp only [zq_rk, decide_eq_false h, Bool.false_and])] at ih; exact ih
  unfold wpY_evalRow
  dsimp only
  exact br_f zq_n10 (br_t rfl L)
theorem zy_ev2 {post : SY → Prop} (hn : n ≤ 32) (hr : r < 32) (hp : post (cp, nI n, d, nl, md, ex, sk, so, ek, eo, lf, P, O, V, N, M, vp_updL R r ((zq_an n P V M (zq_cmp P O N d nl) (zq_yf P (zq_cmp P O N d nl) (zq_q n P (zq_cmp P O N d nl)) O N d md ex sk so ek eo r) 2 arg r)).2, upd Z r (zq_b ((zq_an n P V M (zq_cmp P O N d nl) (zq_yf P (zq_cmp P O N d nl) (zq_q n P (zq_cmp P O N d nl)) O N d md ex sk so ek eo r) 2 arg r)).1))) : wpY_evalRow post (cp, nI n, d, nl, md, ex, sk, so, ek, eo, lf, P, O, V, N, M, R, Z) (nI r) 2 arg := by
  have L : ∃ m, wY_evalRow_35 post (nI r) 2 cp (nI n) d nl md ex sk so ek eo lf P O V N M R Z m (lN (zq_cn (zq_dr P (zq_cmp P O N d nl) r) 0 + 1)) (nI 0) := by
    refine zq_lp (W := fun m i => wY_evalRow_35 post (nI r) 2 cp (nI n) d nl md ex sk so ek eo lf P O V N M R Z m (lN (zq_cn (zq_dr P (zq_cmp P O N d nl) r) i + 1)) (nI i)) n (fun m => ?_) (fun m i hi ih => ?_)
    · exact br_t (nI_le (Nat.le_refl n) (by omega)) (zy_set0 hr (zy_fin0 zq_an_2 hp))
    · rw [wY_evalRow_35]
      dsimp only
      rw [zq_cl hr, zq_cl (show i < 32 by omega)]
      refine br_f (nI_ge hi (by omega)) ⟨zq_in (by omega), zq_in hr, br_c (fun h => zy_cmp (by omega) hr (br_c (fun g => nm_r (nI_1 i) ?_) (fun g => br_f zq_n21 (zy_leader (by omega) (zq_br (fun l => nm_r (nI_1 i) ?_) (fun l => nm_r (lN_1 _) (nm_r (nI_1 i) ?_))))))) (fun h => nm_r (nI_1 i) ?_)⟩
      · rw [zq_cn_f (show zq_dr P (zq_cmp P O N d nl) r i = false by simp only [zq_dr, zq_rk, decide_eq_false (Int32.not_lt.mpr g), Bool.and_false, Bool.false_and])] at ih; exact ih
      · rw [zq_cn_f (show zq_dr P (zq_cmp P O N d nl) r i = false by simp only [zq_dr, l, Bool.and_false])] at ih; exact ih
      · rw [zq_cn_t (show zq_dr P (zq_cmp P O N d nl) r i = true by simp only [zq_dr, zq_rk, l, decide_eq_true h, decide_eq_true (Int32.not_le.mp g), Bool.and_true])] at ih; exact ih
      · rw [zq_cn_f (show zq_dr P (zq_cmp P O N d nl) r i = false by simp only [zq_dr, zq_rk, decide_eq_false h, Bool.false_and])] at ih; exact ih
  unfold wpY_evalRow
  dsimp only
  exact br_f zq_n20 (br_f zq_n21 (br_t rfl L))
theorem zy_lag {post : SY → Prop} {t : Int64} (hn : n ≤ 32) (hr : r < 32) (hM : ∀ i, M i = 0 ∨ M i = 1) (hp : post (cp, nI n, d, nl, md, ex, sk, so, ek, eo, lf, P, O, V, N, M, vp_updL R r (zq_one V M (zq_fd (zq_tg P (zq_q n P (zq_cmp P O N d nl)) r t) n)).2, upd Z r (zq_b (zq_one V M (zq_fd (zq_tg P (zq_q n P (zq_cmp P O N d nl)) r t) n)).1))) : ∃ m, wY_evalRow_146 post (nI r) t cp (nI n) d nl md ex sk so ek eo lf P O V N M R Z m 0 := by
  obtain ⟨m, hm⟩ := zq_lp (W := fun m i => (∀ j, j < i → zq_tg P (zq_q n P (zq_cmp P O N d nl)) r t j = false) → wY_evalRow_146 post (nI r) t cp (nI n) d nl md ex sk so ek eo lf P O V N M R Z m (nI i)) n (fun m hj => br_t (nI_le (Nat.le_refl n) (by omega)) (zy_set1 hr (zy_fin1 (by rw [zq_fd_n n hj]; rfl) hp))) (fun m i hi ih hj => by
    have hx : zq_tg P (zq_q n P (zq_cmp P O N d nl)) r t i = false → ∀ j, j < i + 1 → zq_tg P (zq_q n P (zq_cmp P O N d nl)) r t j = false := by
      intro h j hj'
      by_cases e : j = i
      · rw [e]; exact h
      · exact hj j (by omega)
    rw [wY_evalRow_146]
    dsimp only
    rw [zq_cl hr, zq_cl (show i < 32 by omega)]
    refine br_f (nI_ge hi (by omega)) ⟨zq_in (by omega), zq_in hr, br_c (fun h => zy_pos hn (by omega) (br_c (fun g => ⟨zq_in (by omega), zq_in (by omega), zy_one hr (hM i) ?_⟩) (fun g => nm_r (nI_1 i) (ih (hx ?_))))) (fun h => nm_r (nI_1 i) (ih (hx ?_)))⟩
    · rw [zq_fd_s hj (show zq_tg P (zq_q n P (zq_cmp P O N d nl)) r t i = true by simp only [zq_tg, decide_eq_true h, decide_eq_true g, Bool.and_true]) n hi] at hp
      exact hp
    · simp only [zq_tg, decide_eq_false g, Bool.and_false]
    · simp only [zq_tg, decide_eq_false h, Bool.false_and])
  exact ⟨m, hm (fun j hj => absurd hj (Nat.not_lt_zero j))⟩
theorem zy_ev3 {post : SY → Prop} (hn : n ≤ 32) (hr : r < 32) (hM : ∀ i, M i = 0 ∨ M i = 1) (hp : post (cp, nI n, d, nl, md, ex, sk, so, ek, eo, lf, P, O, V, N, M, vp_updL R r ((zq_an n P V M (zq_cmp P O N d nl) (zq_yf P (zq_cmp P O N d nl) (zq_q n P (zq_cmp P O N d nl)) O N d md ex sk so ek eo r) 3 arg r)).2, upd Z r (zq_b ((zq_an n P V M (zq_cmp P O N d nl) (zq_yf P (zq_cmp P O N d nl) (zq_q n P (zq_cmp P O N d nl)) O N d md ex sk so ek eo r) 3 arg r)).1))) : wpY_evalRow post (cp, nI n, d, nl, md, ex, sk, so, ek, eo, lf, P, O, V, N, M, R, Z) (nI r) 3 arg := by
  rw [zq_an_3] at hp
  unfold wpY_evalRow wY_evalRow_115
  dsimp only
  exact br_f zq_n30 (br_f zq_n31 (br_f zq_n32 (br_t rfl (br_t rfl (zy_pos hn hr (nm_e (zy_lag hn hr hM hp)))))))
theorem zq_n40 : ¬ (4 : Int32) = 0 := by decide
theorem zq_n41 : ¬ (4 : Int32) = 1 := by decide
theorem zq_n42 : ¬ (4 : Int32) = 2 := by decide
theorem zq_n43 : ¬ (4 : Int32) = 3 := by decide
theorem zy_ev4 {post : SY → Prop} (hn : n ≤ 32) (hr : r < 32) (hM : ∀ i, M i = 0 ∨ M i = 1) (hp : post (cp, nI n, d, nl, md, ex, sk, so, ek, eo, lf, P, O, V, N, M, vp_updL R r ((zq_an n P V M (zq_cmp P O N d nl) (zq_yf P (zq_cmp P O N d nl) (zq_q n P (zq_cmp P O N d nl)) O N d md ex sk so ek eo r) 4 arg r)).2, upd Z r (zq_b ((zq_an n P V M (zq_cmp P O N d nl) (zq_yf P (zq_cmp P O N d nl) (zq_q n P (zq_cmp P O N d nl)) O N d md ex sk so ek eo r) 4 arg r)).1))) : wpY_evalRow post (cp, nI n, d, nl, md, ex, sk, so, ek, eo, lf, P, O, V, N, M, R, Z) (nI r) 4 arg := by
  rw [zq_an_4] at hp
  unfold wpY_evalRow wY_evalRow_115
  dsimp only
  exact br_f zq_n40 (br_f zq_n41 (br_f zq_n42 (br_f zq_n43 (br_t rfl (br_f zq_n43 (zy_pos hn hr (nm_e (zy_lag hn hr hM hp))))))))
/-! the loop over the frame -/
def zq_bs (f : Int32) (c : Nat → Nat → Int32) (fr : Nat → Bool) (i : Nat) : Int32 :=
  if f = 5 then zq_o (zq_ex fr (fun i b => zq_bef c i b) i) else if f = 6 then zq_o (zq_ex fr (fun i b => zq_bef c b i) i) else -1
theorem zq_o_neg : (-1 : Int32) < 0 := by decide
theorem zq_o_pos (h : b < 32) : ¬ nI b < 0 := nI_pos (by omega)
theorem zq_lN0 {k : Nat} (h : k ≤ 32) : lN k = 0 ↔ k = 0 := lN_eq (a := k) (b := 0) (by omega) (by omega)
abbrev zqJ : Type := Int32 → Int64 → Int64 → Int64 → Int64 → Int64 → Int32 → Prop
def zq_m1 (k : Nat) (v m : Int64) : Int64 := if k = 0 then v else if decide (v < m) = true then v else m
def zq_m2 (k : Nat) (v m : Int64) : Int64 := if k = 0 then v else if decide (m < v) = true then v else m
theorem zy_394 {post : SY → Prop} {J : zqJ} {x2 x4 : Int32} {x5 x7 x9 x11 x13 : Int64} (hi : i < 32) (h : J x4 (x5 + (V i).toInt64) (x7 + 1) x9 x11 x13 (nI (i + 1))) : wY_evalRow_394 post J (nI r) x2 x4 x5 x7 x9 x11 x13 (nI i) cp (nI n) d nl md ex sk so ek eo lf P O V N M R Z := by
  unfold wY_evalRow_394
  rw [zq_cl hi]
  exact nm_e ⟨zq_in hi, nm_e (nm_r (nI_1 i) h)⟩
theorem zy_363 {post : SY → Prop} {J : zqJ} {x2 x4 : Int32} {k : Nat} {x5 x9 x11 x13 : Int64} (hi : i < 32) (hk : k ≤ 32) (h : J x4 (x5 + (V i).toInt64) (lN k + 1) x9 x11 (zq_m2 k (V i).toInt64 x13) (nI (i + 1))) : wY_evalRow_363 post J (nI r) x2 x4 x5 (lN k) x9 x11 x13 (nI i) cp (nI n) d nl md ex sk so ek eo lf P O V N M R Z := by
  unfold wY_evalRow_363 wY_evalRow_384
  rw [zq_cl hi]
  refine br_c (fun g => ⟨zq_in hi, nm_e (zy_394 hi ?_)⟩) (fun g => ⟨zq_in hi, br_c (fun l => zy_394 hi ?_) (fun l => ⟨zq_in hi, nm_e (zy_394 hi ?_)⟩)⟩)
  · unfold zq_m2 at h; rw [if_pos ((zq_lN0 hk).mp g)] at h; exact h
  · unfold zq_m2 at h; rw [if_neg (fun z => g ((zq_lN0 hk).mpr z)), decide_eq_false (Int64.not_lt.mpr l), if_neg zq_Bft] at h; exact h
  · unfold zq_m2 at h; rw [if_neg (fun z => g ((zq_lN0 hk).mpr z)), decide_eq_true (Int64.not_le.mp l), if_pos rfl] at h; exact h
theorem zy_319 {post : SY → Prop} {J : zqJ} {x2 x4 : Int32} {fr : Nat → Bool} {x9 : Int64} (hi : i < 32) (hf : fr i = true)
    (h : J x4 (zq_sm (zq_nv fr M) V (i + 1)) (lN (zq_cn (zq_nv fr M) (i + 1))) x9 (zq_mm (zq_nv fr M) V (fun x m => decide (x < m)) (i + 1)) (zq_mm (zq_nv fr M) V (fun x m => decide (m < x)) (i + 1)) (nI (i + 1))) :
    wY_evalRow_319 post J (nI r) x2 x4 (zq_sm (zq_nv fr M) V i) (lN (zq_cn (zq_nv fr M) i)) x9 (zq_mm (zq_nv fr M) V (fun x m => decide (x < m)) i) (zq_mm (zq_nv fr M) V (fun x m => decide (m < x)) i) (nI i) cp (nI n) d nl md ex sk so ek eo lf P O V N M R Z := by
  have hk : zq_cn (zq_nv fr M) i ≤ 32 := Nat.le_trans (zq_cn_le _ i) (by omega)
  unfold wY_evalRow_319
  rw [zq_cl hi]
  refine ⟨zq_in hi, br_c (fun m0 => ?_) (fun m0 => nm_r (nI_1 i) ?_)⟩
  · have hv : zq_nv fr M i = true := by simp only [zq_nv, hf, decide_eq_true m0, Bool.and_true]
    have h' : J x4 (zq_sm (zq_nv fr M) V i + (V i).toInt64) (lN (zq_cn (zq_nv fr M) i) + 1) x9 (zq_m1 (zq_cn (zq_nv fr M) i) (V i).toInt64 (zq_mm (zq_nv fr M) V (fun x m => decide (x < m)) i)) (zq_m2 (zq_cn (zq_nv fr M) i) (V i).toInt64 (zq_mm (zq_nv fr M) V (fun x m => decide (m < x)) i)) (nI (i + 1)) := by
      rw [zq_sm_t hv, zq_cn_t hv, ← lN_1] at h
      have e1 : zq_mm (zq_nv fr M) V (fun x m => decide (x < m)) (i + 1) = zq_m1 (zq_cn (zq_nv fr M) i) (V i).toInt64 (zq_mm (zq_nv fr M) V (fun x m => decide (x < m)) i) := if_pos hv
      have e2 : zq_mm (zq_nv fr M) V (fun x m => decide (m < x)) (i + 1) = zq_m2 (zq_cn (zq_nv fr M) i) (V i).toInt64 (zq_mm (zq_nv fr M) V (fun x m => decide (m < x)) i) := if_pos hv
      rw [e1, e2] at h
      exact h
    unfold wY_evalRow_353
    rw [zq_cl hi]
    refine br_c (fun g => ⟨zq_in hi, nm_e (zy_363 hi hk ?_)⟩) (fun g => ⟨zq_in hi, br_c (fun l => zy_363 hi hk ?_) (fun l => ⟨zq_in hi, nm_e (zy_363 hi hk ?_)⟩)⟩)
    · have e : zq_m1 (zq_cn (zq_nv fr M) i) (V i).toInt64 (zq_mm (zq_nv fr M) V (fun x m => decide (x < m)) i) = (V i).toInt64 := if_pos ((zq_lN0 hk).mp g)
      rw [e] at h'; exact h'
    · have e : zq_m1 (zq_cn (zq_nv fr M) i) (V i).toInt64 (zq_mm (zq_nv fr M) V (fun x m => decide (x < m)) i) = zq_mm (zq_nv fr M) V (fun x m => decide (x < m)) i := by
        unfold zq_m1; rw [if_neg (fun z => g ((zq_lN0 hk).mpr z)), decide_eq_false (Int64.not_lt.mpr l), if_neg zq_Bft]
      rw [e] at h'; exact h'
    · have e : zq_m1 (zq_cn (zq_nv fr M) i) (V i).toInt64 (zq_mm (zq_nv fr M) V (fun x m => decide (x < m)) i) = (V i).toInt64 := by
        unfold zq_m1; rw [if_neg (fun z => g ((zq_lN0 hk).mpr z)), decide_eq_true (Int64.not_le.mp l), if_pos rfl]
      rw [e] at h'; exact h'
  · have hv : zq_nv fr M i = false := by simp only [zq_nv, decide_eq_false m0, Bool.and_false]
    rw [zq_sm_f hv, zq_cn_f hv, zq_mm_f hv, zq_mm_f hv] at h
    exact h
end ZQF
end
section
section ZQG
/-! the reference's loop over the frame, compute, rowAt -/
variable {cp d nl md ex sk so ek eo lf f arg : Int32} {P O V N M Z A F : Nat → Int32} {R : Nat → Int64} {n a b r s i : Nat}
variable {c : Nat → Nat → Int32} {fr : Nat → Bool}
theorem zq_bs5 (e : f = 5) : zq_bs f c fr i = zq_o (zq_ex fr (fun i b => zq_bef c i b) i) := if_pos e
theorem zq_bs6 (e5 : ¬ f = 5) (e : f = 6) : zq_bs f c fr i = zq_o (zq_ex fr (fun i b => zq_bef c b i) i) := by unfold zq_bs; rw [if_neg e5, if_pos e]
theorem zq_bsn (e5 : ¬ f = 5) (e6 : ¬ f = 6) : zq_bs f c fr i = -1 := by unfold zq_bs; rw [if_neg e5, if_neg e6]
theorem zq_bs_f (h : fr i = false) : zq_bs f c fr (i + 1) = zq_bs f c fr i := by unfold zq_bs; rw [zq_ex_0 h, zq_ex_0 h]
theorem zq_bs_0 : zq_bs f c fr 0 = -1 := by
  by_cases e5 : f = 5
  · rw [zq_bs5 e5]; rfl
  · by_cases e6 : f = 6
    · rw [zq_bs6 e5 e6]; rfl
    · exact zq_bsn e5 e6
theorem zy_step {post : SY → Prop} {m : Nat} (hn : n ≤ 32) (hr : r < 32) (hi : i < n) (ih : wY_evalRow_240 post (nI r) f cp (nI n) d nl md ex sk so ek eo lf P O V N M R Z m (zq_bs f (zq_cmp P O N d nl) (zq_yf P (zq_cmp P O N d nl) (zq_q n P (zq_cmp P O N d nl)) O N d md ex sk so ek eo r) (i + 1)) (zq_sm (zq_nv (zq_yf P (zq_cmp P O N d nl) (zq_q n P (zq_cmp P O N d nl)) O N d md ex sk so ek eo r) M) V (i + 1)) (lN (zq_cn (zq_nv (zq_yf P (zq_cmp P O N d nl) (zq_q n P (zq_cmp P O N d nl)) O N d md ex sk so ek eo r) M) (i + 1))) (lN (zq_cn (zq_yf P (zq_cmp P O N d nl) (zq_q n P (zq_cmp P O N d nl)) O N d md ex sk so ek eo r) (i + 1))) (zq_mm (zq_nv (zq_yf P (zq_cmp P O N d nl) (zq_q n P (zq_cmp P O N d nl)) O N d md ex sk so ek eo r) M) V (fun x m => decide (x < m)) (i + 1)) (zq_mm (zq_nv (zq_yf P (zq_cmp P O N d nl) (zq_q n P (zq_cmp P O N d nl)) O N d md ex sk so ek eo r) M) V (fun x m => decide (m < x)) (i + 1)) (nI (i + 1))) : wY_evalRow_240 post (nI r) f cp (nI n) d nl md ex sk so ek eo lf P O V N M R Z (m + 1) (zq_bs f (zq_cmp P O N d nl) (zq_yf P (zq_cmp P O N d nl) (zq_q n P (zq_cmp P O N d nl)) O N d md ex sk so ek eo r) i) (zq_sm (zq_nv (zq_yf P (zq_cmp P O N d nl) (zq_q n P (zq_cmp P O N d nl)) O N d md ex sk so ek eo r) M) V i) (lN (zq_cn (zq_nv (zq_yf P (zq_cmp P O N d nl) (zq_q n P (zq_cmp P O N d nl)) O N d md ex sk so ek eo r) M) i)) (lN (zq_cn (zq_yf P (zq_cmp P O N d nl) (zq_q n P (zq_cmp P O N d nl)) O N d md ex sk so ek eo r) i)) (zq_mm (zq_nv (zq_yf P (zq_cmp P O N d nl) (zq_q n P (zq_cmp P O N d nl)) O N d md ex sk so ek eo r) M) V (fun x m => decide (x < m)) i) (zq_mm (zq_nv (zq_yf P (zq_cmp P O N d nl) (zq_q n P (zq_cmp P O N d nl)) O N d md ex sk so ek eo r) M) V (fun x m => decide (m < x)) i) (nI i) := by
  have hi' : i < 32 := by omega
  rw [wY_evalRow_240]
  dsimp only
  refine br_f (nI_ge hi (by omega)) (zy_inFrame hn hi' hr (zq_br (fun g => nm_r (nI_1 i) ?_) (fun g => nm_r (lN_1 _) ?_)))
  · have hv : zq_nv (zq_yf P (zq_cmp P O N d nl) (zq_q n P (zq_cmp P O N d nl)) O N d md ex sk so ek eo r) M i = false := by simp only [zq_nv, g, Bool.false_and]
    rw [zq_bs_f g, zq_sm_f hv, zq_cn_f hv, zq_cn_f g, zq_mm_f hv, zq_mm_f hv] at ih
    exact ih
  · rw [zq_cn_t g] at ih
    have h3 : ∀ x4, x4 = zq_bs f (zq_cmp P O N d nl) (zq_yf P (zq_cmp P O N d nl) (zq_q n P (zq_cmp P O N d nl)) O N d md ex sk so ek eo r) (i + 1) → wY_evalRow_319 post (wY_evalRow_240 post (nI r) f cp (nI n) d nl md ex sk so ek eo lf P O V N M R Z m) (nI r) f x4 (zq_sm (zq_nv (zq_yf P (zq_cmp P O N d nl) (zq_q n P (zq_cmp P O N d nl)) O N d md ex sk so ek eo r) M) V i) (lN (zq_cn (zq_nv (zq_yf P (zq_cmp P O N d nl) (zq_q n P (zq_cmp P O N d nl)) O N d md ex sk so ek eo r) M) i)) (lN (zq_cn (zq_yf P (zq_cmp P O N d nl) (zq_q n P (zq_cmp P O N d nl)) O N d md ex sk so ek eo r) i + 1)) (zq_mm (zq_nv (zq_yf P (zq_cmp P O N d nl) (zq_q n P (zq_cmp P O N d nl)) O N d md ex sk so ek eo r) M) V (fun x m => decide (x < m)) i) (zq_mm (zq_nv (zq_yf P (zq_cmp P O N d nl) (zq_q n P (zq_cmp P O N d nl)) O N d md ex sk so ek eo r) M) V (fun x m => decide (m < x)) i) (nI i) cp (nI n) d nl md ex sk so ek eo lf P O V N M R Z := by
      intro x4 e
      refine zy_319 hi' g ?_
      rw [e]
      exact ih
    clear ih
    by_cases e5 : f = 5
    · have e6 : ¬ f = 6 := by rw [e5]; decide
      refine br_t e5 ?_
      have hb := zq_bs5 (c := (zq_cmp P O N d nl)) (fr := (zq_yf P (zq_cmp P O N d nl) (zq_q n P (zq_cmp P O N d nl)) O N d md ex sk so ek eo r)) (i := i) e5
      have hb' := zq_bs5 (c := (zq_cmp P O N d nl)) (fr := (zq_yf P (zq_cmp P O N d nl) (zq_q n P (zq_cmp P O N d nl)) O N d md ex sk so ek eo r)) (i := i + 1) e5
      cases q : zq_ex (zq_yf P (zq_cmp P O N d nl) (zq_q n P (zq_cmp P O N d nl)) O N d md ex sk so ek eo r) (fun i b => zq_bef (zq_cmp P O N d nl) i b) i with
      | none =>
        rw [q] at hb
        rw [zq_ex_1 g q] at hb'
        rw [hb]
        exact br_t zq_o_neg (br_f e6 (h3 (nI i) hb'.symm))
      | some b =>
        have hbi := (zq_ex_lt i b q).1
        rw [q] at hb
        rw [hb]
        refine br_f (zq_o_pos (show b < 32 by omega)) (zy_before hi' (show b < 32 by omega) (zq_br (fun l => ?_) (fun l => ?_)))
        · rw [zq_ex_3 g q l] at hb'
          exact br_f e6 (h3 (nI b) hb'.symm)
        · rw [zq_ex_2 g q l] at hb'
          exact br_f e6 (h3 (nI i) hb'.symm)
    · refine br_f e5 ?_
      by_cases e6 : f = 6
      · refine br_t e6 ?_
        have hb := zq_bs6 (c := (zq_cmp P O N d nl)) (fr := (zq_yf P (zq_cmp P O N d nl) (zq_q n P (zq_cmp P O N d nl)) O N d md ex sk so ek eo r)) (i := i) e5 e6
        have hb' := zq_bs6 (c := (zq_cmp P O N d nl)) (fr := (zq_yf P (zq_cmp P O N d nl) (zq_q n P (zq_cmp P O N d nl)) O N d md ex sk so ek eo r)) (i := i + 1) e5 e6
        cases q : zq_ex (zq_yf P (zq_cmp P O N d nl) (zq_q n P (zq_cmp P O N d nl)) O N d md ex sk so ek eo r) (fun i b => zq_bef (zq_cmp P O N d nl) b i) i with
        | none =>
          rw [q] at hb
          rw [zq_ex_1 g q] at hb'
          rw [hb]
          exact br_t zq_o_neg (h3 (nI i) hb'.symm)
        | some b =>
          have hbi := (zq_ex_lt i b q).1
          rw [q] at hb
          rw [hb]
          refine br_f (zq_o_pos (show b < 32 by omega)) (zy_before (show b < 32 by omega) hi' (zq_br (fun l => ?_) (fun l => ?_)))
          · rw [zq_ex_3 g q l] at hb'
            exact h3 (nI b) hb'.symm
          · rw [zq_ex_2 g q l] at hb'
            exact h3 (nI i) hb'.symm
      · have hb := zq_bsn (c := (zq_cmp P O N d nl)) (fr := (zq_yf P (zq_cmp P O N d nl) (zq_q n P (zq_cmp P O N d nl)) O N d md ex sk so ek eo r)) (i := i) e5 e6
        have hb' := zq_bsn (c := (zq_cmp P O N d nl)) (fr := (zq_yf P (zq_cmp P O N d nl) (zq_q n P (zq_cmp P O N d nl)) O N d md ex sk so ek eo r)) (i := i + 1) e5 e6
        rw [hb]
        exact br_f e6 (h3 (-1) hb'.symm)
theorem zq_n0m1 : ¬ (0 : Int32) ≤ -1 := by decide
theorem zy_430 {post : SY → Prop} {o : Option Nat} (hr : r < 32) (hM : ∀ i, M i = 0 ∨ M i = 1) (ho : ∀ b, o = some b → b < 32) (hp : post (cp, nI n, d, nl, md, ex, sk, so, ek, eo, lf, P, O, V, N, M, vp_updL R r (zq_one V M o).2, upd Z r (zq_b (zq_one V M o).1))) : wY_evalRow_430 post (nI r) (zq_o o) cp (nI n) d nl md ex sk so ek eo lf P O V N M R Z := by
  cases o with
  | none => exact br_f zq_n0m1 (zy_set1 hr (zy_fin1 zq_one_n hp))
  | some b =>
    have hb := ho b rfl
    show wY_evalRow_430 post (nI r) (nI b) cp (nI n) d nl md ex sk so ek eo lf P O V N M R Z
    unfold wY_evalRow_430
    rw [zq_cl hb]
    exact br_t (nI_pos' (by omega)) ⟨zq_in hb, zq_in hb, zy_one hr (hM b) hp⟩
theorem zy_516 {post : SY → Prop} {x : Bool × Int64} {k : Nat} {v : Int64} (hr : r < 32) (hk : k ≤ 32) (e : x = (decide (k = 0), if k = 0 then 0 else v)) (hp : post (cp, nI n, d, nl, md, ex, sk, so, ek, eo, lf, P, O, V, N, M, vp_updL R r (x).2, upd Z r (zq_b (x).1))) : (lN k = 0 → wY_evalRow_516 post v 1 (nI r) cp (nI n) d nl md ex sk so ek eo lf P O V N M R Z) ∧ (¬ lN k = 0 → wY_evalRow_516 post v 0 (nI r) cp (nI n) d nl md ex sk so ek eo lf P O V N M R Z) := by
  unfold wY_evalRow_516
  refine br_c (fun g => zy_set1 hr (zy_fin1 (x := x) ?_ hp)) (fun g => zy_set0 hr (zy_fin0 (x := x) ?_ hp))
  · have g' := (zq_lN0 hk).mp g
    rw [e, decide_eq_true g', if_pos g']
  · have g' : ¬ k = 0 := fun z => g ((zq_lN0 hk).mpr z)
    rw [e, decide_eq_false g', if_neg g']
theorem zy_542 {post : SY → Prop} {x : Bool × Int64} {k : Nat} {v : Int64} (hr : r < 32) (hk : k ≤ 32) (e : x = (decide (k = 0), if k = 0 then 0 else v)) (hp : post (cp, nI n, d, nl, md, ex, sk, so, ek, eo, lf, P, O, V, N, M, vp_updL R r (x).2, upd Z r (zq_b (x).1))) : (lN k = 0 → wY_evalRow_542 post v 1 (nI r) cp (nI n) d nl md ex sk so ek eo lf P O V N M R Z) ∧ (¬ lN k = 0 → wY_evalRow_542 post v 0 (nI r) cp (nI n) d nl md ex sk so ek eo lf P O V N M R Z) := by
  unfold wY_evalRow_542
  refine br_c (fun g => zy_set1 hr (zy_fin1 (x := x) ?_ hp)) (fun g => zy_set0 hr (zy_fin0 (x := x) ?_ hp))
  · have g' := (zq_lN0 hk).mp g
    rw [e, decide_eq_true g', if_pos g']
  · have g' : ¬ k = 0 := fun z => g ((zq_lN0 hk).mpr z)
    rw [e, decide_eq_false g', if_neg g']
theorem zy_562 {post : SY → Prop} {x : Bool × Int64} {k : Nat} {v : Int64} (hr : r < 32) (hk : k ≤ 32) (e : x = (decide (k = 0), if k = 0 then 0 else v)) (hp : post (cp, nI n, d, nl, md, ex, sk, so, ek, eo, lf, P, O, V, N, M, vp_updL R r (x).2, upd Z r (zq_b (x).1))) : (lN k = 0 → wY_evalRow_562 post v 1 (nI r) cp (nI n) d nl md ex sk so ek eo lf P O V N M R Z) ∧ (¬ lN k = 0 → wY_evalRow_562 post v 0 (nI r) cp (nI n) d nl md ex sk so ek eo lf P O V N M R Z) := by
  unfold wY_evalRow_562
  refine br_c (fun g => zy_set1 hr (zy_fin1 (x := x) ?_ hp)) (fun g => zy_set0 hr (zy_fin0 (x := x) ?_ hp))
  · have g' := (zq_lN0 hk).mp g
    rw [e, decide_eq_true g', if_pos g']
  · have g' : ¬ k = 0 := fun z => g ((zq_lN0 hk).mpr z)
    rw [e, decide_eq_false g', if_neg g']
theorem zy_ev5 {post : SY → Prop} (hn : n ≤ 32) (hr : r < 32) (hM : ∀ i, M i = 0 ∨ M i = 1) (hp : post (cp, nI n, d, nl, md, ex, sk, so, ek, eo, lf, P, O, V, N, M, vp_updL R r ((zq_an n P V M (zq_cmp P O N d nl) (zq_yf P (zq_cmp P O N d nl) (zq_q n P (zq_cmp P O N d nl)) O N d md ex sk so ek eo r) 5 arg r)).2, upd Z r (zq_b ((zq_an n P V M (zq_cmp P O N d nl) (zq_yf P (zq_cmp P O N d nl) (zq_q n P (zq_cmp P O N d nl)) O N d md ex sk so ek eo r) 5 arg r)).1))) : wpY_evalRow post (cp, nI n, d, nl, md, ex, sk, so, ek, eo, lf, P, O, V, N, M, R, Z) (nI r) 5 arg := by
  have hk : zq_cn (zq_nv (zq_yf P (zq_cmp P O N d nl) (zq_q n P (zq_cmp P O N d nl)) O N d md ex sk so ek eo r) M) n ≤ 32 := Nat.le_trans (zq_cn_le _ n) hn
  obtain ⟨m, hm⟩ := zq_lp (W := fun m i => wY_evalRow_240 post (nI r) 5 cp (nI n) d nl md ex sk so ek eo lf P O V N M R Z m (zq_bs 5 (zq_cmp P O N d nl) (zq_yf P (zq_cmp P O N d nl) (zq_q n P (zq_cmp P O N d nl)) O N d md ex sk so ek eo r) i) (zq_sm (zq_nv (zq_yf P (zq_cmp P O N d nl) (zq_q n P (zq_cmp P O N d nl)) O N d md ex sk so ek eo r) M) V i) (lN (zq_cn (zq_nv (zq_yf P (zq_cmp P O N d nl) (zq_q n P (zq_cmp P O N d nl)) O N d md ex sk so ek eo r) M) i)) (lN (zq_cn (zq_yf P (zq_cmp P O N d nl) (zq_q n P (zq_cmp P O N d nl)) O N d md ex sk so ek eo r) i)) (zq_mm (zq_nv (zq_yf P (zq_cmp P O N d nl) (zq_q n P (zq_cmp P O N d nl)) O N d md ex sk so ek eo r) M) V (fun x m => decide (x < m)) i) (zq_mm (zq_nv (zq_yf P (zq_cmp P O N d nl) (zq_q n P (zq_cmp P O N d nl)) O N d md ex sk so ek eo r) M) V (fun x m => decide (m < x)) i) (nI i)) n (fun m => by
    rw [wY_evalRow_240]
    dsimp only
    refine br_t (nI_le (Nat.le_refl n) (by omega)) ?_
    rw [zq_bs5 rfl]
    exact br_t rfl (zy_430 hr hM (fun b e => Nat.lt_of_lt_of_le (zq_ex_lt n b e).1 hn) (by rw [zq_an_5] at hp; exact hp))) (fun m i hi ih => zy_step hn hr hi ih)
  rw [zq_bs_0] at hm
  unfold wpY_evalRow
  dsimp only
  exact br_f (show ¬ (5 : Int32) = 0 by decide) (br_f (show ¬ (5 : Int32) = 1 by decide) (br_f (show ¬ (5 : Int32) = 2 by decide) (br_f (show ¬ (5 : Int32) = 3 by decide) (br_f (show ¬ (5 : Int32) = 4 by decide) ⟨m, hm⟩))))
theorem zy_ev6 {post : SY → Prop} (hn : n ≤ 32) (hr : r < 32) (hM : ∀ i, M i = 0 ∨ M i = 1) (hp : post (cp, nI n, d, nl, md, ex, sk, so, ek, eo, lf, P, O, V, N, M, vp_updL R r ((zq_an n P V M (zq_cmp P O N d nl) (zq_yf P (zq_cmp P O N d nl) (zq_q n P (zq_cmp P O N d nl)) O N d md ex sk so ek eo r) 6 arg r)).2, upd Z r (zq_b ((zq_an n P V M (zq_cmp P O N d nl) (zq_yf P (zq_cmp P O N d nl) (zq_q n P (zq_cmp P O N d nl)) O N d md ex sk so ek eo r) 6 arg r)).1))) : wpY_evalRow post (cp, nI n, d, nl, md, ex, sk, so, ek, eo, lf, P, O, V, N, M, R, Z) (nI r) 6 arg := by
  have hk : zq_cn (zq_nv (zq_yf P (zq_cmp P O N d nl) (zq_q n P (zq_cmp P O N d nl)) O N d md ex sk so ek eo r) M) n ≤ 32 := Nat.le_trans (zq_cn_le _ n) hn
  obtain ⟨m, hm⟩ := zq_lp (W := fun m i => wY_evalRow_240 post (nI r) 6 cp (nI n) d nl md ex sk so ek eo lf P O V N M R Z m (zq_bs 6 (zq_cmp P O N d nl) (zq_yf P (zq_cmp P O N d nl) (zq_q n P (zq_cmp P O N d nl)) O N d md ex sk so ek eo r) i) (zq_sm (zq_nv (zq_yf P (zq_cmp P O N d nl) (zq_q n P (zq_cmp P O N d nl)) O N d md ex sk so ek eo r) M) V i) (lN (zq_cn (zq_nv (zq_yf P (zq_cmp P O N d nl) (zq_q n P (zq_cmp P O N d nl)) O N d md ex sk so ek eo r) M) i)) (lN (zq_cn (zq_yf P (zq_cmp P O N d nl) (zq_q n P (zq_cmp P O N d nl)) O N d md ex sk so ek eo r) i)) (zq_mm (zq_nv (zq_yf P (zq_cmp P O N d nl) (zq_q n P (zq_cmp P O N d nl)) O N d md ex sk so ek eo r) M) V (fun x m => decide (x < m)) i) (zq_mm (zq_nv (zq_yf P (zq_cmp P O N d nl) (zq_q n P (zq_cmp P O N d nl)) O N d md ex sk so ek eo r) M) V (fun x m => decide (m < x)) i) (nI i)) n (fun m => by
    rw [wY_evalRow_240]
    dsimp only
    refine br_t (nI_le (Nat.le_refl n) (by omega)) ?_
    rw [zq_bs6 (show ¬ (6 : Int32) = 5 by decide) rfl]
    exact br_f (show ¬ (6 : Int32) = 5 by decide) (br_t rfl (zy_430 hr hM (fun b e => Nat.lt_of_lt_of_le (zq_ex_lt n b e).1 hn) (by rw [zq_an_6] at hp; exact hp)))) (fun m i hi ih => zy_step hn hr hi ih)
  rw [zq_bs_0] at hm
  unfold wpY_evalRow
  dsimp only
  exact br_f (show ¬ (6 : Int32) = 0 by decide) (br_f (show ¬ (6 : Int32) = 1 by decide) (br_f (show ¬ (6 : Int32) = 2 by decide) (br_f (show ¬ (6 : Int32) = 3 by decide) (br_f (show ¬ (6 : Int32) = 4 by decide) ⟨m, hm⟩))))
theorem zy_ev7 {post : SY → Prop} (hn : n ≤ 32) (hr : r < 32) (hM : ∀ i, M i = 0 ∨ M i = 1) (hp : post (cp, nI n, d, nl, md, ex, sk, so, ek, eo, lf, P, O, V, N, M, vp_updL R r ((zq_an n P V M (zq_cmp P O N d nl) (zq_yf P (zq_cmp P O N d nl) (zq_q n P (zq_cmp P O N d nl)) O N d md ex sk so ek eo r) 7 arg r)).2, upd Z r (zq_b ((zq_an n P V M (zq_cmp P O N d nl) (zq_yf P (zq_cmp P O N d nl) (zq_q n P (zq_cmp P O N d nl)) O N d md ex sk so ek eo r) 7 arg r)).1))) : wpY_evalRow post (cp, nI n, d, nl, md, ex, sk, so, ek, eo, lf, P, O, V, N, M, R, Z) (nI r) 7 arg := by
  have hk : zq_cn (zq_nv (zq_yf P (zq_cmp P O N d nl) (zq_q n P (zq_cmp P O N d nl)) O N d md ex sk so ek eo r) M) n ≤ 32 := Nat.le_trans (zq_cn_le _ n) hn
  obtain ⟨m, hm⟩ := zq_lp (W := fun m i => wY_evalRow_240 post (nI r) 7 cp (nI n) d nl md ex sk so ek eo lf P O V N M R Z m (zq_bs 7 (zq_cmp P O N d nl) (zq_yf P (zq_cmp P O N d nl) (zq_q n P (zq_cmp P O N d nl)) O N d md ex sk so ek eo r) i) (zq_sm (zq_nv (zq_yf P (zq_cmp P O N d nl) (zq_q n P (zq_cmp P O N d nl)) O N d md ex sk so ek eo r) M) V i) (lN (zq_cn (zq_nv (zq_yf P (zq_cmp P O N d nl) (zq_q n P (zq_cmp P O N d nl)) O N d md ex sk so ek eo r) M) i)) (lN (zq_cn (zq_yf P (zq_cmp P O N d nl) (zq_q n P (zq_cmp P O N d nl)) O N d md ex sk so ek eo r) i)) (zq_mm (zq_nv (zq_yf P (zq_cmp P O N d nl) (zq_q n P (zq_cmp P O N d nl)) O N d md ex sk so ek eo r) M) V (fun x m => decide (x < m)) i) (zq_mm (zq_nv (zq_yf P (zq_cmp P O N d nl) (zq_q n P (zq_cmp P O N d nl)) O N d md ex sk so ek eo r) M) V (fun x m => decide (m < x)) i) (nI i)) n (fun m => by
    rw [wY_evalRow_240]
    dsimp only
    refine br_t (nI_le (Nat.le_refl n) (by omega)) ?_
    skip
    exact br_f (show ¬ (7 : Int32) = 5 by decide) (br_f (show ¬ (7 : Int32) = 6 by decide) (br_f (show ¬ (7 : Int32) = 8 by decide) (br_f (show ¬ (7 : Int32) = 9 by decide) (br_t rfl (zy_516 hr hk zq_an_7 hp)))))) (fun m i hi ih => zy_step hn hr hi ih)
  rw [zq_bs_0] at hm
  unfold wpY_evalRow
  dsimp only
  exact br_f (show ¬ (7 : Int32) = 0 by decide) (br_f (show ¬ (7 : Int32) = 1 by decide) (br_f (show ¬ (7 : Int32) = 2 by decide) (br_f (show ¬ (7 : Int32) = 3 by decide) (br_f (show ¬ (7 : Int32) = 4 by decide) ⟨m, hm⟩))))
theorem zy_ev8 {post : SY → Prop} (hn : n ≤ 32) (hr : r < 32) (hM : ∀ i, M i = 0 ∨ M i = 1) (hp : post (cp, nI n, d, nl, md, ex, sk, so, ek, eo, lf, P, O, V, N, M, vp_updL R r ((zq_an n P V M (zq_cmp P O N d nl) (zq_yf P (zq_cmp P O N d nl) (zq_q n P (zq_cmp P O N d nl)) O N d md ex sk so ek eo r) 8 arg r)).2, upd Z r (zq_b ((zq_an n P V M (zq_cmp P O N d nl) (zq_yf P (zq_cmp P O N d nl) (zq_q n P (zq_cmp P O N d nl)) O N d md ex sk so ek eo r) 8 arg r)).1))) : wpY_evalRow post (cp, nI n, d, nl, md, ex, sk, so, ek, eo, lf, P, O, V, N, M, R, Z) (nI r) 8 arg := by
  have hk : zq_cn (zq_nv (zq_yf P (zq_cmp P O N d nl) (zq_q n P (zq_cmp P O N d nl)) O N d md ex sk so ek eo r) M) n ≤ 32 := Nat.le_trans (zq_cn_le _ n) hn
  obtain ⟨m, hm⟩ := zq_lp (W := fun m i => wY_evalRow_240 post (nI r) 8 cp (nI n) d nl md ex sk so ek eo lf P O V N M R Z m (zq_bs 8 (zq_cmp P O N d nl) (zq_yf P (zq_cmp P O N d nl) (zq_q n P (zq_cmp P O N d nl)) O N d md ex sk so ek eo r) i) (zq_sm (zq_nv (zq_yf P (zq_cmp P O N d nl) (zq_q n P (zq_cmp P O N d nl)) O N d md ex sk so ek eo r) M) V i) (lN (zq_cn (zq_nv (zq_yf P (zq_cmp P O N d nl) (zq_q n P (zq_cmp P O N d nl)) O N d md ex sk so ek eo r) M) i)) (lN (zq_cn (zq_yf P (zq_cmp P O N d nl) (zq_q n P (zq_cmp P O N d nl)) O N d md ex sk so ek eo r) i)) (zq_mm (zq_nv (zq_yf P (zq_cmp P O N d nl) (zq_q n P (zq_cmp P O N d nl)) O N d md ex sk so ek eo r) M) V (fun x m => decide (x < m)) i) (zq_mm (zq_nv (zq_yf P (zq_cmp P O N d nl) (zq_q n P (zq_cmp P O N d nl)) O N d md ex sk so ek eo r) M) V (fun x m => decide (m < x)) i) (nI i)) n (fun m => by
    rw [wY_evalRow_240]
    dsimp only
    refine br_t (nI_le (Nat.le_refl n) (by omega)) ?_
    skip
    exact br_f (show ¬ (8 : Int32) = 5 by decide) (br_f (show ¬ (8 : Int32) = 6 by decide) (br_t rfl (zy_set0 hr (zy_fin0 zq_an_8 hp))))) (fun m i hi ih => zy_step hn hr hi ih)
  rw [zq_bs_0] at hm
  unfold wpY_evalRow
  dsimp only
  exact br_f (show ¬ (8 : Int32) = 0 by decide) (br_f (show ¬ (8 : Int32) = 1 by decide) (br_f (show ¬ (8 : Int32) = 2 by decide) (br_f (show ¬ (8 : Int32) = 3 by decide) (br_f (show ¬ (8 : Int32) = 4 by decide) ⟨m, hm⟩))))
theorem zy_ev9 {post : SY → Prop} (hn : n ≤ 32) (hr : r < 32) (hM : ∀ i, M i = 0 ∨ M i = 1) (hp : post (cp, nI n, d, nl, md, ex, sk, so, ek, eo, lf, P, O, V, N, M, vp_updL R r ((zq_an n P V M (zq_cmp P O N d nl) (zq_yf P (zq_cmp P O N d nl) (zq_q n P (zq_cmp P O N d nl)) O N d md ex sk so ek eo r) 9 arg r)).2, upd Z r (zq_b ((zq_an n P V M (zq_cmp P O N d nl) (zq_yf P (zq_cmp P O N d nl) (zq_q n P (zq_cmp P O N d nl)) O N d md ex sk so ek eo r) 9 arg r)).1))) : wpY_evalRow post (cp, nI n, d, nl, md, ex, sk, so, ek, eo, lf, P, O, V, N, M, R, Z) (nI r) 9 arg := by
  have hk : zq_cn (zq_nv (zq_yf P (zq_cmp P O N d nl) (zq_q n P (zq_cmp P O N d nl)) O N d md ex sk so ek eo r) M) n ≤ 32 := Nat.le_trans (zq_cn_le _ n) hn
  obtain ⟨m, hm⟩ := zq_lp (W := fun m i => wY_evalRow_240 post (nI r) 9 cp (nI n) d nl md ex sk so ek eo lf P O V N M R Z m (zq_bs 9 (zq_cmp P O N d nl) (zq_yf P (zq_cmp P O N d nl) (zq_q n P (zq_cmp P O N d nl)) O N d md ex sk so ek eo r) i) (zq_sm (zq_nv (zq_yf P (zq_cmp P O N d nl) (zq_q n P (zq_cmp P O N d nl)) O N d md ex sk so ek eo r) M) V i) (lN (zq_cn (zq_nv (zq_yf P (zq_cmp P O N d nl) (zq_q n P (zq_cmp P O N d nl)) O N d md ex sk so ek eo r) M) i)) (lN (zq_cn (zq_yf P (zq_cmp P O N d nl) (zq_q n P (zq_cmp P O N d nl)) O N d md ex sk so ek eo r) i)) (zq_mm (zq_nv (zq_yf P (zq_cmp P O N d nl) (zq_q n P (zq_cmp P O N d nl)) O N d md ex sk so ek eo r) M) V (fun x m => decide (x < m)) i) (zq_mm (zq_nv (zq_yf P (zq_cmp P O N d nl) (zq_q n P (zq_cmp P O N d nl)) O N d md ex sk so ek eo r) M) V (fun x m => decide (m < x)) i) (nI i)) n (fun m => by
    rw [wY_evalRow_240]
    dsimp only
    refine br_t (nI_le (Nat.le_refl n) (by omega)) ?_
    skip
    exact br_f (show ¬ (9 : Int32) = 5 by decide) (br_f (show ¬ (9 : Int32) = 6 by decide) (br_f (show ¬ (9 : Int32) = 8 by decide) (br_t rfl (zy_set0 hr (zy_fin0 zq_an_9 hp)))))) (fun m i hi ih => zy_step hn hr hi ih)
  rw [zq_bs_0] at hm
  unfold wpY_evalRow
  dsimp only
  exact br_f (show ¬ (9 : Int32) = 0 by decide) (br_f (show ¬ (9 : Int32) = 1 by decide) (br_f (show ¬ (9 : Int32) = 2 by decide) (br_f (show ¬ (9 : Int32) = 3 by decide) (br_f (show ¬ (9 : Int32) = 4 by decide) ⟨m, hm⟩))))
theorem zy_ev10 {post : SY → Prop} (hn : n ≤ 32) (hr : r < 32) (hM : ∀ i, M i = 0 ∨ M i = 1) (hp : post (cp, nI n, d, nl, md, ex, sk, so, ek, eo, lf, P, O, V, N, M, vp_updL R r ((zq_an n P V M (zq_cmp P O N d nl) (zq_yf P (zq_cmp P O N d nl) (zq_q n P (zq_cmp P O N d nl)) O N d md ex sk so ek eo r) 10 arg r)).2, upd Z r (zq_b ((zq_an n P V M (zq_cmp P O N d nl) (zq_yf P (zq_cmp P O N d nl) (zq_q n P (zq_cmp P O N d nl)) O N d md ex sk so ek eo r) 10 arg r)).1))) : wpY_evalRow post (cp, nI n, d, nl, md, ex, sk, so, ek, eo, lf, P, O, V, N, M, R, Z) (nI r) 10 arg := by
  have hk : zq_cn (zq_nv (zq_yf P (zq_cmp P O N d nl) (zq_q n P (zq_cmp P O N d nl)) O N d md ex sk so ek eo r) M) n ≤ 32 := Nat.le_trans (zq_cn_le _ n) hn
  obtain ⟨m, hm⟩ := zq_lp (W := fun m i => wY_evalRow_240 post (nI r) 10 cp (nI n) d nl md ex sk so ek eo lf P O V N M R Z m (zq_bs 10 (zq_cmp P O N d nl) (zq_yf P (zq_cmp P O N d nl) (zq_q n P (zq_cmp P O N d nl)) O N d md ex sk so ek eo r) i) (zq_sm (zq_nv (zq_yf P (zq_cmp P O N d nl) (zq_q n P (zq_cmp P O N d nl)) O N d md ex sk so ek eo r) M) V i) (lN (zq_cn (zq_nv (zq_yf P (zq_cmp P O N d nl) (zq_q n P (zq_cmp P O N d nl)) O N d md ex sk so ek eo r) M) i)) (lN (zq_cn (zq_yf P (zq_cmp P O N d nl) (zq_q n P (zq_cmp P O N d nl)) O N d md ex sk so ek eo r) i)) (zq_mm (zq_nv (zq_yf P (zq_cmp P O N d nl) (zq_q n P (zq_cmp P O N d nl)) O N d md ex sk so ek eo r) M) V (fun x m => decide (x < m)) i) (zq_mm (zq_nv (zq_yf P (zq_cmp P O N d nl) (zq_q n P (zq_cmp P O N d nl)) O N d md ex sk so ek eo r) M) V (fun x m => decide (m < x)) i) (nI i)) n (fun m => by
    rw [wY_evalRow_240]
    dsimp only
    refine br_t (nI_le (Nat.le_refl n) (by omega)) ?_
    skip
    exact br_f (show ¬ (10 : Int32) = 5 by decide) (br_f (show ¬ (10 : Int32) = 6 by decide) (br_f (show ¬ (10 : Int32) = 8 by decide) (br_f (show ¬ (10 : Int32) = 9 by decide) (br_f (show ¬ (10 : Int32) = 7 by decide) (br_t rfl (zy_542 hr hk zq_mn10.symm hp))))))) (fun m i hi ih => zy_step hn hr hi ih)
  rw [zq_bs_0] at hm
  unfold wpY_evalRow
  dsimp only
  exact br_f (show ¬ (10 : Int32) = 0 by decide) (br_f (show ¬ (10 : Int32) = 1 by decide) (br_f (show ¬ (10 : Int32) = 2 by decide) (br_f (show ¬ (10 : Int32) = 3 by decide) (br_f (show ¬ (10 : Int32) = 4 by decide) ⟨m, hm⟩))))
theorem zy_ev11 {post : SY → Prop} (hn : n ≤ 32) (hr : r < 32) (hM : ∀ i, M i = 0 ∨ M i = 1) (hp : post (cp, nI n, d, nl, md, ex, sk, so, ek, eo, lf, P, O, V, N, M, vp_updL R r ((zq_an n P V M (zq_cmp P O N d nl) (zq_yf P (zq_cmp P O N d nl) (zq_q n P (zq_cmp P O N d nl)) O N d md ex sk so ek eo r) 11 arg r)).2, upd Z r (zq_b ((zq_an n P V M (zq_cmp P O N d nl) (zq_yf P (zq_cmp P O N d nl) (zq_q n P (zq_cmp P O N d nl)) O N d md ex sk so ek eo r) 11 arg r)).1))) : wpY_evalRow post (cp, nI n, d, nl, md, ex, sk, so, ek, eo, lf, P, O, V, N, M, R, Z) (nI r) 11 arg := by
  have hk : zq_cn (zq_nv (zq_yf P (zq_cmp P O N d nl) (zq_q n P (zq_cmp P O N d nl)) O N d md ex sk so ek eo r) M) n ≤ 32 := Nat.le_trans (zq_cn_le _ n) hn
  obtain ⟨m, hm⟩ := zq_lp (W := fun m i => wY_evalRow_240 post (nI r) 11 cp (nI n) d nl md ex sk so ek eo lf P O V N M R Z m (zq_bs 11 (zq_cmp P O N d nl) (zq_yf P (zq_cmp P O N d nl) (zq_q n P (zq_cmp P O N d nl)) O N d md ex sk so ek eo r) i) (zq_sm (zq_nv (zq_yf P (zq_cmp P O N d nl) (zq_q n P (zq_cmp P O N d nl)) O N d md ex sk so ek eo r) M) V i) (lN (zq_cn (zq_nv (zq_yf P (zq_cmp P O N d nl) (zq_q n P (zq_cmp P O N d nl)) O N d md ex sk so ek eo r) M) i)) (lN (zq_cn (zq_yf P (zq_cmp P O N d nl) (zq_q n P (zq_cmp P O N d nl)) O N d md ex sk so ek eo r) i)) (zq_mm (zq_nv (zq_yf P (zq_cmp P O N d nl) (zq_q n P (zq_cmp P O N d nl)) O N d md ex sk so ek eo r) M) V (fun x m => decide (x < m)) i) (zq_mm (zq_nv (zq_yf P (zq_cmp P O N d nl) (zq_q n P (zq_cmp P O N d nl)) O N d md ex sk so ek eo r) M) V (fun x m => decide (m < x)) i) (nI i)) n (fun m => by
    rw [wY_evalRow_240]
    dsimp only
    refine br_t (nI_le (Nat.le_refl n) (by omega)) ?_
    skip
    exact br_f (show ¬ (11 : Int32) = 5 by decide) (br_f (show ¬ (11 : Int32) = 6 by decide) (br_f (show ¬ (11 : Int32) = 8 by decide) (br_f (show ¬ (11 : Int32) = 9 by decide) (br_f (show ¬ (11 : Int32) = 7 by decide) (br_f (show ¬ (11 : Int32) = 10 by decide) (zy_562 hr hk zq_mx11.symm hp))))))) (fun m i hi ih => zy_step hn hr hi ih)
  rw [zq_bs_0] at hm
  unfold wpY_evalRow
  dsimp only
  exact br_f (show ¬ (11 : Int32) = 0 by decide) (br_f (show ¬ (11 : Int32) = 1 by decide) (br_f (show ¬ (11 : Int32) = 2 by decide) (br_f (show ¬ (11 : Int32) = 3 by decide) (br_f (show ¬ (11 : Int32) = 4 by decide) ⟨m, hm⟩))))
end ZQG
end
section
section ZQH
/-! the reference's compute and rowAt -/
variable {cp d nl md ex sk so ek eo lf f arg : Int32} {P O V N M Z A F : Nat → Int32} {R : Nat → Int64} {n a b r s i : Nat}
theorem zq_f12 (h0 : ¬ f < 0) (h1 : f ≤ 11) : f = 0 ∨ f = 1 ∨ f = 2 ∨ f = 3 ∨ f = 4 ∨ f = 5 ∨ f = 6 ∨ f = 7 ∨ f = 8 ∨ f = 9 ∨ f = 10 ∨ f = 11 := by
  obtain ⟨j, hj, rfl⟩ := nI_of2 (M := 11) (n := 11) (by decide) h0 h1
  have h : j = 0 ∨ j = 1 ∨ j = 2 ∨ j = 3 ∨ j = 4 ∨ j = 5 ∨ j = 6 ∨ j = 7 ∨ j = 8 ∨ j = 9 ∨ j = 10 ∨ j = 11 := by omega
  rcases h with rfl | rfl | rfl | rfl | rfl | rfl | rfl | rfl | rfl | rfl | rfl | rfl <;> decide
theorem zy_ev {post : SY → Prop} (hf : f = 0 ∨ f = 1 ∨ f = 2 ∨ f = 3 ∨ f = 4 ∨ f = 5 ∨ f = 6 ∨ f = 7 ∨ f = 8 ∨ f = 9 ∨ f = 10 ∨ f = 11) (hn : n ≤ 32) (hr : r < 32) (hM : ∀ i, M i = 0 ∨ M i = 1) (hp : post (cp, nI n, d, nl, md, ex, sk, so, ek, eo, lf, P, O, V, N, M, vp_updL R r ((zq_an n P V M (zq_cmp P O N d nl) (zq_yf P (zq_cmp P O N d nl) (zq_q n P (zq_cmp P O N d nl)) O N d md ex sk so ek eo r) f arg r)).2, upd Z r (zq_b ((zq_an n P V M (zq_cmp P O N d nl) (zq_yf P (zq_cmp P O N d nl) (zq_q n P (zq_cmp P O N d nl)) O N d md ex sk so ek eo r) f arg r)).1))) : wpY_evalRow post (cp, nI n, d, nl, md, ex, sk, so, ek, eo, lf, P, O, V, N, M, R, Z) (nI r) f arg := by
  rcases hf with rfl | rfl | rfl | rfl | rfl | rfl | rfl | rfl | rfl | rfl | rfl | rfl
  · exact zy_ev0 hn hr hp
  · exact zy_ev1 hn hr hp
  · exact zy_ev2 hn hr hp
  · exact zy_ev3 hn hr hM hp
  · exact zy_ev4 hn hr hM hp
  · exact zy_ev5 hn hr hM hp
  · exact zy_ev6 hn hr hM hp
  · exact zy_ev7 hn hr hM hp
  · exact zy_ev8 hn hr hM hp
  · exact zy_ev9 hn hr hM hp
  · exact zy_ev10 hn hr hM hp
  · exact zy_ev11 hn hr hM hp
theorem zy_loop {post : Int32 → SY → Prop} (hf : f = 0 ∨ f = 1 ∨ f = 2 ∨ f = 3 ∨ f = 4 ∨ f = 5 ∨ f = 6 ∨ f = 7 ∨ f = 8 ∨ f = 9 ∨ f = 10 ∨ f = 11) (hn : n ≤ 32) (hM : ∀ i, M i = 0 ∨ M i = 1) (hp : post 1 (cp, nI n, d, nl, md, ex, sk, so, ek, eo, f, P, O, V, N, M, zq_mkL (fun r => (zq_an n P V M (zq_cmp P O N d nl) (zq_yf P (zq_cmp P O N d nl) (zq_q n P (zq_cmp P O N d nl)) O N d md ex sk so ek eo r) f arg r).2) R n, zq_mk (fun r => zq_b (zq_an n P V M (zq_cmp P O N d nl) (zq_yf P (zq_cmp P O N d nl) (zq_q n P (zq_cmp P O N d nl)) O N d md ex sk so ek eo r) f arg r).1) Z n)) : ∃ m, wY_compute_102 post f arg m 0 cp (nI n) d nl md ex sk so ek eo lf P O V N M R Z := by
  refine zq_lp (W := fun m i => wY_compute_102 post f arg m (nI i) cp (nI n) d nl md ex sk so ek eo lf P O V N M (zq_mkL (fun r => (zq_an n P V M (zq_cmp P O N d nl) (zq_yf P (zq_cmp P O N d nl) (zq_q n P (zq_cmp P O N d nl)) O N d md ex sk so ek eo r) f arg r).2) R i) (zq_mk (fun r => zq_b (zq_an n P V M (zq_cmp P O N d nl) (zq_yf P (zq_cmp P O N d nl) (zq_q n P (zq_cmp P O N d nl)) O N d md ex sk so ek eo r) f arg r).1) Z i)) n (fun m => ?_) (fun m i hi ih => ?_)
  · exact br_t (nI_le (Nat.le_refl n) (by omega)) hp
  · exact br_f (nI_ge hi (by omega)) (zy_ev hf hn (by omega) hM (nm_r (nI_1 i) ih))
theorem zy_28 {post : Int32 → SY → Prop} (hf : f = 0 ∨ f = 1 ∨ f = 2 ∨ f = 3 ∨ f = 4 ∨ f = 5 ∨ f = 6 ∨ f = 7 ∨ f = 8 ∨ f = 9 ∨ f = 10 ∨ f = 11) (hn : n ≤ 32) (hM : ∀ i, M i = 0 ∨ M i = 1)
    (h1 : md = 1 ∧ d = 0 ∧ (zq_to sk = true ∨ zq_to ek = true) → post 0 (cp, nI n, d, nl, md, ex, sk, so, ek, eo, lf, P, O, V, N, M, R, Z))
    (h2 : ¬ (md = 1 ∧ d = 0 ∧ (zq_to sk = true ∨ zq_to ek = true)) → post 1 (cp, nI n, d, nl, md, ex, sk, so, ek, eo, f, P, O, V, N, M, zq_mkL (fun r => (zq_an n P V M (zq_cmp P O N d nl) (zq_yf P (zq_cmp P O N d nl) (zq_q n P (zq_cmp P O N d nl)) O N d md ex sk so ek eo r) f arg r).2) R n, zq_mk (fun r => zq_b (zq_an n P V M (zq_cmp P O N d nl) (zq_yf P (zq_cmp P O N d nl) (zq_q n P (zq_cmp P O N d nl)) O N d md ex sk so ek eo r) f arg r).1) Z n)) : wY_compute_28 post f arg cp (nI n) d nl md ex sk so ek eo lf P O V N M R Z := by
  have t1 : ∀ k : Int32, k = 1 → zq_to k = true := fun k e => by rw [e]; decide
  have t3 : ∀ k : Int32, k = 3 → zq_to k = true := fun k e => by rw [e]; decide
  have t0 : ∀ k : Int32, ¬ k = 1 → ¬ k = 3 → ¬ zq_to k = true := fun k a b z => by
    unfold zq_to at z
    rw [decide_eq_false a, decide_eq_false b] at z
    exact absurd z (by decide)
  have L : ∀ x3 z0 : Int32, (x3 = 0 ↔ ¬ zq_to sk = true) → (z0 = 0 ↔ ¬ zq_to ek = true) → wY_compute_71 post f arg x3 z0 cp (nI n) d nl md ex sk so ek eo lf P O V N M R Z := by
    intro x3 z0 hx hz
    refine br_c (fun m1 => br_c (fun d0 => br_c (fun x0 => br_c (fun q0 => zy_loop hf hn hM (h2 ?_)) (fun q0 => h1 ⟨m1, d0, Or.inr ?_⟩)) (fun x0 => h1 ⟨m1, d0, Or.inl ?_⟩)) (fun d0 => zy_loop hf hn hM (h2 (fun z => d0 z.2.1)))) (fun m1 => zy_loop hf hn hM (h2 (fun z => m1 z.1)))
    · intro z
      rcases z.2.2 with w | w
      · exact hx.mp x0 w
      · exact hz.mp q0 w
    · exact Decidable.byContradiction (fun w => q0 (hz.mpr w))
    · exact Decidable.byContradiction (fun w => x0 (hx.mpr w))
  have K : ∀ x3 : Int32, (x3 = 0 ↔ ¬ zq_to sk = true) → wY_compute_49 post f arg x3 cp (nI n) d nl md ex sk so ek eo lf P O V N M R Z := by
    intro x3 hx
    exact br_c (fun g => L x3 1 hx ⟨fun z => absurd z zq_n10, fun z => absurd (t1 _ g) z⟩) (fun g => br_c (fun g3 => L x3 1 hx ⟨fun z => absurd z zq_n10, fun z => absurd (t3 _ g3) z⟩) (fun g3 => L x3 0 hx ⟨fun _ => t0 _ g g3, fun _ => rfl⟩))
  exact br_c (fun g => K 1 ⟨fun z => absurd z zq_n10, fun z => absurd (t1 _ g) z⟩) (fun g => br_c (fun g3 => K 1 ⟨fun z => absurd z zq_n10, fun z => absurd (t3 _ g3) z⟩) (fun g3 => K 0 ⟨fun _ => t0 _ g g3, fun _ => rfl⟩))
def zq_ra (c : Nat → Nat → Int32) (n : Nat) (p : Int32) : Nat → Bool := fun j => decide (nI (zq_rb c n j) = p)
theorem zy_ra_in {post J : Int32 → Prop} {p : Int32} (hn : n ≤ 32) (hr : r < 32) (h1 : zq_ra (zq_cmp P O N d nl) n p r = true → post (nI r)) (h2 : zq_ra (zq_cmp P O N d nl) n p r = false → J (nI (r + 1))) : ∃ m, wY_rowAt_29 post J p (nI r) cp (nI n) d nl md ex sk so ek eo lf P O V N M R Z m 0 0 := by
  refine zq_lp (W := fun m i => wY_rowAt_29 post J p (nI r) cp (nI n) d nl md ex sk so ek eo lf P O V N M R Z m (nI (zq_cn (fun s => zq_bef (zq_cmp P O N d nl) s r) i)) (nI i)) n (fun m => ?_) (fun m i hi ih => ?_)
  · exact br_t (nI_le (Nat.le_refl n) (by omega)) (br_c (fun g => h1 (decide_eq_true g)) (fun g => nm_r (nI_1 r) (h2 (decide_eq_false g))))
  · refine br_f (nI_ge hi (by omega)) (zy_before (by omega) hr (zq_br (fun g => nm_r (nI_1 i) ?_) (fun g => nm_r (nI_1 _) (nm_r (nI_1 i) ?_))))
    · rw [zq_cn_f (p := fun s => zq_bef (zq_cmp P O N d nl) s r) g] at ih; exact ih
    · rw [zq_cn_t (p := fun s => zq_bef (zq_cmp P O N d nl) s r) g] at ih; exact ih
theorem zy_rowAt {post : Int32 → Prop} {p : Int32} (hn : n ≤ 32) (hp : post (zq_o (zq_fd (zq_ra (zq_cmp P O N d nl) n p) n))) : wpY_rowAt post (cp, nI n, d, nl, md, ex, sk, so, ek, eo, lf, P, O, V, N, M, R, Z) p := by
  have hlt : ∀ j, j < n → zq_rb (zq_cmp P O N d nl) n j < n := fun j hj => zq_rb_lt zq_or hj
  unfold wpY_rowAt
  dsimp only
  refine br_c (fun g => zq_p hp ?_) (fun g => br_c (fun g2 => ?_) (fun g2 => zq_p hp ?_))
  · have hz : ∀ j, j < n → zq_ra (zq_cmp P O N d nl) n p j = false := fun j hj => decide_eq_false (fun e => by
      have := hlt j hj
      rw [← e] at g
      exact nI_pos (by omega) g)
    rw [zq_fd_n n hz]
    rfl
  · obtain ⟨m, hm⟩ := zq_lp (W := fun m i => (∀ j, j < i → zq_ra (zq_cmp P O N d nl) n p j = false) → wY_rowAt_16 post p cp (nI n) d nl md ex sk so ek eo lf P O V N M R Z m (nI i)) n (fun m hj => br_t (nI_le (Nat.le_refl n) (by omega)) (zq_p hp (by rw [zq_fd_n n hj]; rfl))) (fun m i hi ih hj => br_f (nI_ge hi (by omega)) (zy_ra_in hn (by omega) (fun h => zq_p hp (by rw [zq_fd_s hj h n hi]; rfl)) (fun h => ih (fun j hj' => by
      by_cases e : j = i
      · rw [e]; exact h
      · exact hj j (by omega)))))
    exact ⟨m, hm (fun j hj => absurd hj (Nat.not_lt_zero j))⟩
  · have hz : ∀ j, j < n → zq_ra (zq_cmp P O N d nl) n p j = false := fun j hj => decide_eq_false (fun e => by
      have := hlt j hj
      rw [← e] at g2
      exact g2 (nI_lt this (by omega)))
    rw [zq_fd_n n hz]
    rfl
end ZQH
end
section
section ZQI
/-! the class's private methods that read -/
variable {cp d nl md ex sk so ek eo lf f arg : Int32} {P O V N M Z A F : Nat → Int32} {R : Nat → Int64} {n a b r s i : Nat}
variable {fr : Nat → Bool} {k o : Int32}
theorem zx_cmp {post : Int32 → Prop} (hN : ∀ i, N i = 0 ∨ N i = 1) (ha : a < 32) (hb : b < 32) (hp : post (zq_cmp P O N d nl a b)) : wpX_compareKeys post (cp, nI n, d, nl, md, ex, sk, so, ek, eo, lf, P, O, V, N, M, R, Z, A, F) (nI a) (nI b) := by
  have ia := zq_in ha
  have ib := zq_in hb
  unfold wpX_compareKeys wX_compareKeys_134 wX_compareKeys_147 wX_compareKeys_79
  dsimp only
  rw [zq_cl ha, zq_cl hb]
  unfold zq_cmp at hp
  refine ⟨ia, ib, br_c (fun h1 => br_c (fun h2 => zq_p hp ?_) (fun h2 => ⟨ia, ib, br_c (fun h3 => ⟨ia, br_c (fun h4 => ⟨ia, ib, br_c (fun h5 => zq_p hp ?_) (fun h5 => ⟨ia, ib, br_c (fun h6 => br_c (fun h7 => br_f zq_n01 (zq_p hp ?_)) (fun h7 => br_t rfl (zq_p hp ?_))) (fun h6 => br_c (fun h7 => br_t rfl (zq_p hp ?_)) (fun h7 => br_f zq_n10 (zq_p hp ?_)))⟩)⟩) (fun h4 => zq_p hp ?_)⟩) (fun h3 => ⟨ia, br_c (fun h4 => br_c (fun h5 => zq_p hp ?_) (fun h5 => zq_p hp ?_)) (fun h4 => br_c (fun h5 => zq_p hp ?_) (fun h5 => zq_p hp ?_))⟩)⟩)) (fun h1 => ⟨ia, ib, br_c (fun h2 => zq_p hp ?_) (fun h2 => zq_p hp ?_)⟩)⟩
  · rw [if_pos h1, if_pos h2]
  · rw [if_pos h1, if_neg h2, if_pos h4, if_pos (h3.symm.trans h4), if_pos h5]
  · rw [if_pos h1, if_neg h2, if_pos h4, if_pos (h3.symm.trans h4), if_neg h5, if_neg (Int32.not_lt.mpr h6), if_pos h7]
  · rw [if_pos h1, if_neg h2, if_pos h4, if_pos (h3.symm.trans h4), if_neg h5, if_neg (Int32.not_lt.mpr h6), if_neg h7]
  · rw [if_pos h1, if_neg h2, if_pos h4, if_pos (h3.symm.trans h4), if_neg h5, if_pos (Int32.not_le.mp h6), if_pos h7]
  · rw [if_pos h1, if_neg h2, if_pos h4, if_pos (h3.symm.trans h4), if_neg h5, if_pos (Int32.not_le.mp h6), if_neg h7]
  · rw [if_pos h1, if_neg h2, if_neg h4, if_neg (fun z => h4 (h3.trans z))]
  · have na : ¬ N a = 0 := by rw [h5]; exact zq_n10
    have nb : N b = 0 := (hN b).resolve_right (fun z => h3 (h5.trans z.symm))
    rw [if_pos h1, if_neg h2, if_neg na, if_pos nb, if_pos h4]
  · have na : N a = 0 := (hN a).resolve_right h5
    have nb : ¬ N b = 0 := fun z => h3 (na.trans z.symm)
    rw [if_pos h1, if_neg h2, if_pos na, if_neg nb, if_pos h4]
  · have nb : ¬ N b = 0 := fun z => h3 (h5.trans z.symm)
    rw [if_pos h1, if_neg h2, if_pos h5, if_neg nb, if_neg h4]
  · have n1 : N a = 1 := (hN a).resolve_left h5
    have nb : N b = 0 := (hN b).resolve_right (fun z => h3 (n1.trans z.symm))
    rw [if_pos h1, if_neg h2, if_neg h5, if_pos nb, if_neg h4]
  · rw [if_neg h1, if_neg (Int32.not_lt.mpr h2)]
  · rw [if_neg h1, if_pos (Int32.not_le.mp h2)]
theorem zx_before {post : Int32 → Prop} (hN : ∀ i, N i = 0 ∨ N i = 1) (ha : a < 32) (hb : b < 32) (hp : post (zq_b (zq_bef (zq_cmp P O N d nl) a b))) : wpX_comesBefore post (cp, nI n, d, nl, md, ex, sk, so, ek, eo, lf, P, O, V, N, M, R, Z, A, F) (nI a) (nI b) := by
  unfold wpX_comesBefore
  dsimp only
  refine zx_cmp hN ha hb ?_
  unfold zq_bef at hp
  refine br_c (fun h => zq_p hp ?_) (fun h => br_c (fun h0 => br_c (fun g => zq_p hp ?_) (fun g => zq_p hp ?_)) (fun h0 => zq_p hp ?_))
  · rw [if_neg (fun z => by rw [z] at h; exact absurd h (by decide)), decide_eq_true h, zq_bt]
  · have g' := (nI_leI (a := b) (b := a) (by omega) (by omega)).mp g
    rw [if_pos h0, decide_eq_false (by omega), zq_bf]
  · have g' : ¬ b ≤ a := fun z => g ((nI_leI (a := b) (b := a) (by omega) (by omega)).mpr z)
    rw [if_pos h0, decide_eq_true (by omega), zq_bt]
  · rw [if_neg h0, decide_eq_false h, zq_bf]
theorem zx_key {post : Int32 → Prop} (hN : ∀ i, N i = 0 ∨ N i = 1) (hs : s < 32) (hr : r < 32) (hp : post (zq_b (zq_rk P (zq_cmp P O N d nl) r s))) : wpX_isKeyBefore post (cp, nI n, d, nl, md, ex, sk, so, ek, eo, lf, P, O, V, N, M, R, Z, A, F) (nI s) (nI r) := by
  unfold wpX_isKeyBefore
  dsimp only
  rw [zq_cl hs, zq_cl hr]
  refine ⟨zq_in hs, zq_in hr, br_c (fun h => zx_cmp hN hs hr (br_c (fun g => zq_p hp ?_) (fun g => zq_p hp ?_))) (fun h => zq_p hp ?_)⟩
  · unfold zq_rk; rw [decide_eq_false (Int32.not_lt.mpr g), Bool.and_false, zq_bf]
  · unfold zq_rk; rw [decide_eq_true h, decide_eq_true (Int32.not_le.mp g)]; rfl
  · unfold zq_rk; rw [decide_eq_false h, Bool.false_and, zq_bf]
theorem zx_pos {post : Int32 → Prop} (hN : ∀ i, N i = 0 ∨ N i = 1) (hn : n ≤ 32) (hr : r < 32) (hp : post ((zq_q n P (zq_cmp P O N d nl)) r)) : wpX_partitionRowsBefore post (cp, nI n, d, nl, md, ex, sk, so, ek, eo, lf, P, O, V, N, M, R, Z, A, F) (nI r) := by
  unfold wpX_partitionRowsBefore
  dsimp only
  refine zq_lp (W := fun m i => wX_partitionRowsBefore_4 post (nI r) cp (nI n) d nl md ex sk so ek eo lf P O V N M R Z A F m (nI (zq_cn (zq_pp P (zq_cmp P O N d nl) r) i)) (nI i)) n (fun m => ?_) (fun m i hi ih => ?_)
  · exact br_t (nI_le (Nat.le_refl n) (by omega)) hp
  · rw [wX_partitionRowsBefore_4]
    dsimp only
    rw [zq_cl hr, zq_cl (show i < 32 by omega)]
    refine br_f (nI_ge hi (by omega)) ⟨zq_in (by omega), zq_in hr, br_c (fun h => zx_before hN (by omega) hr (zq_br (fun g => nm_r (nI_1 i) ?_) (fun g => nm_r (nI_1 _) (nm_r (nI_1 i) ?_)))) (fun h => nm_r (nI_1 i) ?_)⟩
    · rw [zq_cn_f (show zq_pp P (zq_cmp P O N d nl) r i = false by simp [zq_pp, g])] at ih; exact ih
    · rw [zq_cn_t (show zq_pp P (zq_cmp P O N d nl) r i = true by simp [zq_pp, h, g])] at ih; exact ih
    · rw [zq_cn_f (show zq_pp P (zq_cmp P O N d nl) r i = false by simp [zq_pp, h])] at ih; exact ih
theorem zx_rb {post : Int32 → Prop} (hN : ∀ i, N i = 0 ∨ N i = 1) (hn : n ≤ 32) (hr : r < 32) (hp : post (nI (zq_rb (zq_cmp P O N d nl) n r))) : wpX_rowsBefore post (cp, nI n, d, nl, md, ex, sk, so, ek, eo, lf, P, O, V, N, M, R, Z, A, F) (nI r) := by
  unfold wpX_rowsBefore
  dsimp only
  refine zq_lp (W := fun m i => wX_rowsBefore_4 post (nI r) cp (nI n) d nl md ex sk so ek eo lf P O V N M R Z A F m (nI (zq_cn (fun s => zq_bef (zq_cmp P O N d nl) s r) i)) (nI i)) n (fun m => ?_) (fun m i hi ih => ?_)
  · exact br_t (nI_le (Nat.le_refl n) (by omega)) hp
  · refine br_f (nI_ge hi (by omega)) (zx_before hN (by omega) hr (zq_br (fun g => nm_r (nI_1 i) ?_) (fun g => nm_r (nI_1 _) (nm_r (nI_1 i) ?_))))
    · rw [zq_cn_f (p := fun s => zq_bef (zq_cmp P O N d nl) s r) g] at ih; exact ih
    · rw [zq_cn_t (p := fun s => zq_bef (zq_cmp P O N d nl) s r) g] at ih; exact ih
theorem zx_rowAt {post : Int32 → Prop} {p : Int32} (hN : ∀ i, N i = 0 ∨ N i = 1) (hn : n ≤ 32) (hp : post (zq_o (zq_fd (zq_ra (zq_cmp P O N d nl) n p) n))) : wpX_rowAt post (cp, nI n, d, nl, md, ex, sk, so, ek, eo, lf, P, O, V, N, M, R, Z, A, F) p := by
  unfold wpX_rowAt
  dsimp only
  obtain ⟨m, hm⟩ := zq_lp (W := fun m i => (∀ j, j < i → zq_ra (zq_cmp P O N d nl) n p j = false) → wX_rowAt_2 post p cp (nI n) d nl md ex sk so ek eo lf P O V N M R Z A F m (nI i)) n (fun m hj => br_t (nI_le (Nat.le_refl n) (by omega)) (zq_p hp (by rw [zq_fd_n n hj]; rfl))) (fun m i hi ih hj => br_f (nI_ge hi (by omega)) (zx_rb hN hn (by omega) (br_c (fun g => zq_p hp (by rw [zq_fd_s hj (show zq_ra (zq_cmp P O N d nl) n p i = true from decide_eq_true g) n hi]; rfl)) (fun g => nm_r (nI_1 i) (ih (fun j hj' => by
      by_cases e : j = i
      · rw [e]; exact decide_eq_false g
      · exact hj j (by omega)))))))
  exact ⟨m, hm (fun j hj => absurd hj (Nat.not_lt_zero j))⟩
theorem zx_mark {post : SX → Prop} (hN : ∀ i, N i = 0 ∨ N i = 1) (hn : n ≤ 32) (hp : post (cp, nI n, d, nl, md, ex, sk, so, ek, eo, lf, P, O, V, N, M, R, Z, zq_mk (zq_q n P (zq_cmp P O N d nl)) A n, F)) : wpX_markPositions post (cp, nI n, d, nl, md, ex, sk, so, ek, eo, lf, P, O, V, N, M, R, Z, A, F) := by
  unfold wpX_markPositions
  dsimp only
  refine zq_lp (W := fun m i => wX_markPositions_2 post cp (nI n) d nl md ex sk so ek eo lf m (nI i) P O V N M R Z (zq_mk (zq_q n P (zq_cmp P O N d nl)) A i) F) n (fun m => ?_) (fun m i hi ih => ?_)
  · exact br_t (nI_le (Nat.le_refl n) (by omega)) hp
  · rw [wX_markPositions_2]
    dsimp only
    rw [zq_cl (show i < 32 by omega)]
    exact br_f (nI_ge hi (by omega)) (zx_pos hN hn (by omega) ⟨zq_in (by omega), nm_e (nm_r (nI_1 i) ih)⟩)
theorem zx_to {post : Int32 → Prop} (hp : post (zq_b (zq_to k))) : wpX_takesOffset post k := by
  unfold zq_to at hp
  refine br_c (fun h => zq_p hp ?_) (fun h => br_c (fun g => zq_p hp ?_) (fun g => zq_p hp ?_))
  · rw [decide_eq_true h, Bool.true_or, zq_bt]
  · rw [decide_eq_true g, Bool.or_true, zq_bt]
  · rw [decide_eq_false h, decide_eq_false g]; rfl
def zq_ms (d md sk ek : Int32) : Bool := decide (md = 1) && (decide (d = 0) && (zq_to sk || zq_to ek))
theorem zx_miss {post : Int32 → Prop} (hp : post (zq_b (zq_ms d md sk ek))) : wpX_needsMissingOrder post (cp, nI n, d, nl, md, ex, sk, so, ek, eo, lf, P, O, V, N, M, R, Z, A, F) := by
  unfold wpX_needsMissingOrder
  dsimp only
  unfold zq_ms at hp
  refine br_c (fun h => br_c (fun g => zx_to (zq_br (fun t => zx_to (zq_br (fun t2 => zq_p hp ?_) (fun t2 => zq_p hp ?_))) (fun t => zq_p hp ?_))) (fun g => zq_p hp ?_)) (fun h => zq_p hp ?_)
  · rw [t, t2, Bool.or_false, Bool.and_false, Bool.and_false, zq_bf]
  · rw [decide_eq_true h, decide_eq_true g, t, t2]; rfl
  · rw [decide_eq_true h, decide_eq_true g, t]; rfl
  · rw [decide_eq_false g, Bool.false_and, Bool.and_false, zq_bf]
  · rw [decide_eq_false h, Bool.false_and, zq_bf]
theorem zx_pe {post : Int32 → Prop} (hr : r < 32) (hp : post (zq_b (zq_pe md k N r))) : wpX_isBoundByPeers post (cp, nI n, d, nl, md, ex, sk, so, ek, eo, lf, P, O, V, N, M, R, Z, A, F) k (nI r) := by
  unfold wpX_isBoundByPeers
  dsimp only
  rw [zq_cl hr]
  unfold zq_pe at hp
  refine br_c (fun h => zx_to (zq_br (fun t => zq_p hp ?_) (fun t => ⟨zq_in hr, br_c (fun g => zq_p hp ?_) (fun g => zq_p hp ?_)⟩))) (fun h => zq_p hp ?_)
  · rw [decide_eq_true h, t]; rfl
  · rw [decide_eq_true h, t, decide_eq_true g]; rfl
  · rw [decide_eq_true h, t, decide_eq_false g]; rfl
  · rw [decide_eq_false h, Bool.false_and, zq_bf]
theorem zx_hd {post : Int32 → Prop} (hs : s < 32) (hp : post (zq_b (zq_hd md N s))) : wpX_hasDistance post (cp, nI n, d, nl, md, ex, sk, so, ek, eo, lf, P, O, V, N, M, R, Z, A, F) (nI s) := by
  unfold wpX_hasDistance
  dsimp only
  rw [zq_cl hs]
  unfold zq_hd at hp
  refine br_c (fun h => zq_p hp ?_) (fun h => ⟨zq_in hs, br_c (fun g => zq_p hp ?_) (fun g => zq_p hp ?_)⟩)
  · rw [decide_eq_true h, Bool.true_or, zq_bt]
  · rw [decide_eq_true g, Bool.or_true, zq_bt]
  · rw [decide_eq_false h, decide_eq_false g]; rfl
theorem zx_di {post : Int64 → Prop} (hs : s < 32) (hr : r < 32) (hp : post (zq_di A O d md s r)) : wpX_distance post (cp, nI n, d, nl, md, ex, sk, so, ek, eo, lf, P, O, V, N, M, R, Z, A, F) (nI s) (nI r) := by
  unfold wpX_distance
  dsimp only
  rw [zq_cl hs, zq_cl hr]
  unfold zq_di at hp
  refine br_c (fun h => ⟨zq_in hs, zq_in hr, zq_p hp ?_⟩) (fun h => ⟨zq_in hs, zq_in hr, nm_e (br_c (fun g => zq_p hp ?_) (fun g => zq_p hp ?_))⟩)
  · rw [if_pos h]
  · rw [if_neg h, if_pos g]
  · rw [if_neg h, if_neg g]
theorem zx_re {post : Int64 → Prop} (hp : post (zq_re k o)) : wpX_reach post k o := by
  unfold zq_re at hp
  refine br_c (fun h => zq_p hp ?_) (fun h => zq_p hp ?_)
  · rw [if_pos h]
  · rw [if_neg h]
theorem zx_passesStart {post : Int32 → Prop} (hN : ∀ i, N i = 0 ∨ N i = 1) (hs : s < 32) (hr : r < 32) (hp : post (zq_b (zq_xs (zq_cmp P O N d nl) A O N d md sk so s r))) : wpX_passesStart post (cp, nI n, d, nl, md, ex, sk, so, ek, eo, lf, P, O, V, N, M, R, Z, A, F) (nI s) (nI r) := by
  unfold wpX_passesStart
  dsimp only
  unfold zq_xs at hp
  refine br_c (fun h => zq_p hp ?_) (fun h => zx_pe hr (zq_br (fun t => zx_hd hs (zq_br (fun u => zq_p hp ?_) (fun u => zx_di hs hr (zx_re (br_c (fun g => zq_p hp ?_) (fun g => zq_p hp ?_)))))) (fun t => zx_cmp hN hs hr (br_c (fun g => zq_p hp ?_) (fun g => zq_p hp ?_)))))
  · rw [if_pos h, zq_bt]
  · rw [if_neg h, t, if_neg zq_Bft, u, Bool.false_and, zq_bf]
  · rw [if_neg h, t, if_neg zq_Bft, decide_eq_false (Int64.not_le.mpr g), Bool.and_false, zq_bf]
  · rw [if_neg h, t, if_neg zq_Bft, u, decide_eq_true (Int64.not_lt.mp g)]; rfl
  · rw [if_neg h, t, if_pos rfl, decide_eq_false (Int32.not_le.mpr g), zq_bf]
  · rw [if_neg h, t, if_pos rfl, decide_eq_true (Int32.not_lt.mp g), zq_bt]
theorem zx_passesEnd {post : Int32 → Prop} (hN : ∀ i, N i = 0 ∨ N i = 1) (hs : s < 32) (hr : r < 32) (hp : post (zq_b (zq_xe (zq_cmp P O N d nl) A O N d md ek eo s r))) : wpX_passesEnd post (cp, nI n, d, nl, md, ex, sk, so, ek, eo, lf, P, O, V, N, M, R, Z, A, F) (nI s) (nI r) := by
  unfold wpX_passesEnd
  dsimp only
  unfold zq_xe at hp
  refine br_c (fun h => zq_p hp ?_) (fun h => zx_pe hr (zq_br (fun t => zx_hd hs (zq_br (fun u => zq_p hp ?_) (fun u => zx_di hs hr (zx_re (br_c (fun g => zq_p hp ?_) (fun g => zq_p hp ?_)))))) (fun t => zx_cmp hN hs hr (br_c (fun g => zq_p hp ?_) (fun g => zq_p hp ?_)))))
  · rw [if_pos h, zq_bt]
  · rw [if_neg h, t, if_neg zq_Bft, u, Bool.false_and, zq_bf]
  · rw [if_neg h, t, if_neg zq_Bft, decide_eq_false (Int64.not_le.mpr g), Bool.and_false, zq_bf]
  · rw [if_neg h, t, if_neg zq_Bft, u, decide_eq_true (Int64.not_lt.mp g)]; rfl
  · rw [if_neg h, t, if_pos rfl, decide_eq_false (Int32.not_le.mpr g), zq_bf]
  · rw [if_neg h, t, if_pos rfl, decide_eq_true (Int32.not_lt.mp g), zq_bt]
theorem zx_ex {post : Int32 → Prop} (hN : ∀ i, N i = 0 ∨ N i = 1) (hs : s < 32) (hr : r < 32) (hp : post (zq_b (zq_xx ex (zq_cmp P O N d nl) s r))) : wpX_isExcluded post (cp, nI n, d, nl, md, ex, sk, so, ek, eo, lf, P, O, V, N, M, R, Z, A, F) (nI s) (nI r) := by
  have e0 : nI s = nI r ↔ s = r := nI_eq (by omega) (by omega)
  have o1 : ex < 1 → ¬ ex = 1 := fun h z => by rw [z] at h; exact absurd h (by decide)
  have o2 : ex < 1 → ¬ ex = 2 := fun h z => by rw [z] at h; exact absurd h (by decide)
  have o3 : ex < 1 → ¬ ex = 3 := fun h z => by rw [z] at h; exact absurd h (by decide)
  have p1 : 3 < ex → ¬ ex = 1 := fun h z => by rw [z] at h; exact absurd h (by decide)
  have p2 : 3 < ex → ¬ ex = 2 := fun h z => by rw [z] at h; exact absurd h (by decide)
  have p3 : 3 < ex → ¬ ex = 3 := fun h z => by rw [z] at h; exact absurd h (by decide)
  unfold wpX_isExcluded
  dsimp only
  unfold zq_xx at hp
  refine br_c (fun h => zq_p hp ?_) (fun h => br_c (fun g => zq_p hp ?_) (fun g => br_c (fun e1 => br_c (fun k => zq_p hp ?_) (fun k => zq_p hp ?_)) (fun e1 => br_c (fun e2 => zx_cmp hN hs hr (br_c (fun k => zq_p hp ?_) (fun k => zq_p hp ?_))) (fun e2 => br_c (fun e3 => br_c (fun k => zq_p hp ?_) (fun k => zx_cmp hN hs hr (br_c (fun l => zq_p hp ?_) (fun l => zq_p hp ?_)))) (fun _ => trivial)))))
  · rw [if_neg (o1 h), if_neg (o2 h), if_neg (o3 h), zq_bf]
  · rw [if_neg (p1 g), if_neg (p2 g), if_neg (p3 g), zq_bf]
  · rw [if_pos e1, decide_eq_true (e0.mp k), zq_bt]
  · rw [if_pos e1, decide_eq_false (fun z => k (e0.mpr z)), zq_bf]
  · rw [if_neg e1, if_pos e2, decide_eq_true k, zq_bt]
  · rw [if_neg e1, if_pos e2, decide_eq_false k, zq_bf]
  · rw [if_neg e1, if_neg e2, if_pos e3, decide_eq_true (e0.mp k)]; rfl
  · rw [if_neg e1, if_neg e2, if_pos e3, decide_eq_false (fun z => k (e0.mpr z)), decide_eq_true l]; rfl
  · rw [if_neg e1, if_neg e2, if_pos e3, decide_eq_false l, Bool.and_false, zq_bf]
theorem zx_frame {post : SX → Prop} (hN : ∀ i, N i = 0 ∨ N i = 1) (hn : n ≤ 32) (hr : r < 32) (hp : post (cp, nI n, d, nl, md, ex, sk, so, ek, eo, lf, P, O, V, N, M, R, Z, A, zq_mk (fun s => zq_b (zq_xf P (zq_cmp P O N d nl) A O N d md ex sk so ek eo r s)) F n)) : wpX_markFrame post (cp, nI n, d, nl, md, ex, sk, so, ek, eo, lf, P, O, V, N, M, R, Z, A, F) (nI r) := by
  unfold wpX_markFrame
  dsimp only
  refine zq_lp (W := fun m i => wX_markFrame_2 post (nI r) cp (nI n) d nl md ex sk so ek eo lf m (nI i) P O V N M R Z A (zq_mk (fun s => zq_b (zq_xf P (zq_cmp P O N d nl) A O N d md ex sk so ek eo r s)) F i)) n (fun m => ?_) (fun m i hi ih => ?_)
  · exact br_t (nI_le (Nat.le_refl n) (by omega)) hp
  · have hi' : i < 32 := by omega
    have ii := zq_in hi'
    have h0 : zq_xf P (zq_cmp P O N d nl) A O N d md ex sk so ek eo r i = false → wX_markFrame_2 post (nI r) cp (nI n) d nl md ex sk so ek eo lf m (nI (i + 1)) P O V N M R Z A (upd (zq_mk (fun s => zq_b (zq_xf P (zq_cmp P O N d nl) A O N d md ex sk so ek eo r s)) F i) i 0) := by
      intro e
      have e' : zq_b (zq_xf P (zq_cmp P O N d nl) A O N d md ex sk so ek eo r i) = 0 := by rw [e, zq_bf]
      rw [← e']
      exact ih
    have h1 : zq_xf P (zq_cmp P O N d nl) A O N d md ex sk so ek eo r i = true → wX_markFrame_2 post (nI r) cp (nI n) d nl md ex sk so ek eo lf m (nI (i + 1)) P O V N M R Z A (upd (zq_mk (fun s => zq_b (zq_xf P (zq_cmp P O N d nl) A O N d md ex sk so ek eo r s)) F i) i 1) := by
      intro e
      have e' : zq_b (zq_xf P (zq_cmp P O N d nl) A O N d md ex sk so ek eo r i) = 1 := by rw [e, zq_bt]
      rw [← e']
      exact ih
    rw [wX_markFrame_2]
    dsimp only
    rw [zq_cl hr, zq_cl hi', zq_nb0, zq_nb1]
    refine br_f (nI_ge hi (by omega)) ⟨ii, zq_in hr, br_c (fun hP => zx_passesStart hN hi' hr (zq_br (fun g1 => ⟨ii, nm_e (nm_r (nI_1 i) (h0 ?_))⟩) (fun g1 => zx_passesEnd hN hi' hr (zq_br (fun g2 => ⟨ii, nm_e (nm_r (nI_1 i) (h0 ?_))⟩) (fun g2 => zx_ex hN hi' hr (zq_br (fun g3 => ⟨ii, nm_e (nm_r (nI_1 i) (h1 ?_))⟩) (fun g3 => ⟨ii, nm_e (nm_r (nI_1 i) (h0 ?_))⟩))))))) (fun hP => ⟨ii, nm_e (nm_r (nI_1 i) (h0 ?_))⟩)⟩
    · unfold zq_xf; rw [g1, Bool.false_and, Bool.and_false]
    · unfold zq_xf; rw [g2, Bool.false_and, Bool.and_false, Bool.and_false]
    · unfold zq_xf; rw [decide_eq_true hP, g1, g2, g3]; rfl
    · unfold zq_xf; rw [g3]; simp
    · unfold zq_xf; rw [decide_eq_false hP, Bool.false_and]
theorem zx_peers {post : Int32 → Prop} (hN : ∀ i, N i = 0 ∨ N i = 1) (hs : s < 32) (hp : post (zq_b (zq_ld (zq_cmp P O N d nl) s))) : wpX_isFirstOfItsPeers post (cp, nI n, d, nl, md, ex, sk, so, ek, eo, lf, P, O, V, N, M, R, Z, A, F) (nI s) := by
  unfold wpX_isFirstOfItsPeers
  dsimp only
  obtain ⟨m, hm⟩ := zq_lp (W := fun m i => (∀ j, j < i → (fun t => decide (zq_cmp P O N d nl t s = 0)) j = false) → wX_isFirstOfItsPeers_2 post (nI s) cp (nI n) d nl md ex sk so ek eo lf P O V N M R Z A F m (nI i)) s (fun m hj => br_t (nI_le (Nat.le_refl s) (by omega)) (zq_p hp (by unfold zq_ld; rw [zq_fd_n s hj]; rfl))) (fun m i hi ih hj => by
    refine br_f (nI_ge hi (by omega)) (zx_cmp hN (by omega) hs (br_c (fun g => zq_p hp ?_) (fun g => nm_r (nI_1 i) (ih ?_))))
    · unfold zq_ld
      rw [zq_fd_s hj (decide_eq_true g) s hi]; rfl
    · intro j hj'
      by_cases e : j = i
      · rw [e]; exact decide_eq_false g
      · exact hj j (by omega))
  exact ⟨m, hm (fun j hj => absurd hj (Nat.not_lt_zero j))⟩
theorem zx_rank {post : Int32 → Prop} (hN : ∀ i, N i = 0 ∨ N i = 1) (hn : n ≤ 32) (hr : r < 32) (hp : post (nI (zq_cn (zq_rk P (zq_cmp P O N d nl) r) n + 1))) : wpX_rank post (cp, nI n, d, nl, md, ex, sk, so, ek, eo, lf, P, O, V, N, M, R, Z, A, F) (nI r) := by
  unfold wpX_rank
  dsimp only
  refine zq_lp (W := fun m i => wX_rank_4 post (nI r) cp (nI n) d nl md ex sk so ek eo lf P O V N M R Z A F m (nI (zq_cn (zq_rk P (zq_cmp P O N d nl) r) i + 1)) (nI i)) n (fun m => ?_) (fun m i hi ih => ?_)
  · exact br_t (nI_le (Nat.le_refl n) (by omega)) hp
  · refine br_f (nI_ge hi (by omega)) (zx_key hN (by omega) hr (zq_br (fun g => nm_r (nI_1 i) ?_) (fun g => nm_r (nI_1 _) (nm_r (nI_1 i) ?_))))
    · rw [zq_cn_f g] at ih; exact ih
    · rw [zq_cn_t g] at ih; exact ih
theorem zx_denseRank {post : Int32 → Prop} (hN : ∀ i, N i = 0 ∨ N i = 1) (hn : n ≤ 32) (hr : r < 32) (hp : post (nI (zq_cn (zq_dr P (zq_cmp P O N d nl) r) n + 1))) : wpX_denseRank post (cp, nI n, d, nl, md, ex, sk, so, ek, eo, lf, P, O, V, N, M, R, Z, A, F) (nI r) := by
  unfold wpX_denseRank
  dsimp only
  refine zq_lp (W := fun m i => wX_denseRank_4 post (nI r) cp (nI n) d nl md ex sk so ek eo lf P O V N M R Z A F m (nI (zq_cn (zq_dr P (zq_cmp P O N d nl) r) i + 1)) (nI i)) n (fun m => ?_) (fun m i hi ih => ?_)
  · exact br_t (nI_le (Nat.le_refl n) (by omega)) hp
  · refine br_f (nI_ge hi (by omega)) (zx_key hN (by omega) hr (zq_br (fun g => nm_r (nI_1 i) ?_) (fun g => zx_peers hN (by omega) (zq_br (fun l => nm_r (nI_1 i) ?_) (fun l => nm_r (nI_1 _) (nm_r (nI_1 i) ?_))))))
    · rw [zq_cn_f (show zq_dr P (zq_cmp P O N d nl) r i = false by simp only [zq_dr, g, Bool.false_and])] at ih; exact ih
    · rw [zq_cn_f (show zq_dr P (zq_cmp P O N d nl) r i = false by simp only [zq_dr, l, Bool.and_false])] at ih; exact ih
    · rw [zq_cn_t (show zq_dr P (zq_cmp P O N d nl) r i = true by simp only [zq_dr, g, l, Bool.and_true])] at ih; exact ih
end ZQI
end
section
section ZQJ
/-! the class's loops over the frame, and what it stores -/
variable {cp d nl md ex sk so ek eo lf f arg : Int32} {P O V N M Z A F : Nat → Int32} {R : Nat → Int64} {n a b r s i : Nat}
variable {fr : Nat → Bool}
theorem zq_nm1 (h : b < 32) : ¬ nI b = -1 := fun e => by
  have g := nI_pos (n := b) (by omega)
  rw [e] at g
  exact g (by decide)
theorem zx_at {post : Int32 → Prop} {t : Int64} (hn : n ≤ 32) (hr : r < 32) (hA : ∀ j, j < n → A j = (zq_q n P (zq_cmp P O N d nl)) j) (hp : post (zq_o (zq_fd (zq_tg P (zq_q n P (zq_cmp P O N d nl)) r t) n))) : wpX_partitionRowAt post (cp, nI n, d, nl, md, ex, sk, so, ek, eo, lf, P, O, V, N, M, R, Z, A, F) (nI r) t := by
  unfold wpX_partitionRowAt
  dsimp only
  obtain ⟨m, hm⟩ := zq_lp (W := fun m i => (∀ j, j < i → zq_tg P (zq_q n P (zq_cmp P O N d nl)) r t j = false) → wX_partitionRowAt_3 post (nI r) t cp (nI n) d nl md ex sk so ek eo lf P O V N M R Z A F m (nI i)) n (fun m hj => br_t (nI_le (Nat.le_refl n) (by omega)) (zq_p hp (by rw [zq_fd_n n hj]; rfl))) (fun m i hi ih hj => by
    have hx : zq_tg P (zq_q n P (zq_cmp P O N d nl)) r t i = false → ∀ j, j < i + 1 → zq_tg P (zq_q n P (zq_cmp P O N d nl)) r t j = false := by
      intro h j hj'
      by_cases e : j = i
      · rw [e]; exact h
      · exact hj j (by omega)
    rw [wX_partitionRowAt_3]
    dsimp only
    rw [zq_cl hr, zq_cl (show i < 32 by omega), hA i hi]
    refine br_f (nI_ge hi (by omega)) ⟨zq_in (by omega), zq_in hr, br_c (fun h => ⟨zq_in (by omega), br_c (fun g => zq_p hp ?_) (fun g => nm_r (nI_1 i) (ih (hx ?_)))⟩) (fun h => nm_r (nI_1 i) (ih (hx ?_)))⟩
    · rw [zq_fd_s hj (show zq_tg P (zq_q n P (zq_cmp P O N d nl)) r t i = true by simp only [zq_tg, decide_eq_true h, decide_eq_true g, Bool.and_true]) n hi]
      rfl
    · simp only [zq_tg, decide_eq_false g, Bool.and_false]
    · simp only [zq_tg, decide_eq_false h, Bool.false_and])
  exact ⟨m, hm (fun j hj => absurd hj (Nat.not_lt_zero j))⟩
theorem zx_firstOfFrame {post : Int32 → Prop} (hn : n ≤ 32) (hA : ∀ j, j < n → A j = (zq_q n P (zq_cmp P O N d nl)) j) (hF : ∀ j, j < n → F j = zq_b (fr j)) (hp : post (zq_o (zq_ex fr (fun i b => decide ((zq_q n P (zq_cmp P O N d nl)) i < (zq_q n P (zq_cmp P O N d nl)) b)) n))) : wpX_firstOfFrame post (cp, nI n, d, nl, md, ex, sk, so, ek, eo, lf, P, O, V, N, M, R, Z, A, F) := by
  unfold wpX_firstOfFrame
  dsimp only
  refine zq_lp (W := fun m i => wX_firstOfFrame_4 post cp (nI n) d nl md ex sk so ek eo lf P O V N M R Z A F m (zq_o (zq_ex fr (fun i b => decide ((zq_q n P (zq_cmp P O N d nl)) i < (zq_q n P (zq_cmp P O N d nl)) b)) i)) (nI i)) n (fun m => ?_) (fun m i hi ih => ?_)
  · exact br_t (nI_le (Nat.le_refl n) (by omega)) hp
  · have hi' : i < 32 := by omega
    rw [wX_firstOfFrame_4]
    dsimp only
    rw [zq_cl hi', hF i hi, hA i hi]
    refine br_f (nI_ge hi (by omega)) ⟨zq_in hi', zq_br (fun g => nm_r (nI_1 i) ?_) (fun g => ?_)⟩
    · rw [zq_ex_0 g] at ih; exact ih
    · cases q : zq_ex fr (fun i b => decide ((zq_q n P (zq_cmp P O N d nl)) i < (zq_q n P (zq_cmp P O N d nl)) b)) i with
      | none =>
        rw [zq_ex_1 g q] at ih
        exact br_t rfl (nm_r (nI_1 i) ih)
      | some b =>
        have hb := (zq_ex_lt i b q).1
        have hb' : b < 32 := by omega
        rw [show zq_o (some b) = nI b from rfl, zq_cl hb', hA b (by omega)]
        refine br_f (zq_nm1 hb') ⟨zq_in hi', zq_in hb', br_c (fun l => nm_r (nI_1 i) ?_) (fun l => nm_r (nI_1 i) ?_)⟩
        · rw [zq_ex_3 g q (decide_eq_false (Int32.not_lt.mpr l))] at ih; exact ih
        · rw [zq_ex_2 g q (decide_eq_true (Int32.not_le.mp l))] at ih; exact ih
theorem zx_lastOfFrame {post : Int32 → Prop} (hn : n ≤ 32) (hA : ∀ j, j < n → A j = (zq_q n P (zq_cmp P O N d nl)) j) (hF : ∀ j, j < n → F j = zq_b (fr j)) (hp : post (zq_o (zq_ex fr (fun i b => decide ((zq_q n P (zq_cmp P O N d nl)) b < (zq_q n P (zq_cmp P O N d nl)) i)) n))) : wpX_lastOfFrame post (cp, nI n, d, nl, md, ex, sk, so, ek, eo, lf, P, O, V, N, M, R, Z, A, F) := by
  unfold wpX_lastOfFrame
  dsimp only
  refine zq_lp (W := fun m i => wX_lastOfFrame_4 post cp (nI n) d nl md ex sk so ek eo lf P O V N M R Z A F m (zq_o (zq_ex fr (fun i b => decide ((zq_q n P (zq_cmp P O N d nl)) b < (zq_q n P (zq_cmp P O N d nl)) i)) i)) (nI i)) n (fun m => ?_) (fun m i hi ih => ?_)
  · exact br_t (nI_le (Nat.le_refl n) (by omega)) hp
  · have hi' : i < 32 := by omega
    rw [wX_lastOfFrame_4]
    dsimp only
    rw [zq_cl hi', hF i hi, hA i hi]
    refine br_f (nI_ge hi (by omega)) ⟨zq_in hi', zq_br (fun g => nm_r (nI_1 i) ?_) (fun g => ?_)⟩
    · rw [zq_ex_0 g] at ih; exact ih
    · cases q : zq_ex fr (fun i b => decide ((zq_q n P (zq_cmp P O N d nl)) b < (zq_q n P (zq_cmp P O N d nl)) i)) i with
      | none =>
        rw [zq_ex_1 g q] at ih
        exact br_t rfl (nm_r (nI_1 i) ih)
      | some b =>
        have hb := (zq_ex_lt i b q).1
        have hb' : b < 32 := by omega
        rw [show zq_o (some b) = nI b from rfl, zq_cl hb', hA b (by omega)]
        refine br_f (zq_nm1 hb') ⟨zq_in hi', zq_in hb', br_c (fun l => nm_r (nI_1 i) ?_) (fun l => nm_r (nI_1 i) ?_)⟩
        · rw [zq_ex_3 g q (decide_eq_false (Int32.not_lt.mpr l))] at ih; exact ih
        · rw [zq_ex_2 g q (decide_eq_true (Int32.not_le.mp l))] at ih; exact ih
theorem zx_leastOfFrame {post : Int32 → Prop} (hn : n ≤ 32) (hF : ∀ j, j < n → F j = zq_b (fr j)) (hp : post (zq_o (zq_ex (zq_nv fr M) (fun i b => decide (V i < V b)) n))) : wpX_leastOfFrame post (cp, nI n, d, nl, md, ex, sk, so, ek, eo, lf, P, O, V, N, M, R, Z, A, F) := by
  unfold wpX_leastOfFrame
  dsimp only
  refine zq_lp (W := fun m i => wX_leastOfFrame_4 post cp (nI n) d nl md ex sk so ek eo lf P O V N M R Z A F m (zq_o (zq_ex (zq_nv fr M) (fun i b => decide (V i < V b)) i)) (nI i)) n (fun m => ?_) (fun m i hi ih => ?_)
  · exact br_t (nI_le (Nat.le_refl n) (by omega)) hp
  · have hi' : i < 32 := by omega
    rw [wX_leastOfFrame_4]
    dsimp only
    rw [zq_cl hi', hF i hi]
    refine br_f (nI_ge hi (by omega)) ⟨zq_in hi', zq_br (fun g => nm_r (nI_1 i) ?_) (fun g => ⟨zq_in hi', br_c (fun m0 => ?_) (fun m0 => nm_r (nI_1 i) ?_)⟩)⟩
    · rw [zq_ex_0 (show zq_nv fr M i = false by simp only [zq_nv, g, Bool.false_and])] at ih; exact ih
    · have hv : zq_nv fr M i = true := by simp only [zq_nv, g, decide_eq_true m0, Bool.and_true]
      cases q : zq_ex (zq_nv fr M) (fun i b => decide (V i < V b)) i with
      | none =>
        rw [zq_ex_1 hv q] at ih
        exact br_t rfl (nm_r (nI_1 i) ih)
      | some b =>
        have hb := (zq_ex_lt i b q).1
        have hb' : b < 32 := by omega
        rw [show zq_o (some b) = nI b from rfl, zq_cl hb']
        refine br_f (zq_nm1 hb') ⟨zq_in hi', zq_in hb', br_c (fun l => nm_r (nI_1 i) ?_) (fun l => nm_r (nI_1 i) ?_)⟩
        · rw [zq_ex_3 hv q (decide_eq_false (Int32.not_lt.mpr l))] at ih; exact ih
        · rw [zq_ex_2 hv q (decide_eq_true (Int32.not_le.mp l))] at ih; exact ih
    · rw [zq_ex_0 (show zq_nv fr M i = false by simp only [zq_nv, decide_eq_false m0, Bool.and_false])] at ih; exact ih
theorem zx_greatestOfFrame {post : Int32 → Prop} (hn : n ≤ 32) (hF : ∀ j, j < n → F j = zq_b (fr j)) (hp : post (zq_o (zq_ex (zq_nv fr M) (fun i b => decide (V b < V i)) n))) : wpX_greatestOfFrame post (cp, nI n, d, nl, md, ex, sk, so, ek, eo, lf, P, O, V, N, M, R, Z, A, F) := by
  unfold wpX_greatestOfFrame
  dsimp only
  refine zq_lp (W := fun m i => wX_greatestOfFrame_4 post cp (nI n) d nl md ex sk so ek eo lf P O V N M R Z A F m (zq_o (zq_ex (zq_nv fr M) (fun i b => decide (V b < V i)) i)) (nI i)) n (fun m => ?_) (fun m i hi ih => ?_)
  · exact br_t (nI_le (Nat.le_refl n) (by omega)) hp
  · have hi' : i < 32 := by omega
    rw [wX_greatestOfFrame_4]
    dsimp only
    rw [zq_cl hi', hF i hi]
    refine br_f (nI_ge hi (by omega)) ⟨zq_in hi', zq_br (fun g => nm_r (nI_1 i) ?_) (fun g => ⟨zq_in hi', br_c (fun m0 => ?_) (fun m0 => nm_r (nI_1 i) ?_)⟩)⟩
    · rw [zq_ex_0 (show zq_nv fr M i = false by simp only [zq_nv, g, Bool.false_and])] at ih; exact ih
    · have hv : zq_nv fr M i = true := by simp only [zq_nv, g, decide_eq_true m0, Bool.and_true]
      cases q : zq_ex (zq_nv fr M) (fun i b => decide (V b < V i)) i with
      | none =>
        rw [zq_ex_1 hv q] at ih
        exact br_t rfl (nm_r (nI_1 i) ih)
      | some b =>
        have hb := (zq_ex_lt i b q).1
        have hb' : b < 32 := by omega
        rw [show zq_o (some b) = nI b from rfl, zq_cl hb']
        refine br_f (zq_nm1 hb') ⟨zq_in hi', zq_in hb', br_c (fun l => nm_r (nI_1 i) ?_) (fun l => nm_r (nI_1 i) ?_)⟩
        · rw [zq_ex_3 hv q (decide_eq_false (Int32.not_lt.mpr l))] at ih; exact ih
        · rw [zq_ex_2 hv q (decide_eq_true (Int32.not_le.mp l))] at ih; exact ih
    · rw [zq_ex_0 (show zq_nv fr M i = false by simp only [zq_nv, decide_eq_false m0, Bool.and_false])] at ih; exact ih
theorem zx_frameValues {post : Int32 → Prop} (hn : n ≤ 32) (hF : ∀ j, j < n → F j = zq_b (fr j)) (hp : post (nI (zq_cn (zq_nv fr M) n))) : wpX_frameValues post (cp, nI n, d, nl, md, ex, sk, so, ek, eo, lf, P, O, V, N, M, R, Z, A, F) := by
  unfold wpX_frameValues
  dsimp only
  refine zq_lp (W := fun m i => wX_frameValues_4 post cp (nI n) d nl md ex sk so ek eo lf P O V N M R Z A F m (nI (zq_cn (zq_nv fr M) i)) (nI i)) n (fun m => ?_) (fun m i hi ih => ?_)
  · exact br_t (nI_le (Nat.le_refl n) (by omega)) hp
  · have hi' : i < 32 := by omega
    rw [wX_frameValues_4]
    dsimp only
    rw [zq_cl hi', hF i hi]
    refine br_f (nI_ge hi (by omega)) ⟨zq_in hi', zq_br (fun g => nm_r (nI_1 i) ?_) (fun g => ⟨zq_in hi', br_c (fun m0 => nm_r (nI_1 _) (nm_r (nI_1 i) ?_)) (fun m0 => nm_r (nI_1 i) ?_)⟩)⟩
    · rw [zq_cn_f (show zq_nv fr M i = false by simp only [zq_nv, g, Bool.false_and])] at ih; exact ih
    · rw [zq_cn_t (show zq_nv fr M i = true by simp only [zq_nv, g, decide_eq_true m0, Bool.and_true])] at ih; exact ih
    · rw [zq_cn_f (show zq_nv fr M i = false by simp only [zq_nv, decide_eq_false m0, Bool.and_false])] at ih; exact ih
theorem zx_frameSum {post : Int64 → Prop} (hn : n ≤ 32) (hF : ∀ j, j < n → F j = zq_b (fr j)) (hp : post (zq_sm (zq_nv fr M) V n)) : wpX_frameSum post (cp, nI n, d, nl, md, ex, sk, so, ek, eo, lf, P, O, V, N, M, R, Z, A, F) := by
  unfold wpX_frameSum
  dsimp only
  refine zq_lp (W := fun m i => wX_frameSum_4 post cp (nI n) d nl md ex sk so ek eo lf P O V N M R Z A F m (zq_sm (zq_nv fr M) V i) (nI i)) n (fun m => ?_) (fun m i hi ih => ?_)
  · exact br_t (nI_le (Nat.le_refl n) (by omega)) hp
  · have hi' : i < 32 := by omega
    rw [wX_frameSum_4]
    dsimp only
    rw [zq_cl hi', hF i hi]
    refine br_f (nI_ge hi (by omega)) ⟨zq_in hi', zq_br (fun g => nm_r (nI_1 i) ?_) (fun g => ⟨zq_in hi', br_c (fun m0 => ⟨zq_in hi', nm_e (nm_r (nI_1 i) ?_)⟩) (fun m0 => nm_r (nI_1 i) ?_)⟩)⟩
    · rw [zq_sm_f (show zq_nv fr M i = false by simp only [zq_nv, g, Bool.false_and])] at ih; exact ih
    · rw [zq_sm_t (show zq_nv fr M i = true by simp only [zq_nv, g, decide_eq_true m0, Bool.and_true])] at ih; exact ih
    · rw [zq_sm_f (show zq_nv fr M i = false by simp only [zq_nv, decide_eq_false m0, Bool.and_false])] at ih; exact ih
theorem zx_frameRows {post : Int32 → Prop} (hn : n ≤ 32) (hF : ∀ j, j < n → F j = zq_b (fr j)) (hp : post (nI (zq_cn fr n))) : wpX_frameRows post (cp, nI n, d, nl, md, ex, sk, so, ek, eo, lf, P, O, V, N, M, R, Z, A, F) := by
  unfold wpX_frameRows
  dsimp only
  refine zq_lp (W := fun m i => wX_frameRows_4 post cp (nI n) d nl md ex sk so ek eo lf P O V N M R Z A F m (nI (zq_cn fr i)) (nI i)) n (fun m => ?_) (fun m i hi ih => ?_)
  · exact br_t (nI_le (Nat.le_refl n) (by omega)) hp
  · have hi' : i < 32 := by omega
    rw [wX_frameRows_4]
    dsimp only
    rw [zq_cl hi', hF i hi]
    refine br_f (nI_ge hi (by omega)) ⟨zq_in hi', zq_br (fun g => nm_r (nI_1 i) ?_) (fun g => nm_r (nI_1 _) (nm_r (nI_1 i) ?_))⟩
    · rw [zq_cn_f g] at ih; exact ih
    · rw [zq_cn_t g] at ih; exact ih
theorem zx_null {post : SX → Prop} (hr : r < 32) (hp : post (cp, nI n, d, nl, md, ex, sk, so, ek, eo, lf, P, O, V, N, M, vp_updL R r 0, upd Z r 1, A, F)) : wpX_storeNull post (cp, nI n, d, nl, md, ex, sk, so, ek, eo, lf, P, O, V, N, M, R, Z, A, F) (nI r) := by
  unfold wpX_storeNull
  dsimp only
  rw [zq_cl hr, zq_nb1]
  exact ⟨zq_in hr, nm_e ⟨zq_in hr, nm_e hp⟩⟩
theorem zx_num {post : SX → Prop} {v : Int64} (hr : r < 32) (hp : post (cp, nI n, d, nl, md, ex, sk, so, ek, eo, lf, P, O, V, N, M, vp_updL R r v, upd Z r 0, A, F)) : wpX_storeNumber post (cp, nI n, d, nl, md, ex, sk, so, ek, eo, lf, P, O, V, N, M, R, Z, A, F) (nI r) v := by
  unfold wpX_storeNumber
  dsimp only
  rw [zq_cl hr, zq_nb0]
  exact ⟨zq_in hr, nm_e ⟨zq_in hr, nm_e hp⟩⟩
theorem zx_fin0 {post : SX → Prop} {x : Bool × Int64} {v : Int64} (e : x = (false, v)) (hp : post (cp, nI n, d, nl, md, ex, sk, so, ek, eo, lf, P, O, V, N, M, vp_updL R r (x).2, upd Z r (zq_b (x).1), A, F)) : post (cp, nI n, d, nl, md, ex, sk, so, ek, eo, lf, P, O, V, N, M, vp_updL R r v, upd Z r 0, A, F) := by
  rw [e] at hp
  exact hp
theorem zx_fin1 {post : SX → Prop} {x : Bool × Int64} (e : x = (true, 0)) (hp : post (cp, nI n, d, nl, md, ex, sk, so, ek, eo, lf, P, O, V, N, M, vp_updL R r (x).2, upd Z r (zq_b (x).1), A, F)) : post (cp, nI n, d, nl, md, ex, sk, so, ek, eo, lf, P, O, V, N, M, vp_updL R r 0, upd Z r 1, A, F) := by
  rw [e] at hp
  exact hp
theorem zx_val {post : SX → Prop} {o : Option Nat} (hr : r < 32) (ho : ∀ b, o = some b → b < 32) (hp : post (cp, nI n, d, nl, md, ex, sk, so, ek, eo, lf, P, O, V, N, M, vp_updL R r (zq_one V M o).2, upd Z r (zq_b (zq_one V M o).1), A, F)) : wpX_storeValueOf post (cp, nI n, d, nl, md, ex, sk, so, ek, eo, lf, P, O, V, N, M, R, Z, A, F) (nI r) (zq_o o) := by
  unfold wpX_storeValueOf wX_storeValueOf_14
  dsimp only
  cases o with
  | none => exact br_t rfl (zx_null hr (zx_fin1 zq_one_n hp))
  | some b =>
    have hb := ho b rfl
    rw [show zq_o (some b) = nI b from rfl, zq_cl hb]
    exact br_f (zq_nm1 hb) ⟨zq_in hb, br_c (fun g => ⟨zq_in hb, zx_num hr (zx_fin0 (zq_one_v g) hp)⟩) (fun g => zx_null hr (zx_fin1 (zq_one_w g) hp))⟩
theorem zx_av0 {post : Int32 → Prop} (hp : post 0) : wpX_answersValueOfOneRow post 0 := br_t (show (0 : Int32) < 3 by decide) hp
theorem zx_av1 {post : Int32 → Prop} (hp : post 0) : wpX_answersValueOfOneRow post 1 := br_t (show (1 : Int32) < 3 by decide) hp
theorem zx_av2 {post : Int32 → Prop} (hp : post 0) : wpX_answersValueOfOneRow post 2 := br_t (show (2 : Int32) < 3 by decide) hp
theorem zx_av3 {post : Int32 → Prop} (hp : post 1) : wpX_answersValueOfOneRow post 3 := br_f (show ¬ (3 : Int32) < 3 by decide) (br_f (show ¬ (11 : Int32) < 3 by decide) (br_t rfl hp))
theorem zx_av4 {post : Int32 → Prop} (hp : post 1) : wpX_answersValueOfOneRow post 4 := br_f (show ¬ (4 : Int32) < 3 by decide) (br_f (show ¬ (11 : Int32) < 4 by decide) (br_f (show ¬ (4 : Int32) = 3 by decide) (br_t rfl hp)))
theorem zx_av5 {post : Int32 → Prop} (hp : post 1) : wpX_answersValueOfOneRow post 5 := br_f (show ¬ (5 : Int32) < 3 by decide) (br_f (show ¬ (11 : Int32) < 5 by decide) (br_f (show ¬ (5 : Int32) = 3 by decide) (br_f (show ¬ (5 : Int32) = 4 by decide) (br_t rfl hp))))
theorem zx_av6 {post : Int32 → Prop} (hp : post 1) : wpX_answersValueOfOneRow post 6 := br_f (show ¬ (6 : Int32) < 3 by decide) (br_f (show ¬ (11 : Int32) < 6 by decide) (br_f (show ¬ (6 : Int32) = 3 by decide) (br_f (show ¬ (6 : Int32) = 4 by decide) (br_f (show ¬ (6 : Int32) = 5 by decide) (br_t rfl hp)))))
theorem zx_av7 {post : Int32 → Prop} (hp : post 0) : wpX_answersValueOfOneRow post 7 := br_f (show ¬ (7 : Int32) < 3 by decide) (br_f (show ¬ (11 : Int32) < 7 by decide) (br_f (show ¬ (7 : Int32) = 3 by decide) (br_f (show ¬ (7 : Int32) = 4 by decide) (br_f (show ¬ (7 : Int32) = 5 by decide) (br_f (show ¬ (7 : Int32) = 6 by decide) (br_t rfl hp))))))
theorem zx_av8 {post : Int32 → Prop} (hp : post 0) : wpX_answersValueOfOneRow post 8 := br_f (show ¬ (8 : Int32) < 3 by decide) (br_f (show ¬ (11 : Int32) < 8 by decide) (br_f (show ¬ (8 : Int32) = 3 by decide) (br_f (show ¬ (8 : Int32) = 4 by decide) (br_f (show ¬ (8 : Int32) = 5 by decide) (br_f (show ¬ (8 : Int32) = 6 by decide) (br_f (show ¬ (8 : Int32) = 7 by decide) (br_t rfl hp)))))))
theorem zx_av9 {post : Int32 → Prop} (hp : post 0) : wpX_answersValueOfOneRow post 9 := br_f (show ¬ (9 : Int32) < 3 by decide) (br_f (show ¬ (11 : Int32) < 9 by decide) (br_f (show ¬ (9 : Int32) = 3 by decide) (br_f (show ¬ (9 : Int32) = 4 by decide) (br_f (show ¬ (9 : Int32) = 5 by decide) (br_f (show ¬ (9 : Int32) = 6 by decide) (br_f (show ¬ (9 : Int32) = 7 by decide) (br_f (show ¬ (9 : Int32) = 8 by decide) (br_t rfl hp))))))))
theorem zx_av10 {post : Int32 → Prop} (hp : post 1) : wpX_answersValueOfOneRow post 10 := br_f (show ¬ (10 : Int32) < 3 by decide) (br_f (show ¬ (11 : Int32) < 10 by decide) (br_f (show ¬ (10 : Int32) = 3 by decide) (br_f (show ¬ (10 : Int32) = 4 by decide) (br_f (show ¬ (10 : Int32) = 5 by decide) (br_f (show ¬ (10 : Int32) = 6 by decide) (br_f (show ¬ (10 : Int32) = 7 by decide) (br_f (show ¬ (10 : Int32) = 8 by decide) (br_f (show ¬ (10 : Int32) = 9 by decide) (br_t rfl hp)))))))))
theorem zx_av11 {post : Int32 → Prop} (hp : post 1) : wpX_answersValueOfOneRow post 11 := br_f (show ¬ (11 : Int32) < 3 by decide) (br_f (show ¬ (11 : Int32) < 11 by decide) (br_f (show ¬ (11 : Int32) = 3 by decide) (br_f (show ¬ (11 : Int32) = 4 by decide) (br_f (show ¬ (11 : Int32) = 5 by decide) (br_f (show ¬ (11 : Int32) = 6 by decide) (br_f (show ¬ (11 : Int32) = 7 by decide) (br_f (show ¬ (11 : Int32) = 8 by decide) (br_f (show ¬ (11 : Int32) = 9 by decide) (br_f (show ¬ (11 : Int32) = 10 by decide) (br_t rfl hp))))))))))
theorem zx_src3 {post : Int32 → Prop} (hn : n ≤ 32) (hrn : r < n) (hA : ∀ j, j < n → A j = (zq_q n P (zq_cmp P O N d nl)) j) (hp : post (zq_o (zq_fd (zq_tg P (zq_q n P (zq_cmp P O N d nl)) r (((zq_q n P (zq_cmp P O N d nl)) r).toInt64 - arg.toInt64)) n))) : wpX_sourceRow post (cp, nI n, d, nl, md, ex, sk, so, ek, eo, lf, P, O, V, N, M, R, Z, A, F) (nI r) 3 arg := by
  have hr : r < 32 := by omega
  unfold wpX_sourceRow wX_sourceRow_95
  dsimp only
  rw [zq_cl hr, hA r hrn]
  exact br_f (show ¬ (3 : Int32) < 3 by decide) (br_f (show ¬ (10 : Int32) < 3 by decide) (br_t rfl (⟨zq_in hr, zx_at hn hr hA hp⟩)))
theorem zx_src4 {post : Int32 → Prop} (hn : n ≤ 32) (hrn : r < n) (hA : ∀ j, j < n → A j = (zq_q n P (zq_cmp P O N d nl)) j) (hp : post (zq_o (zq_fd (zq_tg P (zq_q n P (zq_cmp P O N d nl)) r (((zq_q n P (zq_cmp P O N d nl)) r).toInt64 + arg.toInt64)) n))) : wpX_sourceRow post (cp, nI n, d, nl, md, ex, sk, so, ek, eo, lf, P, O, V, N, M, R, Z, A, F) (nI r) 4 arg := by
  have hr : r < 32 := by omega
  unfold wpX_sourceRow wX_sourceRow_95
  dsimp only
  rw [zq_cl hr, hA r hrn]
  exact br_f (show ¬ (4 : Int32) < 3 by decide) (br_f (show ¬ (10 : Int32) < 4 by decide) (br_f (show ¬ (4 : Int32) = 3 by decide) (br_t rfl (⟨zq_in hr, zx_at hn hr hA hp⟩))))
theorem zx_src5 {post : Int32 → Prop} (hn : n ≤ 32) (hrn : r < n) (hA : ∀ j, j < n → A j = (zq_q n P (zq_cmp P O N d nl)) j) (hF : ∀ j, j < n → F j = zq_b (fr j)) (hp : post (zq_o (zq_ex fr (fun i b => decide ((zq_q n P (zq_cmp P O N d nl)) i < (zq_q n P (zq_cmp P O N d nl)) b)) n))) : wpX_sourceRow post (cp, nI n, d, nl, md, ex, sk, so, ek, eo, lf, P, O, V, N, M, R, Z, A, F) (nI r) 5 arg := by
  have hr : r < 32 := by omega
  unfold wpX_sourceRow wX_sourceRow_95
  dsimp only
  exact br_f (show ¬ (5 : Int32) < 3 by decide) (br_f (show ¬ (10 : Int32) < 5 by decide) (br_f (show ¬ (5 : Int32) = 3 by decide) (br_f (show ¬ (5 : Int32) = 4 by decide) (br_t rfl (zx_firstOfFrame hn hA hF hp)))))
theorem zx_src6 {post : Int32 → Prop} (hn : n ≤ 32) (hrn : r < n) (hA : ∀ j, j < n → A j = (zq_q n P (zq_cmp P O N d nl)) j) (hF : ∀ j, j < n → F j = zq_b (fr j)) (hp : post (zq_o (zq_ex fr (fun i b => decide ((zq_q n P (zq_cmp P O N d nl)) b < (zq_q n P (zq_cmp P O N d nl)) i)) n))) : wpX_sourceRow post (cp, nI n, d, nl, md, ex, sk, so, ek, eo, lf, P, O, V, N, M, R, Z, A, F) (nI r) 6 arg := by
  have hr : r < 32 := by omega
  unfold wpX_sourceRow wX_sourceRow_95
  dsimp only
  exact br_f (show ¬ (6 : Int32) < 3 by decide) (br_f (show ¬ (10 : Int32) < 6 by decide) (br_f (show ¬ (6 : Int32) = 3 by decide) (br_f (show ¬ (6 : Int32) = 4 by decide) (br_f (show ¬ (6 : Int32) = 5 by decide) (br_t rfl (zx_lastOfFrame hn hA hF hp))))))
theorem zx_src10 {post : Int32 → Prop} (hn : n ≤ 32) (hrn : r < n) (hF : ∀ j, j < n → F j = zq_b (fr j)) (hp : post (zq_o (zq_ex (zq_nv fr M) (fun i b => decide (V i < V b)) n))) : wpX_sourceRow post (cp, nI n, d, nl, md, ex, sk, so, ek, eo, lf, P, O, V, N, M, R, Z, A, F) (nI r) 10 arg := by
  have hr : r < 32 := by omega
  unfold wpX_sourceRow wX_sourceRow_95
  dsimp only
  exact br_f (show ¬ (10 : Int32) < 3 by decide) (br_f (show ¬ (10 : Int32) < 10 by decide) (br_f (show ¬ (10 : Int32) = 3 by decide) (br_f (show ¬ (10 : Int32) = 4 by decide) (br_f (show ¬ (10 : Int32) = 5 by decide) (br_f (show ¬ (10 : Int32) = 6 by decide) (br_f (show ¬ (10 : Int32) = 7 by decide) (br_f (show ¬ (10 : Int32) = 8 by decide) (br_f (show ¬ (10 : Int32) = 9 by decide) (br_t rfl (zx_leastOfFrame hn hF hp))))))))))
theorem zx_src11 {post : Int32 → Prop} (hn : n ≤ 32) (hrn : r < n) (hF : ∀ j, j < n → F j = zq_b (fr j)) (hp : post (zq_o (zq_ex (zq_nv fr M) (fun i b => decide (V b < V i)) n))) : wpX_sourceRow post (cp, nI n, d, nl, md, ex, sk, so, ek, eo, lf, P, O, V, N, M, R, Z, A, F) (nI r) 11 arg := by
  have hr : r < 32 := by omega
  unfold wpX_sourceRow wX_sourceRow_95
  dsimp only
  exact br_f (show ¬ (11 : Int32) < 3 by decide) (br_t (show (10 : Int32) < 11 by decide) (zx_greatestOfFrame hn hF hp))
theorem zx_nf0 {post : Int64 → Prop} (hn : n ≤ 32) (hrn : r < n) (hA : ∀ j, j < n → A j = (zq_q n P (zq_cmp P O N d nl)) j) (hp : post (((zq_q n P (zq_cmp P O N d nl)) r).toInt64 + 1)) : wpX_numberFor post (cp, nI n, d, nl, md, ex, sk, so, ek, eo, lf, P, O, V, N, M, R, Z, A, F) (nI r) 0 := by
  have hr : r < 32 := by omega
  unfold wpX_numberFor wX_numberFor_87
  dsimp only
  rw [zq_cl hr, hA r hrn]
  exact br_f (show ¬ (0 : Int32) < 0 by decide) (br_f (show ¬ (8 : Int32) < 0 by decide) (br_t rfl (⟨zq_in hr, hp⟩)))
theorem zx_nf1 {post : Int64 → Prop} (hn : n ≤ 32) (hrn : r < n) (hN : ∀ i, N i = 0 ∨ N i = 1) (hp : post (lN (zq_cn (zq_rk P (zq_cmp P O N d nl) r) n + 1))) : wpX_numberFor post (cp, nI n, d, nl, md, ex, sk, so, ek, eo, lf, P, O, V, N, M, R, Z, A, F) (nI r) 1 := by
  have hr : r < 32 := by omega
  unfold wpX_numberFor wX_numberFor_87
  dsimp only
  exact br_f (show ¬ (1 : Int32) < 0 by decide) (br_f (show ¬ (8 : Int32) < 1 by decide) (br_f (show ¬ (1 : Int32) = 0 by decide) (br_t rfl (zx_rank hN hn hr (zq_p hp (nI_l (by have := zq_cn_le (zq_rk P (zq_cmp P O N d nl) r) n; omega)))))))
theorem zx_nf2 {post : Int64 → Prop} (hn : n ≤ 32) (hrn : r < n) (hN : ∀ i, N i = 0 ∨ N i = 1) (hp : post (lN (zq_cn (zq_dr P (zq_cmp P O N d nl) r) n + 1))) : wpX_numberFor post (cp, nI n, d, nl, md, ex, sk, so, ek, eo, lf, P, O, V, N, M, R, Z, A, F) (nI r) 2 := by
  have hr : r < 32 := by omega
  unfold wpX_numberFor wX_numberFor_87
  dsimp only
  exact br_f (show ¬ (2 : Int32) < 0 by decide) (br_f (show ¬ (8 : Int32) < 2 by decide) (br_f (show ¬ (2 : Int32) = 0 by decide) (br_f (show ¬ (2 : Int32) = 1 by decide) (br_t rfl (zx_denseRank hN hn hr (zq_p hp (nI_l (by have := zq_cn_le (zq_dr P (zq_cmp P O N d nl) r) n; omega))))))))
theorem zx_nf7 {post : Int64 → Prop} (hn : n ≤ 32) (hrn : r < n) (hF : ∀ j, j < n → F j = zq_b (fr j)) (hp : post (zq_sm (zq_nv fr M) V n)) : wpX_numberFor post (cp, nI n, d, nl, md, ex, sk, so, ek, eo, lf, P, O, V, N, M, R, Z, A, F) (nI r) 7 := by
  have hr : r < 32 := by omega
  unfold wpX_numberFor wX_numberFor_87
  dsimp only
  exact br_f (show ¬ (7 : Int32) < 0 by decide) (br_f (show ¬ (8 : Int32) < 7 by decide) (br_f (show ¬ (7 : Int32) = 0 by decide) (br_f (show ¬ (7 : Int32) = 1 by decide) (br_f (show ¬ (7 : Int32) = 2 by decide) (br_f (show ¬ (7 : Int32) = 3 by decide) (br_f (show ¬ (7 : Int32) = 4 by decide) (br_f (show ¬ (7 : Int32) = 5 by decide) (br_f (show ¬ (7 : Int32) = 6 by decide) (br_t rfl (zx_frameSum hn hF hp))))))))))
theorem zx_nf8 {post : Int64 → Prop} (hn : n ≤ 32) (hrn : r < n) (hF : ∀ j, j < n → F j = zq_b (fr j)) (hp : post (lN (zq_cn (zq_nv fr M) n))) : wpX_numberFor post (cp, nI n, d, nl, md, ex, sk, so, ek, eo, lf, P, O, V, N, M, R, Z, A, F) (nI r) 8 := by
  have hr : r < 32 := by omega
  unfold wpX_numberFor wX_numberFor_87
  dsimp only
  exact br_f (show ¬ (8 : Int32) < 0 by decide) (br_f (show ¬ (8 : Int32) < 8 by decide) (br_f (show ¬ (8 : Int32) = 0 by decide) (br_f (show ¬ (8 : Int32) = 1 by decide) (br_f (show ¬ (8 : Int32) = 2 by decide) (br_f (show ¬ (8 : Int32) = 3 by decide) (br_f (show ¬ (8 : Int32) = 4 by decide) (br_f (show ¬ (8 : Int32) = 5 by decide) (br_f (show ¬ (8 : Int32) = 6 by decide) (br_f (show ¬ (8 : Int32) = 7 by decide) (br_t rfl (zx_frameValues hn hF (zq_p hp (nI_l (by have := zq_cn_le (zq_nv fr M) n; omega))))))))))))))
theorem zx_nf9 {post : Int64 → Prop} (hn : n ≤ 32) (hrn : r < n) (hF : ∀ j, j < n → F j = zq_b (fr j)) (hp : post (lN (zq_cn fr n))) : wpX_numberFor post (cp, nI n, d, nl, md, ex, sk, so, ek, eo, lf, P, O, V, N, M, R, Z, A, F) (nI r) 9 := by
  have hr : r < 32 := by omega
  unfold wpX_numberFor wX_numberFor_87
  dsimp only
  exact br_f (show ¬ (9 : Int32) < 0 by decide) (br_t (show (8 : Int32) < 9 by decide) (zx_frameRows hn hF (zq_p hp (nI_l (by have := zq_cn_le fr n; omega)))))
theorem zx_ten0 {post : SX → Prop} (hn : n ≤ 32) (hrn : r < n) (hN : ∀ i, N i = 0 ∨ N i = 1) (hA : ∀ j, j < n → A j = (zq_q n P (zq_cmp P O N d nl)) j) (hp : post (cp, nI n, d, nl, md, ex, sk, so, ek, eo, lf, P, O, V, N, M, vp_updL R r (zq_an n P V M (zq_cmp P O N d nl) fr 0 arg r).2, upd Z r (zq_b (zq_an n P V M (zq_cmp P O N d nl) fr 0 arg r).1), A, F)) : wX_storeResult_10 post (nI r) 0 arg cp (nI n) d nl md ex sk so ek eo lf P O V N M R Z A F := by
  have hr : r < 32 := by omega
  unfold wX_storeResult_10 wX_storeResult_57
  exact zx_av0 (br_t rfl (br_f (show ¬ (0 : Int32) = 7 by decide) (zx_nf0 hn hrn hA (zx_num hr (zx_fin0 zq_an_0 hp)))))
theorem zx_ten1 {post : SX → Prop} (hn : n ≤ 32) (hrn : r < n) (hN : ∀ i, N i = 0 ∨ N i = 1) (hA : ∀ j, j < n → A j = (zq_q n P (zq_cmp P O N d nl)) j) (hp : post (cp, nI n, d, nl, md, ex, sk, so, ek, eo, lf, P, O, V, N, M, vp_updL R r (zq_an n P V M (zq_cmp P O N d nl) fr 1 arg r).2, upd Z r (zq_b (zq_an n P V M (zq_cmp P O N d nl) fr 1 arg r).1), A, F)) : wX_storeResult_10 post (nI r) 1 arg cp (nI n) d nl md ex sk so ek eo lf P O V N M R Z A F := by
  have hr : r < 32 := by omega
  unfold wX_storeResult_10 wX_storeResult_57
  exact zx_av1 (br_t rfl (br_f (show ¬ (1 : Int32) = 7 by decide) (zx_nf1 hn hrn hN (zx_num hr (zx_fin0 zq_an_1 hp)))))
theorem zx_ten2 {post : SX → Prop} (hn : n ≤ 32) (hrn : r < n) (hN : ∀ i, N i = 0 ∨ N i = 1) (hA : ∀ j, j < n → A j = (zq_q n P (zq_cmp P O N d nl)) j) (hp : post (cp, nI n, d, nl, md, ex, sk, so, ek, eo, lf, P, O, V, N, M, vp_updL R r (zq_an n P V M (zq_cmp P O N d nl) fr 2 arg r).2, upd Z r (zq_b (zq_an n P V M (zq_cmp P O N d nl) fr 2 arg r).1), A, F)) : wX_storeResult_10 post (nI r) 2 arg cp (nI n) d nl md ex sk so ek eo lf P O V N M R Z A F := by
  have hr : r < 32 := by omega
  unfold wX_storeResult_10 wX_storeResult_57
  exact zx_av2 (br_t rfl (br_f (show ¬ (2 : Int32) = 7 by decide) (zx_nf2 hn hrn hN (zx_num hr (zx_fin0 zq_an_2 hp)))))
theorem zx_ten3 {post : SX → Prop} (hn : n ≤ 32) (hrn : r < n) (hN : ∀ i, N i = 0 ∨ N i = 1) (hA : ∀ j, j < n → A j = (zq_q n P (zq_cmp P O N d nl)) j) (hp : post (cp, nI n, d, nl, md, ex, sk, so, ek, eo, lf, P, O, V, N, M, vp_updL R r (zq_an n P V M (zq_cmp P O N d nl) fr 3 arg r).2, upd Z r (zq_b (zq_an n P V M (zq_cmp P O N d nl) fr 3 arg r).1), A, F)) : wX_storeResult_10 post (nI r) 3 arg cp (nI n) d nl md ex sk so ek eo lf P O V N M R Z A F := by
  have hr : r < 32 := by omega
  unfold wX_storeResult_10 wX_storeResult_57
  rw [zq_an_3] at hp
  exact zx_av3 (br_f zq_n10 (zx_src3 hn hrn hA (zx_val hr (fun b e => Nat.lt_of_lt_of_le (zq_fd_lt n e).1 hn) hp)))
theorem zx_ten4 {post : SX → Prop} (hn : n ≤ 32) (hrn : r < n) (hN : ∀ i, N i = 0 ∨ N i = 1) (hA : ∀ j, j < n → A j = (zq_q n P (zq_cmp P O N d nl)) j) (hp : post (cp, nI n, d, nl, md, ex, sk, so, ek, eo, lf, P, O, V, N, M, vp_updL R r (zq_an n P V M (zq_cmp P O N d nl) fr 4 arg r).2, upd Z r (zq_b (zq_an n P V M (zq_cmp P O N d nl) fr 4 arg r).1), A, F)) : wX_storeResult_10 post (nI r) 4 arg cp (nI n) d nl md ex sk so ek eo lf P O V N M R Z A F := by
  have hr : r < 32 := by omega
  unfold wX_storeResult_10 wX_storeResult_57
  rw [zq_an_4] at hp
  exact zx_av4 (br_f zq_n10 (zx_src4 hn hrn hA (zx_val hr (fun b e => Nat.lt_of_lt_of_le (zq_fd_lt n e).1 hn) hp)))
theorem zx_ten5 {post : SX → Prop} (hn : n ≤ 32) (hrn : r < n) (hN : ∀ i, N i = 0 ∨ N i = 1) (hA : ∀ j, j < n → A j = (zq_q n P (zq_cmp P O N d nl)) j) (hF : ∀ j, j < n → F j = zq_b (fr j)) (hf : ∀ s, fr s = true → P s = P r) (hp : post (cp, nI n, d, nl, md, ex, sk, so, ek, eo, lf, P, O, V, N, M, vp_updL R r (zq_an n P V M (zq_cmp P O N d nl) fr 5 arg r).2, upd Z r (zq_b (zq_an n P V M (zq_cmp P O N d nl) fr 5 arg r).1), A, F)) : wX_storeResult_10 post (nI r) 5 arg cp (nI n) d nl md ex sk so ek eo lf P O V N M R Z A F := by
  have hr : r < 32 := by omega
  unfold wX_storeResult_10 wX_storeResult_57
  rw [zq_an_5, ← zq_fst (by omega) zq_or hf] at hp
  exact zx_av5 (br_f zq_n10 (zx_src5 hn hrn hA hF (zx_val hr (fun b e => Nat.lt_of_lt_of_le (zq_ex_lt n b e).1 hn) hp)))
theorem zx_ten6 {post : SX → Prop} (hn : n ≤ 32) (hrn : r < n) (hN : ∀ i, N i = 0 ∨ N i = 1) (hA : ∀ j, j < n → A j = (zq_q n P (zq_cmp P O N d nl)) j) (hF : ∀ j, j < n → F j = zq_b (fr j)) (hf : ∀ s, fr s = true → P s = P r) (hp : post (cp, nI n, d, nl, md, ex, sk, so, ek, eo, lf, P, O, V, N, M, vp_updL R r (zq_an n P V M (zq_cmp P O N d nl) fr 6 arg r).2, upd Z r (zq_b (zq_an n P V M (zq_cmp P O N d nl) fr 6 arg r).1), A, F)) : wX_storeResult_10 post (nI r) 6 arg cp (nI n) d nl md ex sk so ek eo lf P O V N M R Z A F := by
  have hr : r < 32 := by omega
  unfold wX_storeResult_10 wX_storeResult_57
  rw [zq_an_6, ← zq_lst (by omega) zq_or hf] at hp
  exact zx_av6 (br_f zq_n10 (zx_src6 hn hrn hA hF (zx_val hr (fun b e => Nat.lt_of_lt_of_le (zq_ex_lt n b e).1 hn) hp)))
theorem zx_ten7 {post : SX → Prop} (hn : n ≤ 32) (hrn : r < n) (hN : ∀ i, N i = 0 ∨ N i = 1) (hA : ∀ j, j < n → A j = (zq_q n P (zq_cmp P O N d nl)) j) (hF : ∀ j, j < n → F j = zq_b (fr j)) (hp : post (cp, nI n, d, nl, md, ex, sk, so, ek, eo, lf, P, O, V, N, M, vp_updL R r (zq_an n P V M (zq_cmp P O N d nl) fr 7 arg r).2, upd Z r (zq_b (zq_an n P V M (zq_cmp P O N d nl) fr 7 arg r).1), A, F)) : wX_storeResult_10 post (nI r) 7 arg cp (nI n) d nl md ex sk so ek eo lf P O V N M R Z A F := by
  have hr : r < 32 := by omega
  unfold wX_storeResult_10 wX_storeResult_57
  have hk : zq_cn (zq_nv fr M) n ≤ 32 := Nat.le_trans (zq_cn_le _ n) hn
  have e0 : nI (zq_cn (zq_nv fr M) n) = 0 ↔ zq_cn (zq_nv fr M) n = 0 := nI_eq (a := zq_cn (zq_nv fr M) n) (b := 0) (by omega) (by omega)
  refine zx_av7 (br_t rfl (br_t rfl (zx_frameValues hn hF (br_c (fun g => zx_null hr (zx_fin1 ?_ hp)) (fun g => zx_nf7 hn hrn hF (zx_num hr (zx_fin0 ?_ hp)))))))
  · rw [zq_an_7, decide_eq_true (e0.mp g), if_pos (e0.mp g)]
  · have g' : ¬ zq_cn (zq_nv fr M) n = 0 := fun z => g (e0.mpr z)
    rw [zq_an_7, decide_eq_false g', if_neg g']
theorem zx_ten8 {post : SX → Prop} (hn : n ≤ 32) (hrn : r < n) (hN : ∀ i, N i = 0 ∨ N i = 1) (hA : ∀ j, j < n → A j = (zq_q n P (zq_cmp P O N d nl)) j) (hF : ∀ j, j < n → F j = zq_b (fr j)) (hp : post (cp, nI n, d, nl, md, ex, sk, so, ek, eo, lf, P, O, V, N, M, vp_updL R r (zq_an n P V M (zq_cmp P O N d nl) fr 8 arg r).2, upd Z r (zq_b (zq_an n P V M (zq_cmp P O N d nl) fr 8 arg r).1), A, F)) : wX_storeResult_10 post (nI r) 8 arg cp (nI n) d nl md ex sk so ek eo lf P O V N M R Z A F := by
  have hr : r < 32 := by omega
  unfold wX_storeResult_10 wX_storeResult_57
  exact zx_av8 (br_t rfl (br_f (show ¬ (8 : Int32) = 7 by decide) (zx_nf8 hn hrn hF (zx_num hr (zx_fin0 zq_an_8 hp)))))
theorem zx_ten9 {post : SX → Prop} (hn : n ≤ 32) (hrn : r < n) (hN : ∀ i, N i = 0 ∨ N i = 1) (hA : ∀ j, j < n → A j = (zq_q n P (zq_cmp P O N d nl)) j) (hF : ∀ j, j < n → F j = zq_b (fr j)) (hp : post (cp, nI n, d, nl, md, ex, sk, so, ek, eo, lf, P, O, V, N, M, vp_updL R r (zq_an n P V M (zq_cmp P O N d nl) fr 9 arg r).2, upd Z r (zq_b (zq_an n P V M (zq_cmp P O N d nl) fr 9 arg r).1), A, F)) : wX_storeResult_10 post (nI r) 9 arg cp (nI n) d nl md ex sk so ek eo lf P O V N M R Z A F := by
  have hr : r < 32 := by omega
  unfold wX_storeResult_10 wX_storeResult_57
  exact zx_av9 (br_t rfl (br_f (show ¬ (9 : Int32) = 7 by decide) (zx_nf9 hn hrn hF (zx_num hr (zx_fin0 zq_an_9 hp)))))
theorem zx_ten10 {post : SX → Prop} (hn : n ≤ 32) (hrn : r < n) (hN : ∀ i, N i = 0 ∨ N i = 1) (hA : ∀ j, j < n → A j = (zq_q n P (zq_cmp P O N d nl)) j) (hF : ∀ j, j < n → F j = zq_b (fr j)) (hp : post (cp, nI n, d, nl, md, ex, sk, so, ek, eo, lf, P, O, V, N, M, vp_updL R r (zq_an n P V M (zq_cmp P O N d nl) fr 10 arg r).2, upd Z r (zq_b (zq_an n P V M (zq_cmp P O N d nl) fr 10 arg r).1), A, F)) : wX_storeResult_10 post (nI r) 10 arg cp (nI n) d nl md ex sk so ek eo lf P O V N M R Z A F := by
  have hr : r < 32 := by omega
  unfold wX_storeResult_10 wX_storeResult_57
  rw [zq_an_10] at hp
  exact zx_av10 (br_f zq_n10 (zx_src10 hn hrn hF (zx_val hr (fun b e => Nat.lt_of_lt_of_le (zq_ex_lt n b e).1 hn) hp)))
theorem zx_ten11 {post : SX → Prop} (hn : n ≤ 32) (hrn : r < n) (hN : ∀ i, N i = 0 ∨ N i = 1) (hA : ∀ j, j < n → A j = (zq_q n P (zq_cmp P O N d nl)) j) (hF : ∀ j, j < n → F j = zq_b (fr j)) (hp : post (cp, nI n, d, nl, md, ex, sk, so, ek, eo, lf, P, O, V, N, M, vp_updL R r (zq_an n P V M (zq_cmp P O N d nl) fr 11 arg r).2, upd Z r (zq_b (zq_an n P V M (zq_cmp P O N d nl) fr 11 arg r).1), A, F)) : wX_storeResult_10 post (nI r) 11 arg cp (nI n) d nl md ex sk so ek eo lf P O V N M R Z A F := by
  have hr : r < 32 := by omega
  unfold wX_storeResult_10 wX_storeResult_57
  rw [zq_an_11] at hp
  exact zx_av11 (br_f zq_n10 (zx_src11 hn hrn hF (zx_val hr (fun b e => Nat.lt_of_lt_of_le (zq_ex_lt n b e).1 hn) hp)))
end ZQJ
end
section
section ZQK
/-! the class's storeResult and compute -/
variable {cp d nl md ex sk so ek eo lf f arg : Int32} {P O V N M Z A F : Nat → Int32} {R : Nat → Int64} {n a b r s i : Nat}
theorem zq_xf_A (hs : A s = (zq_q n P (zq_cmp P O N d nl)) s) (hr : A r = (zq_q n P (zq_cmp P O N d nl)) r) : zq_xf P (zq_cmp P O N d nl) A O N d md ex sk so ek eo r s = zq_xf P (zq_cmp P O N d nl) (zq_q n P (zq_cmp P O N d nl)) O N d md ex sk so ek eo r s := by
  unfold zq_xf zq_xs zq_xe zq_di
  rw [hs, hr]
theorem zx_sr {post : SX → Prop} (hf : f = 0 ∨ f = 1 ∨ f = 2 ∨ f = 3 ∨ f = 4 ∨ f = 5 ∨ f = 6 ∨ f = 7 ∨ f = 8 ∨ f = 9 ∨ f = 10 ∨ f = 11) (hn : n ≤ 32) (hN : ∀ i, N i = 0 ∨ N i = 1) (hA : ∀ j, j < n → A j = (zq_q n P (zq_cmp P O N d nl)) j) (hS : zq_Sp d md sk so ek eo) (hm : md = 1 → d = 0 → (¬ sk = 1 ∧ ¬ sk = 3) ∧ (¬ ek = 1 ∧ ¬ ek = 3)) (hrn : r < n) (hp : ∀ F' : Nat → Int32, post (cp, nI n, d, nl, md, ex, sk, so, ek, eo, lf, P, O, V, N, M, vp_updL R r (zq_an n P V M (zq_cmp P O N d nl) (zq_yf P (zq_cmp P O N d nl) (zq_q n P (zq_cmp P O N d nl)) O N d md ex sk so ek eo r) f arg r).2, upd Z r (zq_b (zq_an n P V M (zq_cmp P O N d nl) (zq_yf P (zq_cmp P O N d nl) (zq_q n P (zq_cmp P O N d nl)) O N d md ex sk so ek eo r) f arg r).1), A, F')) : wpX_storeResult post (cp, nI n, d, nl, md, ex, sk, so, ek, eo, lf, P, O, V, N, M, R, Z, A, F) (nI r) f arg := by
  have hr : r < 32 := by omega
  have hF : ∀ j, j < n → zq_mk (fun s => zq_b (zq_xf P (zq_cmp P O N d nl) A O N d md ex sk so ek eo r s)) F n j = zq_b ((zq_yf P (zq_cmp P O N d nl) (zq_q n P (zq_cmp P O N d nl)) O N d md ex sk so ek eo r) j) := by
    intro j hj
    rw [zq_mk_lt n hj, zq_xf_A (hA j hj) (hA r hrn), zq_xf_y hS hm]
  unfold wpX_storeResult
  dsimp only
  rcases hf with rfl | rfl | rfl | rfl | rfl | rfl | rfl | rfl | rfl | rfl | rfl | rfl
  · exact br_t (show (0 : Int32) < 5 by decide) (zx_ten0 hn hrn hN hA (hp F))
  · exact br_t (show (1 : Int32) < 5 by decide) (zx_ten1 hn hrn hN hA (hp F))
  · exact br_t (show (2 : Int32) < 5 by decide) (zx_ten2 hn hrn hN hA (hp F))
  · exact br_t (show (3 : Int32) < 5 by decide) (zx_ten3 hn hrn hN hA (hp F))
  · exact br_t (show (4 : Int32) < 5 by decide) (zx_ten4 hn hrn hN hA (hp F))
  · exact br_f (show ¬ (5 : Int32) < 5 by decide) (zx_frame hN hn hr (zx_ten5 hn hrn hN hA hF (fun s h => zq_yf_P h) (hp _)))
  · exact br_f (show ¬ (6 : Int32) < 5 by decide) (zx_frame hN hn hr (zx_ten6 hn hrn hN hA hF (fun s h => zq_yf_P h) (hp _)))
  · exact br_f (show ¬ (7 : Int32) < 5 by decide) (zx_frame hN hn hr (zx_ten7 hn hrn hN hA hF (hp _)))
  · exact br_f (show ¬ (8 : Int32) < 5 by decide) (zx_frame hN hn hr (zx_ten8 hn hrn hN hA hF (hp _)))
  · exact br_f (show ¬ (9 : Int32) < 5 by decide) (zx_frame hN hn hr (zx_ten9 hn hrn hN hA hF (hp _)))
  · exact br_f (show ¬ (10 : Int32) < 5 by decide) (zx_frame hN hn hr (zx_ten10 hn hrn hN hA hF (hp _)))
  · exact br_f (show ¬ (11 : Int32) < 5 by decide) (zx_frame hN hn hr (zx_ten11 hn hrn hN hA hF (hp _)))
theorem zx_loop {post : Int32 → SX → Prop} (hf : f = 0 ∨ f = 1 ∨ f = 2 ∨ f = 3 ∨ f = 4 ∨ f = 5 ∨ f = 6 ∨ f = 7 ∨ f = 8 ∨ f = 9 ∨ f = 10 ∨ f = 11) (hn : n ≤ 32) (hN : ∀ i, N i = 0 ∨ N i = 1) (hA : ∀ j, j < n → A j = (zq_q n P (zq_cmp P O N d nl)) j) (hS : zq_Sp d md sk so ek eo) (hm : md = 1 → d = 0 → (¬ sk = 1 ∧ ¬ sk = 3) ∧ (¬ ek = 1 ∧ ¬ ek = 3)) (hp : ∀ F' : Nat → Int32, post 1 (cp, nI n, d, nl, md, ex, sk, so, ek, eo, f, P, O, V, N, M, zq_mkL (fun r => (zq_an n P V M (zq_cmp P O N d nl) (zq_yf P (zq_cmp P O N d nl) (zq_q n P (zq_cmp P O N d nl)) O N d md ex sk so ek eo r) f arg r).2) R n, zq_mk (fun r => zq_b (zq_an n P V M (zq_cmp P O N d nl) (zq_yf P (zq_cmp P O N d nl) (zq_q n P (zq_cmp P O N d nl)) O N d md ex sk so ek eo r) f arg r).1) Z n, A, F')) : ∃ m, wX_compute_43 post f arg m 0 cp (nI n) d nl md ex sk so ek eo lf P O V N M R Z A F := by
  obtain ⟨m, hm'⟩ := zq_lp (W := fun m i => ∀ F' : Nat → Int32, wX_compute_43 post f arg m (nI i) cp (nI n) d nl md ex sk so ek eo lf P O V N M (zq_mkL (fun r => (zq_an n P V M (zq_cmp P O N d nl) (zq_yf P (zq_cmp P O N d nl) (zq_q n P (zq_cmp P O N d nl)) O N d md ex sk so ek eo r) f arg r).2) R i) (zq_mk (fun r => zq_b (zq_an n P V M (zq_cmp P O N d nl) (zq_yf P (zq_cmp P O N d nl) (zq_q n P (zq_cmp P O N d nl)) O N d md ex sk so ek eo r) f arg r).1) Z i) A F') n (fun m F' => br_t (nI_le (Nat.le_refl n) (by omega)) (hp F')) (fun m i hi ih F' => br_f (nI_ge hi (by omega)) (zx_sr hf hn hN hA hS hm hi (fun F2 => nm_r (nI_1 i) (ih F2))))
  exact ⟨m, hm' F⟩
theorem zq_ms_f (h : zq_ms d md sk ek = false) : md = 1 → d = 0 → (¬ sk = 1 ∧ ¬ sk = 3) ∧ (¬ ek = 1 ∧ ¬ ek = 3) := by
  intro h1 h2
  unfold zq_ms zq_to at h
  rw [decide_eq_true h1, decide_eq_true h2, Bool.true_and, Bool.true_and, Bool.or_eq_false_iff, Bool.or_eq_false_iff, Bool.or_eq_false_iff, decide_eq_false_iff_not, decide_eq_false_iff_not, decide_eq_false_iff_not, decide_eq_false_iff_not] at h
  exact h
theorem zq_ms_t : zq_ms d md sk ek = true ↔ (md = 1 ∧ d = 0 ∧ (zq_to sk = true ∨ zq_to ek = true)) := by
  unfold zq_ms
  rw [Bool.and_eq_true, Bool.and_eq_true, Bool.or_eq_true, decide_eq_true_eq, decide_eq_true_eq]
theorem zx_28 {post : Int32 → SX → Prop} (hf : f = 0 ∨ f = 1 ∨ f = 2 ∨ f = 3 ∨ f = 4 ∨ f = 5 ∨ f = 6 ∨ f = 7 ∨ f = 8 ∨ f = 9 ∨ f = 10 ∨ f = 11) (hn : n ≤ 32) (hN : ∀ i, N i = 0 ∨ N i = 1) (hS : zq_Sp d md sk so ek eo)
    (h1 : zq_ms d md sk ek = true → post 0 (cp, nI n, d, nl, md, ex, sk, so, ek, eo, lf, P, O, V, N, M, R, Z, A, F))
    (h2 : zq_ms d md sk ek = false → ∀ A' F' : Nat → Int32, post 1 (cp, nI n, d, nl, md, ex, sk, so, ek, eo, f, P, O, V, N, M, zq_mkL (fun r => (zq_an n P V M (zq_cmp P O N d nl) (zq_yf P (zq_cmp P O N d nl) (zq_q n P (zq_cmp P O N d nl)) O N d md ex sk so ek eo r) f arg r).2) R n, zq_mk (fun r => zq_b (zq_an n P V M (zq_cmp P O N d nl) (zq_yf P (zq_cmp P O N d nl) (zq_q n P (zq_cmp P O N d nl)) O N d md ex sk so ek eo r) f arg r).1) Z n, A', F')) : wX_compute_28 post f arg cp (nI n) d nl md ex sk so ek eo lf P O V N M R Z A F := by
  unfold wX_compute_28
  refine zx_miss (zq_br (fun g => zx_mark hN hn (zx_loop hf hn hN ?_ hS (zq_ms_f g) (fun F' => h2 g _ F'))) (fun g => h1 g))
  intro j hj
  exact zq_mk_lt n hj
end ZQK
end
section
section ZQL
/-! addRow, isRow, small ranges -/
variable {cp d nl md ex sk so ek eo lf f arg : Int32} {P O V N M Z A F : Nat → Int32} {R : Nat → Int64} {n a b r s i : Nat}
theorem zq_us {g : Nat → Int32} {k : Nat} {x : Int32} : upd g k x k = x := if_pos rfl
theorem zq_us1 {g : Nat → Int32} {k : Nat} : ¬ upd g k 1 k = 0 := by rw [zq_us]; exact zq_n10
theorem zx_add {post : Int32 → SX → Prop} {p o v q b1 b2 o' v' : Int32} {C : Nat} (hC : C ≤ 32) (hn : n < C) (h1 : ((q &&& 1) = 0 ∧ b1 = 0 ∧ o' = o) ∨ (¬ (q &&& 1) = 0 ∧ b1 = 1 ∧ o' = 0)) (h2 : ((q &&& 2) = 0 ∧ b2 = 0 ∧ v' = v) ∨ (¬ (q &&& 2) = 0 ∧ b2 = 1 ∧ v' = 0)) (hp : post (nI n) (nI C, nI (n + 1), d, nl, md, ex, sk, so, ek, eo, lf, upd P n p, upd O n o', upd V n v', upd N n b1, upd M n b2, vp_updL R n 0, upd Z n 1, A, F)) : wpX_addRow post (nI C, nI n, d, nl, md, ex, sk, so, ek, eo, lf, P, O, V, N, M, R, Z, A, F) p o v q := by
  have hn' : n < 32 := by omega
  have ii := zq_in hn'
  unfold wpX_addRow wX_addRow_45 wX_addRow_67 wX_addRow_86 wX_addRow_108
  dsimp only
  rw [zq_cl hn', zq_nb0, zq_nb1]
  refine br_t (nI_lt hn (by omega)) ⟨ii, nm_e ?_⟩
  rcases h1 with ⟨g1, rfl, rfl⟩ | ⟨g1, rfl, rfl⟩
  · refine br_t g1 ⟨ii, nm_e ⟨ii, br_t zq_us ⟨ii, nm_e ?_⟩⟩⟩
    rcases h2 with ⟨g2, rfl, rfl⟩ | ⟨g2, rfl, rfl⟩
    · exact br_t g2 ⟨ii, nm_e ⟨ii, br_t zq_us ⟨ii, nm_e (zx_null hn' (nm_r (nI_1 n) hp))⟩⟩⟩
    · exact br_f g2 ⟨ii, nm_e ⟨ii, br_f zq_us1 ⟨ii, nm_e (zx_null hn' (nm_r (nI_1 n) hp))⟩⟩⟩
  · refine br_f g1 ⟨ii, nm_e ⟨ii, br_f zq_us1 ⟨ii, nm_e ?_⟩⟩⟩
    rcases h2 with ⟨g2, rfl, rfl⟩ | ⟨g2, rfl, rfl⟩
    · exact br_t g2 ⟨ii, nm_e ⟨ii, br_t zq_us ⟨ii, nm_e (zx_null hn' (nm_r (nI_1 n) hp))⟩⟩⟩
    · exact br_f g2 ⟨ii, nm_e ⟨ii, br_f zq_us1 ⟨ii, nm_e (zx_null hn' (nm_r (nI_1 n) hp))⟩⟩⟩
theorem zy_add {post : Int32 → SY → Prop} {p o v q b1 b2 o' v' : Int32} {C : Nat} (hC : C ≤ 32) (hn : n < C) (h1 : ((q &&& 1) = 0 ∧ b1 = 0 ∧ o' = o) ∨ (¬ (q &&& 1) = 0 ∧ b1 = 1 ∧ o' = 0)) (h2 : ((q &&& 2) = 0 ∧ b2 = 0 ∧ v' = v) ∨ (¬ (q &&& 2) = 0 ∧ b2 = 1 ∧ v' = 0)) (hp : post (nI n) (nI C, nI (n + 1), d, nl, md, ex, sk, so, ek, eo, lf, upd P n p, upd O n o', upd V n v', upd N n b1, upd M n b2, vp_updL R n 0, upd Z n 1)) : wpY_addRow post (nI C, nI n, d, nl, md, ex, sk, so, ek, eo, lf, P, O, V, N, M, R, Z) p o v q := by
  have hn' : n < 32 := by omega
  have ii := zq_in hn'
  have hq : post (nI (n + 1) - 1) (nI C, nI (n + 1), d, nl, md, ex, sk, so, ek, eo, lf, upd P n p, upd O n o', upd V n v', upd N n b1, upd M n b2, vp_updL R n 0, upd Z n 1) := by rw [nI_pred]; exact hp
  unfold wpY_addRow wY_addRow_52 wY_addRow_78 wY_addRow_99 wY_addRow_125
  dsimp only
  rw [zq_cl hn', zq_nb0, zq_nb1]
  refine br_f (nI_ge hn (by omega)) (br_t (nI_lt (b := 32) hn' (by omega)) ⟨ii, nm_e ?_⟩)
  rcases h1 with ⟨g1, rfl, rfl⟩ | ⟨g1, rfl, rfl⟩
  · refine br_t g1 ⟨ii, nm_e ⟨ii, br_t zq_us ⟨ii, nm_e ?_⟩⟩⟩
    rcases h2 with ⟨g2, rfl, rfl⟩ | ⟨g2, rfl, rfl⟩
    · exact br_t g2 ⟨ii, nm_e ⟨ii, br_t zq_us ⟨ii, nm_e ⟨ii, nm_e ⟨ii, nm_e (nm_r (nI_1 n) hq)⟩⟩⟩⟩⟩
    · exact br_f g2 ⟨ii, nm_e ⟨ii, br_f zq_us1 ⟨ii, nm_e ⟨ii, nm_e ⟨ii, nm_e (nm_r (nI_1 n) hq)⟩⟩⟩⟩⟩
  · refine br_f g1 ⟨ii, nm_e ⟨ii, br_f zq_us1 ⟨ii, nm_e ?_⟩⟩⟩
    rcases h2 with ⟨g2, rfl, rfl⟩ | ⟨g2, rfl, rfl⟩
    · exact br_t g2 ⟨ii, nm_e ⟨ii, br_t zq_us ⟨ii, nm_e ⟨ii, nm_e ⟨ii, nm_e (nm_r (nI_1 n) hq)⟩⟩⟩⟩⟩
    · exact br_f g2 ⟨ii, nm_e ⟨ii, br_f zq_us1 ⟨ii, nm_e ⟨ii, nm_e ⟨ii, nm_e (nm_r (nI_1 n) hq)⟩⟩⟩⟩⟩
theorem zq_r1 (h0 : ¬ f < 0) (h1 : f ≤ 1) : f = 0 ∨ f = 1 := by
  obtain ⟨j, hj, rfl⟩ := nI_of2 (M := 1) (n := 1) (by decide) h0 h1
  have h : j = 0 ∨ j = 1 := by omega
  rcases h with rfl | rfl <;> decide
theorem zq_r2 (h0 : ¬ f < 0) (h1 : f ≤ 2) : f = 0 ∨ f = 1 ∨ f = 2 := by
  obtain ⟨j, hj, rfl⟩ := nI_of2 (M := 2) (n := 2) (by decide) h0 h1
  have h : j = 0 ∨ j = 1 ∨ j = 2 := by omega
  rcases h with rfl | rfl | rfl <;> decide
theorem zq_r3 (h0 : ¬ f < 0) (h1 : f ≤ 3) : f = 0 ∨ f = 1 ∨ f = 2 ∨ f = 3 := by
  obtain ⟨j, hj, rfl⟩ := nI_of2 (M := 3) (n := 3) (by decide) h0 h1
  have h : j = 0 ∨ j = 1 ∨ j = 2 ∨ j = 3 := by omega
  rcases h with rfl | rfl | rfl | rfl <;> decide
theorem zq_r4 (h0 : ¬ f < 1) (h1 : f ≤ 4) : f = 1 ∨ f = 2 ∨ f = 3 ∨ f = 4 := by
  have h0' : ¬ f < 0 := fun z => h0 (Int32.lt_of_lt_of_le z (by decide))
  obtain ⟨j, hj, rfl⟩ := nI_of2 (M := 4) (n := 4) (by decide) h0' h1
  have h : j = 0 ∨ j = 1 ∨ j = 2 ∨ j = 3 ∨ j = 4 := by omega
  rcases h with rfl | rfl | rfl | rfl | rfl
  · exact absurd (by decide) h0
  · decide
  · decide
  · decide
  · decide
theorem zq_ix (x : Int32) (hn : n ≤ 32) : x < 0 ∨ (¬ x < 0 ∧ nI n ≤ x ∧ ¬ x < nI n) ∨ ∃ j : Nat, j < n ∧ x = nI j := by
  by_cases h : x < 0
  · exact Or.inl h
  · obtain ⟨j, hj, rfl⟩ := nI_of h
    by_cases g : j < n
    · exact Or.inr (Or.inr ⟨j, g, rfl⟩)
    · exact Or.inr (Or.inl ⟨h, nI_le (by omega) hj, nI_nlt (by omega) hj⟩)
theorem zq_brf {x : Bool} {B D : Prop} (h : x = false) (b : B) : (zq_b x = 0 → B) ∧ (¬ zq_b x = 0 → D) := zq_br (fun _ => b) (fun g => by rw [h] at g; cases g)
theorem zq_brt {x : Bool} {B D : Prop} (h : x = true) (b : D) : (zq_b x = 0 → B) ∧ (¬ zq_b x = 0 → D) := zq_br (fun g => by rw [h] at g; cases g) (fun _ => b)
theorem zx_is0 {post : Int32 → Prop} {x : Int32} (h : x < 0 ∨ (¬ x < 0 ∧ nI n ≤ x ∧ ¬ x < nI n)) (hp : post 0) : wpX_isRow post (cp, nI n, d, nl, md, ex, sk, so, ek, eo, lf, P, O, V, N, M, R, Z, A, F) x := by
  rcases h with h | h
  · exact br_t h hp
  · exact br_f h.1 (br_t h.2.1 hp)
theorem zx_is1 {post : Int32 → Prop} {j : Nat} (hn : n ≤ 32) (hj : j < n) (hp : post 1) : wpX_isRow post (cp, nI n, d, nl, md, ex, sk, so, ek, eo, lf, P, O, V, N, M, R, Z, A, F) (nI j) := br_f (nI_pos (by omega)) (br_f (nI_ge hj (by omega)) hp)
theorem zq_to_f {k : Int32} (h : zq_to k = false) : ¬ k = 1 ∧ ¬ k = 3 := by
  unfold zq_to at h
  rw [Bool.or_eq_false_iff, decide_eq_false_iff_not, decide_eq_false_iff_not] at h
  exact h
theorem zq_to_t {k : Int32} (h : zq_to k = true) : k = 1 ∨ k = 3 := by
  unfold zq_to at h
  rw [Bool.or_eq_true, decide_eq_true_eq, decide_eq_true_eq] at h
  exact h
end ZQL
end
section
section ZQM
/-- what both sides hold: at most 32 rows, flags are 0 or 1, a NULL is held as 0, the specification's ranges -/
def zq_Inv (C n : Nat) (O V N M Z : Nat → Int32) (R : Nat → Int64) (d md sk so ek eo : Int32) : Prop :=
  C ≤ 32 ∧ n ≤ C ∧ (∀ i, (N i = 0 ∨ N i = 1) ∧ (¬ N i = 0 → O i = 0)) ∧ (∀ i, (M i = 0 ∨ M i = 1) ∧ (¬ M i = 0 → V i = 0)) ∧ (∀ i, (Z i = 0 ∨ Z i = 1) ∧ (¬ Z i = 0 → R i = 0)) ∧ zq_Sp d md sk so ek eo
/-- the two states are the same table, results and specification; the class's work arrays are free -/
def i_Rel (_ : Nat) (u : SX) (v : SY) : Prop :=
  ∃ (C n : Nat) (d nl md ex sk so ek eo lf : Int32) (P O V N M : Nat → Int32) (R : Nat → Int64) (Z A F : Nat → Int32), u = (nI C, nI n, d, nl, md, ex, sk, so, ek, eo, lf, P, O, V, N, M, R, Z, A, F) ∧ v = (nI C, nI n, d, nl, md, ex, sk, so, ek, eo, lf, P, O, V, N, M, R, Z) ∧ zq_Inv C n O V N M Z R d md sk so ek eo
theorem i_up {k : Nat} {u : SX} {v : SY} (h : i_Rel k u v) : i_Rel (k + 5) u v := h
theorem zq_u2 {N O : Nat → Int32} {n : Nat} {b o : Int32} (h : ∀ i, (N i = 0 ∨ N i = 1) ∧ (¬ N i = 0 → O i = 0)) (hb : (b = 0 ∨ b = 1) ∧ (¬ b = 0 → o = 0)) : ∀ i, (upd N n b i = 0 ∨ upd N n b i = 1) ∧ (¬ upd N n b i = 0 → upd O n o i = 0) := by
  intro i
  unfold upd
  by_cases e : i = n
  · rw [if_pos e, if_pos e]; exact hb
  · rw [if_neg e, if_neg e]; exact h i
theorem zq_u3 {Z : Nat → Int32} {R : Nat → Int64} {n : Nat} (h : ∀ i, (Z i = 0 ∨ Z i = 1) ∧ (¬ Z i = 0 → R i = 0)) : ∀ i, (upd Z n 1 i = 0 ∨ upd Z n 1 i = 1) ∧ (¬ upd Z n 1 i = 0 → vp_updL R n 0 i = 0) := by
  intro i
  unfold upd vp_updL
  by_cases e : i = n
  · rw [if_pos e, if_pos e]; exact ⟨Or.inr rfl, fun _ => rfl⟩
  · rw [if_neg e, if_neg e]; exact h i
theorem zq_inv0 {C : Nat} (h : C ≤ 32) : zq_Inv C 0 (fun _ => 0) (fun _ => 0) (fun _ => 0) (fun _ => 0) (fun _ => 0) (fun _ => 0) 1 1 0 0 2 0 :=
  ⟨h, Nat.zero_le _, fun _ => ⟨Or.inl rfl, fun z => absurd rfl z⟩, fun _ => ⟨Or.inl rfl, fun z => absurd rfl z⟩, fun _ => ⟨Or.inl rfl, fun z => absurd rfl z⟩, Or.inr (Or.inl rfl), Or.inr rfl, Or.inl rfl, fun _ => rfl, Or.inr (Or.inl rfl), fun _ => rfl⟩
theorem i_vc0 (k0 : Int32) : wpX_init (fun u => wpY_init (fun v => i_Rel 1 u v) k0) k0 := by
  by_cases h8 : 8 ≤ k0
  · by_cases h32 : k0 ≤ 32
    · have h0 : ¬ k0 < 0 := fun z => absurd (Int32.lt_of_le_of_lt h8 z) (by decide)
      obtain ⟨C, hC, rfl⟩ := nI_of2 (M := 32) (n := 32) (by decide) h0 h32
      exact br_t h8 (br_t h32 (br_t h8 (br_t h32 ⟨C, 0, 1, 0, 1, 0, 0, 0, 2, 0, -1, (fun _ => 0), (fun _ => 0), (fun _ => 0), (fun _ => 0), (fun _ => 0), (fun _ => 0), (fun _ => 0), (fun _ => 0), (fun _ => 0), rfl, rfl, zq_inv0 (by omega)⟩)))
    · exact br_t h8 (br_f h32 (br_t h8 (br_f h32 ⟨32, 0, 1, 0, 1, 0, 0, 0, 2, 0, -1, (fun _ => 0), (fun _ => 0), (fun _ => 0), (fun _ => 0), (fun _ => 0), (fun _ => 0), (fun _ => 0), (fun _ => 0), (fun _ => 0), rfl, rfl, zq_inv0 (by omega)⟩)))
  · exact br_f h8 (br_f h8 ⟨8, 0, 1, 0, 1, 0, 0, 0, 2, 0, -1, (fun _ => 0), (fun _ => 0), (fun _ => 0), (fun _ => 0), (fun _ => 0), (fun _ => 0), (fun _ => 0), (fun _ => 0), (fun _ => 0), rfl, rfl, zq_inv0 (by omega)⟩)
theorem i_vc_capacity {k : Nat} {u : SX} {v : SY} (I : i_Rel k u v) (hk : k + 5 ≤ 2561) : wpX_capacity (fun r => wpY_capacity (fun r' => r' = r ∧ i_Rel (k + 5) u v) v) u := by
  have J := I
  obtain ⟨C, n, d, nl, md, ex, sk, so, ek, eo, lf, P, O, V, N, M, R, Z, A, F, rfl, rfl, hI⟩ := I
  exact ⟨rfl, J⟩
theorem i_vc_rowCount {k : Nat} {u : SX} {v : SY} (I : i_Rel k u v) (hk : k + 5 ≤ 2561) : wpX_rowCount (fun r => wpY_rowCount (fun r' => r' = r ∧ i_Rel (k + 5) u v) v) u := by
  have J := I
  obtain ⟨C, n, d, nl, md, ex, sk, so, ek, eo, lf, P, O, V, N, M, R, Z, A, F, rfl, rfl, hI⟩ := I
  exact ⟨rfl, J⟩
theorem i_vc_addRow {k : Nat} {u : SX} {v : SY} (I : i_Rel k u v) (hk : k + 5 ≤ 2561) (v1 : Int32) (v2 : Int32) (v3 : Int32) (v4 : Int32) : wpX_addRow (fun r u' => wpY_addRow (fun r' v' => r' = r ∧ i_Rel (k + 5) u' v') v v1 v2 v3 v4) u v1 v2 v3 v4 := by
  have J := I
  obtain ⟨C, n, d, nl, md, ex, sk, so, ek, eo, lf, P, O, V, N, M, R, Z, A, F, rfl, rfl, hI⟩ := I
  obtain ⟨hC, hn, i1, i2, i3, hS⟩ := hI
  by_cases h : n < C
  · have E : ∀ (b1 o' b2 w' : Int32), (((v4 &&& 1) = 0 ∧ b1 = 0 ∧ o' = v2) ∨ (¬ (v4 &&& 1) = 0 ∧ b1 = 1 ∧ o' = 0)) → (((v4 &&& 2) = 0 ∧ b2 = 0 ∧ w' = v3) ∨ (¬ (v4 &&& 2) = 0 ∧ b2 = 1 ∧ w' = 0)) → wpX_addRow (fun r u' => wpY_addRow (fun r' v' => r' = r ∧ i_Rel (k + 5) u' v') (nI C, nI n, d, nl, md, ex, sk, so, ek, eo, lf, P, O, V, N, M, R, Z) v1 v2 v3 v4) (nI C, nI n, d, nl, md, ex, sk, so, ek, eo, lf, P, O, V, N, M, R, Z, A, F) v1 v2 v3 v4 := by
      intro b1 o' b2 w' h1 h2
      have q1 : (b1 = 0 ∨ b1 = 1) ∧ (¬ b1 = 0 → o' = 0) := by
        rcases h1 with ⟨_, rfl, _⟩ | ⟨_, rfl, e⟩
        · exact ⟨Or.inl rfl, fun z => absurd rfl z⟩
        · exact ⟨Or.inr rfl, fun _ => e⟩
      have q2 : (b2 = 0 ∨ b2 = 1) ∧ (¬ b2 = 0 → w' = 0) := by
        rcases h2 with ⟨_, rfl, _⟩ | ⟨_, rfl, e⟩
        · exact ⟨Or.inl rfl, fun z => absurd rfl z⟩
        · exact ⟨Or.inr rfl, fun _ => e⟩
      exact zx_add hC h h1 h2 (zy_add hC h h1 h2 ⟨rfl, ⟨C, n + 1, d, nl, md, ex, sk, so, ek, eo, lf, upd P n v1, upd O n o', upd V n w', upd N n b1, upd M n b2, vp_updL R n 0, upd Z n 1, A, F, rfl, rfl, ⟨hC, h, zq_u2 i1 q1, zq_u2 i2 q2, zq_u3 i3, hS⟩⟩⟩)
    by_cases g1 : (v4 &&& 1) = 0
    · by_cases g2 : (v4 &&& 2) = 0
      · exact E 0 v2 0 v3 (Or.inl ⟨g1, rfl, rfl⟩) (Or.inl ⟨g2, rfl, rfl⟩)
      · exact E 0 v2 1 0 (Or.inl ⟨g1, rfl, rfl⟩) (Or.inr ⟨g2, rfl, rfl⟩)
    · by_cases g2 : (v4 &&& 2) = 0
      · exact E 1 0 0 v3 (Or.inr ⟨g1, rfl, rfl⟩) (Or.inl ⟨g2, rfl, rfl⟩)
      · exact E 1 0 1 0 (Or.inr ⟨g1, rfl, rfl⟩) (Or.inr ⟨g2, rfl, rfl⟩)
  · exact br_f (nI_nlt (by omega) (by omega)) (br_t (nI_le (by omega) (by omega)) ⟨rfl, J⟩)
theorem i_vc_clear {k : Nat} {u : SX} {v : SY} (I : i_Rel k u v) (hk : k + 5 ≤ 2561) : wpX_clear (fun u' => wpY_clear (fun v' => i_Rel (k + 5) u' v') v) u := by
  obtain ⟨C, n, d, nl, md, ex, sk, so, ek, eo, lf, P, O, V, N, M, R, Z, A, F, rfl, rfl, hI⟩ := I
  obtain ⟨hC, hn, i1, i2, i3, hS⟩ := hI
  exact ⟨C, 0, d, nl, md, ex, sk, so, ek, eo, -1, P, O, V, N, M, R, Z, A, F, rfl, rfl, ⟨hC, Nat.zero_le _, i1, i2, i3, hS⟩⟩
theorem i_vc_setOrder {k : Nat} {u : SX} {v : SY} (I : i_Rel k u v) (hk : k + 5 ≤ 2561) (v1 : Int32) (v2 : Int32) : wpX_setOrder (fun r u' => wpY_setOrder (fun r' v' => r' = r ∧ i_Rel (k + 5) u' v') v v1 v2) u v1 v2 := by
  have J := I
  obtain ⟨C, n, d, nl, md, ex, sk, so, ek, eo, lf, P, O, V, N, M, R, Z, A, F, rfl, rfl, hI⟩ := I
  obtain ⟨hC, hn, i1, i2, i3, s1, s2, s3, s4, s5, s6⟩ := hI
  by_cases h0 : v1 < 0
  · exact br_t h0 (br_t h0 ⟨rfl, J⟩)
  by_cases h2 : v1 ≤ 2
  · have h2' : ¬ 2 < v1 := Int32.not_lt.mpr h2
    by_cases g0 : v2 < 0
    · exact br_f h0 (br_t h2 (br_t g0 (br_f h0 (br_f h2' (br_t g0 ⟨rfl, J⟩)))))
    by_cases g1 : v2 ≤ 1
    · exact br_f h0 (br_t h2 (br_f g0 (br_t g1 (br_f h0 (br_f h2' (br_f g0 (br_t g1 ⟨rfl, ⟨C, n, v1, v2, md, ex, sk, so, ek, eo, lf, P, O, V, N, M, R, Z, A, F, rfl, rfl, ⟨hC, hn, i1, i2, i3, zq_r2 h0 h2, s2, s3, s4, s5, s6⟩⟩⟩)))))))
    · exact br_f h0 (br_t h2 (br_f g0 (br_f g1 (br_f h0 (br_f h2' (br_f g0 (br_f g1 ⟨rfl, J⟩)))))))
  · exact br_f h0 (br_f h2 (br_f h0 (br_t (Int32.not_le.mp h2) ⟨rfl, J⟩)))
theorem i_vc_setMode {k : Nat} {u : SX} {v : SY} (I : i_Rel k u v) (hk : k + 5 ≤ 2561) (v1 : Int32) (v2 : Int32) : wpX_setMode (fun r u' => wpY_setMode (fun r' v' => r' = r ∧ i_Rel (k + 5) u' v') v v1 v2) u v1 v2 := by
  have J := I
  obtain ⟨C, n, d, nl, md, ex, sk, so, ek, eo, lf, P, O, V, N, M, R, Z, A, F, rfl, rfl, hI⟩ := I
  obtain ⟨hC, hn, i1, i2, i3, s1, s2, s3, s4, s5, s6⟩ := hI
  by_cases h0 : v1 < 0
  · exact br_t h0 (br_t h0 ⟨rfl, J⟩)
  by_cases h2 : v1 ≤ 1
  · have h2' : ¬ 1 < v1 := Int32.not_lt.mpr h2
    by_cases g0 : v2 < 0
    · exact br_f h0 (br_t h2 (br_t g0 (br_f h0 (br_f h2' (br_t g0 ⟨rfl, J⟩)))))
    by_cases g1 : v2 ≤ 3
    · exact br_f h0 (br_t h2 (br_f g0 (br_t g1 (br_f h0 (br_f h2' (br_f g0 (br_t g1 ⟨rfl, ⟨C, n, d, nl, v1, v2, sk, so, ek, eo, lf, P, O, V, N, M, R, Z, A, F, rfl, rfl, ⟨hC, hn, i1, i2, i3, s1, zq_r1 h0 h2, s3, s4, s5, s6⟩⟩⟩)))))))
    · exact br_f h0 (br_t h2 (br_f g0 (br_f g1 (br_f h0 (br_f h2' (br_f g0 (br_f g1 ⟨rfl, J⟩)))))))
  · exact br_f h0 (br_f h2 (br_f h0 (br_t (Int32.not_le.mp h2) ⟨rfl, J⟩)))
theorem i_vc_setStart {k : Nat} {u : SX} {v : SY} (I : i_Rel k u v) (hk : k + 5 ≤ 2561) (v1 : Int32) (v2 : Int32) : wpX_setStart (fun r u' => wpY_setStart (fun r' v' => r' = r ∧ i_Rel (k + 5) u' v') v v1 v2) u v1 v2 := by
  have J := I
  obtain ⟨C, n, d, nl, md, ex, sk, so, ek, eo, lf, P, O, V, N, M, R, Z, A, F, rfl, rfl, hI⟩ := I
  obtain ⟨hC, hn, i1, i2, i3, s1, s2, s3, s4, s5, s6⟩ := hI
  by_cases h0 : v1 < 0
  · exact br_t h0 (br_t h0 ⟨rfl, J⟩)
  by_cases h3 : v1 ≤ 3
  · cases t : zq_to v1
    · have t' := zq_to_f t
      exact br_f h0 (br_t h3 (zx_to (zq_brf t (zx_to (zq_brf t (br_f h0 (br_t h3 (br_f t'.1 (br_f t'.2 (br_t rfl (br_t rfl ⟨rfl, ⟨C, n, d, nl, md, ex, v1, 0, ek, eo, lf, P, O, V, N, M, R, Z, A, F, rfl, rfl, ⟨hC, hn, i1, i2, i3, s1, s2, zq_r3 h0 h3, fun _ => rfl, s5, s6⟩⟩⟩)))))))))))
    · by_cases p : 0 ≤ v2
      · refine br_f h0 (br_t h3 (zx_to (zq_brt t (br_t p (zx_to (zq_brt t (br_f h0 (br_t h3 ?_))))))))
        rcases zq_to_t t with e | e
        · exact br_t e (br_f zq_n10 (br_t p (br_f zq_n10 ⟨rfl, ⟨C, n, d, nl, md, ex, v1, v2, ek, eo, lf, P, O, V, N, M, R, Z, A, F, rfl, rfl, ⟨hC, hn, i1, i2, i3, s1, s2, zq_r3 h0 h3, fun z => absurd (e.symm.trans z) (by decide), s5, s6⟩⟩⟩)))
        · exact br_f (by rw [e]; decide) (br_t e (br_f zq_n10 (br_t p (br_f zq_n10 ⟨rfl, ⟨C, n, d, nl, md, ex, v1, v2, ek, eo, lf, P, O, V, N, M, R, Z, A, F, rfl, rfl, ⟨hC, hn, i1, i2, i3, s1, s2, zq_r3 h0 h3, fun z => absurd (e.symm.trans z) (by decide), s5, s6⟩⟩⟩))))
      · refine br_f h0 (br_t h3 (zx_to (zq_brt t (br_f p (br_f h0 (br_t h3 ?_))))))
        rcases zq_to_t t with e | e
        · exact br_t e (br_f zq_n10 (br_f p ⟨rfl, J⟩))
        · exact br_f (by rw [e]; decide) (br_t e (br_f zq_n10 (br_f p ⟨rfl, J⟩)))
  · exact br_f h0 (br_f h3 (br_f h0 (br_f h3 ⟨rfl, J⟩)))
theorem i_vc_setEnd {k : Nat} {u : SX} {v : SY} (I : i_Rel k u v) (hk : k + 5 ≤ 2561) (v1 : Int32) (v2 : Int32) : wpX_setEnd (fun r u' => wpY_setEnd (fun r' v' => r' = r ∧ i_Rel (k + 5) u' v') v v1 v2) u v1 v2 := by
  have J := I
  obtain ⟨C, n, d, nl, md, ex, sk, so, ek, eo, lf, P, O, V, N, M, R, Z, A, F, rfl, rfl, hI⟩ := I
  obtain ⟨hC, hn, i1, i2, i3, s1, s2, s3, s4, s5, s6⟩ := hI
  by_cases h0 : v1 < 1
  · exact br_t h0 (br_t h0 ⟨rfl, J⟩)
  by_cases h3 : v1 ≤ 4
  · cases t : zq_to v1
    · have t' := zq_to_f t
      exact br_f h0 (br_t h3 (zx_to (zq_brf t (zx_to (zq_brf t (br_f h0 (br_t h3 (br_f t'.1 (br_f t'.2 (br_t rfl (br_t rfl ⟨rfl, ⟨C, n, d, nl, md, ex, sk, so, v1, 0, lf, P, O, V, N, M, R, Z, A, F, rfl, rfl, ⟨hC, hn, i1, i2, i3, s1, s2, s3, s4, zq_r4 h0 h3, fun _ => rfl⟩⟩⟩)))))))))))
    · by_cases p : 0 ≤ v2
      · refine br_f h0 (br_t h3 (zx_to (zq_brt t (br_t p (zx_to (zq_brt t (br_f h0 (br_t h3 ?_))))))))
        rcases zq_to_t t with e | e
        · exact br_t e (br_f zq_n10 (br_t p (br_f zq_n10 ⟨rfl, ⟨C, n, d, nl, md, ex, sk, so, v1, v2, lf, P, O, V, N, M, R, Z, A, F, rfl, rfl, ⟨hC, hn, i1, i2, i3, s1, s2, s3, s4, zq_r4 h0 h3, fun z => absurd (e.symm.trans z) (by decide)⟩⟩⟩)))
        · exact br_f (by rw [e]; decide) (br_t e (br_f zq_n10 (br_t p (br_f zq_n10 ⟨rfl, ⟨C, n, d, nl, md, ex, sk, so, v1, v2, lf, P, O, V, N, M, R, Z, A, F, rfl, rfl, ⟨hC, hn, i1, i2, i3, s1, s2, s3, s4, zq_r4 h0 h3, fun z => absurd (e.symm.trans z) (by decide)⟩⟩⟩))))
      · refine br_f h0 (br_t h3 (zx_to (zq_brt t (br_f p (br_f h0 (br_t h3 ?_))))))
        rcases zq_to_t t with e | e
        · exact br_t e (br_f zq_n10 (br_f p ⟨rfl, J⟩))
        · exact br_f (by rw [e]; decide) (br_t e (br_f zq_n10 (br_f p ⟨rfl, J⟩)))
  · exact br_f h0 (br_f h3 (br_f h0 (br_f h3 ⟨rfl, J⟩)))
end ZQM
end
section
section ZQN
theorem i_vc_compute {k : Nat} {u : SX} {v : SY} (I : i_Rel k u v) (hk : k + 5 ≤ 2561) (v1 : Int32) (v2 : Int32) : wpX_compute (fun r u' => wpY_compute (fun r' v' => r' = r ∧ i_Rel (k + 5) u' v') v v1 v2) u v1 v2 := by
  have J := I
  obtain ⟨C, n, d, nl, md, ex, sk, so, ek, eo, lf, P, O, V, N, M, R, Z, A, F, rfl, rfl, hI⟩ := I
  obtain ⟨hC, hn, i1, i2, i3, hS⟩ := hI
  have hn' : n ≤ 32 := by omega
  by_cases h0 : v1 < 0
  · exact br_t h0 (br_t h0 ⟨rfl, J⟩)
  by_cases h11 : v1 ≤ 11
  · have hf := zq_f12 h0 h11
    have G : ∀ T : (Int32 → SY → Prop) → Prop, (∀ p, wY_compute_28 p v1 v2 (nI C) (nI n) d nl md ex sk so ek eo lf P O V N M R Z → T p) → wX_compute_28 (fun r u' => T (fun r' v' => r' = r ∧ i_Rel (k + 5) u' v')) v1 v2 (nI C) (nI n) d nl md ex sk so ek eo lf P O V N M R Z A F := by
      intro T hT
      refine zx_28 hf hn' (fun i => (i1 i).1) hS (fun ms => hT _ ?_) (fun ms A' F' => hT _ ?_)
      · exact zy_28 hf hn' (fun i => (i2 i).1) (fun _ => ⟨rfl, J⟩) (fun z => absurd (zq_ms_t.mp ms) z)
      · refine zy_28 hf hn' (fun i => (i2 i).1) (fun z => absurd (zq_ms_t.mpr z) (by rw [ms]; decide)) (fun _ => ⟨rfl, ⟨C, n, d, nl, md, ex, sk, so, ek, eo, v1, P, O, V, N, M, _, _, A', F', rfl, rfl, ⟨hC, hn, i1, i2, ?_, hS⟩⟩⟩)
        exact zq_mk_p2 (Q := fun a b => (a = 0 ∨ a = 1) ∧ (¬ a = 0 → b = 0)) i3 (fun j => ⟨zq_b01 _, fun z => zq_an_Z (by
          cases q : (zq_an n P V M (zq_cmp P O N d nl) (zq_yf P (zq_cmp P O N d nl) (zq_q n P (zq_cmp P O N d nl)) O N d md ex sk so ek eo j) v1 v2 j).1
          · rw [q] at z; exact absurd rfl z
          · rfl)⟩) n
    by_cases e3 : v1 = 3
    · by_cases p : 0 ≤ v2
      · exact br_f h0 (br_t h11 (br_t e3 (br_t p (G (fun q => wpY_compute q (nI C, nI n, d, nl, md, ex, sk, so, ek, eo, lf, P, O, V, N, M, R, Z) v1 v2) (fun q hq => br_f h0 (br_t h11 (br_t e3 (br_t p hq))))))))
      · exact br_f h0 (br_t h11 (br_t e3 (br_f p (br_f h0 (br_t h11 (br_t e3 (br_f p ⟨rfl, J⟩)))))))
    by_cases e4 : v1 = 4
    · by_cases p : 0 ≤ v2
      · exact br_f h0 (br_t h11 (br_f e3 (br_t e4 (br_t p (G (fun q => wpY_compute q (nI C, nI n, d, nl, md, ex, sk, so, ek, eo, lf, P, O, V, N, M, R, Z) v1 v2) (fun q hq => br_f h0 (br_t h11 (br_f e3 (br_t e4 (br_t p hq))))))))))
      · exact br_f h0 (br_t h11 (br_f e3 (br_t e4 (br_f p (br_f h0 (br_t h11 (br_f e3 (br_t e4 (br_f p ⟨rfl, J⟩)))))))))
    · exact br_f h0 (br_t h11 (br_f e3 (br_f e4 (G (fun q => wpY_compute q (nI C, nI n, d, nl, md, ex, sk, so, ek, eo, lf, P, O, V, N, M, R, Z) v1 v2) (fun q hq => br_f h0 (br_t h11 (br_f e3 (br_f e4 hq))))))))
  · exact br_f h0 (br_f h11 (br_f h0 (br_f h11 ⟨rfl, J⟩)))
theorem i_vc_result {k : Nat} {u : SX} {v : SY} (I : i_Rel k u v) (hk : k + 5 ≤ 2561) (v1 : Int32) : wpX_result (fun r => wpY_result (fun r' => r' = r ∧ i_Rel (k + 5) u v) v v1) u v1 := by
  have J := I
  obtain ⟨C, n, d, nl, md, ex, sk, so, ek, eo, lf, P, O, V, N, M, R, Z, A, F, rfl, rfl, hI⟩ := I
  obtain ⟨hC, hn, i1, i2, i3, hS⟩ := hI
  have hn' : n ≤ 32 := by omega
  unfold wpX_result wpY_result
  dsimp only
  rcases zq_ix v1 hn' with h | h | ⟨j, hj, rfl⟩
  · exact zx_is0 (Or.inl h) (br_t rfl (br_t h ⟨rfl, J⟩))
  · exact zx_is0 (Or.inr h) (br_t rfl (br_f h.1 (br_t h.2.1 ⟨rfl, J⟩)))
  · have hj' : j < 32 := by omega
    rw [zq_cl hj']
    refine zx_is1 hn' hj (br_f zq_n10 ⟨zq_in hj', br_f (nI_pos (by omega)) (br_f (nI_ge hj (by omega)) ⟨zq_in hj', br_c (fun _ => ⟨zq_in hj', rfl, J⟩) (fun z => ⟨?_, J⟩)⟩)⟩)
    exact ((i3 j).2 z).symm
theorem i_vc_resultIsNull {k : Nat} {u : SX} {v : SY} (I : i_Rel k u v) (hk : k + 5 ≤ 2561) (v1 : Int32) : wpX_resultIsNull (fun r => wpY_resultIsNull (fun r' => r' = r ∧ i_Rel (k + 5) u v) v v1) u v1 := by
  have J := I
  obtain ⟨C, n, d, nl, md, ex, sk, so, ek, eo, lf, P, O, V, N, M, R, Z, A, F, rfl, rfl, hI⟩ := I
  obtain ⟨hC, hn, i1, i2, i3, hS⟩ := hI
  have hn' : n ≤ 32 := by omega
  unfold wpX_resultIsNull wpY_resultIsNull
  dsimp only
  rcases zq_ix v1 hn' with h | h | ⟨j, hj, rfl⟩
  · exact zx_is0 (Or.inl h) (br_t rfl (br_t h ⟨rfl, J⟩))
  · exact zx_is0 (Or.inr h) (br_t rfl (br_f h.1 (br_f h.2.2 ⟨rfl, J⟩)))
  · have hj' : j < 32 := by omega
    rw [zq_cl hj']
    have p0 : ¬ nI j < 0 := nI_pos (by omega)
    have p1 : nI j < nI n := nI_lt hj (by omega)
    refine zx_is1 hn' hj (br_f zq_n10 ⟨zq_in hj', ?_⟩)
    rcases (i3 j).1 with z | z
    · rw [z]
      exact br_t rfl (br_f p0 (br_t p1 ⟨zq_in hj', rfl, rfl, J⟩))
    · rw [z]
      exact br_f zq_n10 (br_f p0 (br_t p1 ⟨zq_in hj', rfl, rfl, J⟩))
theorem i_vc_rowAt {k : Nat} {u : SX} {v : SY} (I : i_Rel k u v) (hk : k + 5 ≤ 2561) (v1 : Int32) : wpX_rowAt (fun r => wpY_rowAt (fun r' => r' = r ∧ i_Rel (k + 5) u v) v v1) u v1 := by
  have J := I
  obtain ⟨C, n, d, nl, md, ex, sk, so, ek, eo, lf, P, O, V, N, M, R, Z, A, F, rfl, rfl, hI⟩ := I
  obtain ⟨hC, hn, i1, i2, i3, hS⟩ := hI
  exact zx_rowAt (fun i => (i1 i).1) (by omega) (zy_rowAt (by omega) ⟨rfl, J⟩)
theorem i_vc_rowField {k : Nat} {u : SX} {v : SY} (I : i_Rel k u v) (hk : k + 5 ≤ 2561) (v1 : Int32) (v2 : Int32) : wpX_rowField (fun r => wpY_rowField (fun r' => r' = r ∧ i_Rel (k + 5) u v) v v1 v2) u v1 v2 := by
  have J := I
  obtain ⟨C, n, d, nl, md, ex, sk, so, ek, eo, lf, P, O, V, N, M, R, Z, A, F, rfl, rfl, hI⟩ := I
  obtain ⟨hC, hn, i1, i2, i3, hS⟩ := hI
  have hn' : n ≤ 32 := by omega
  unfold wpX_rowField wX_rowField_75 wpY_rowField wY_rowField_94
  dsimp only
  rcases zq_ix v1 hn' with h | h | ⟨j, hj, rfl⟩
  · exact zx_is0 (Or.inl h) (br_t rfl (br_t h ⟨rfl, J⟩))
  · exact zx_is0 (Or.inr h) (br_t rfl (br_f h.1 (br_f h.2.2 ⟨rfl, J⟩)))
  · have hj' : j < 32 := by omega
    rw [zq_cl hj']
    have ii := zq_in hj'
    have p0 : ¬ nI j < 0 := nI_pos (by omega)
    have p1 : nI j < nI n := nI_lt hj (by omega)
    refine zx_is1 hn' hj (br_f zq_n10 ?_)
    by_cases c0 : v2 < 0
    · have d0 : ¬ v2 = 0 := fun z => by rw [z] at c0; exact absurd c0 (by decide)
      have d1 : ¬ v2 = 1 := fun z => by rw [z] at c0; exact absurd c0 (by decide)
      have d2 : ¬ v2 = 2 := fun z => by rw [z] at c0; exact absurd c0 (by decide)
      have d3 : ¬ v2 = 3 := fun z => by rw [z] at c0; exact absurd c0 (by decide)
      exact br_t c0 (br_f p0 (br_t p1 (br_f d0 (br_f d1 (br_f d2 (br_f d3 ⟨rfl, J⟩))))))
    by_cases c3 : 3 < v2
    · have d0 : ¬ v2 = 0 := fun z => by rw [z] at c3; exact absurd c3 (by decide)
      have d1 : ¬ v2 = 1 := fun z => by rw [z] at c3; exact absurd c3 (by decide)
      have d2 : ¬ v2 = 2 := fun z => by rw [z] at c3; exact absurd c3 (by decide)
      have d3 : ¬ v2 = 3 := fun z => by rw [z] at c3; exact absurd c3 (by decide)
      exact br_f c0 (br_t c3 (br_f p0 (br_t p1 (br_f d0 (br_f d1 (br_f d2 (br_f d3 ⟨rfl, J⟩)))))))
    refine br_f c0 (br_f c3 ?_)
    rcases zq_r3 c0 (Int32.not_lt.mp c3) with rfl | rfl | rfl | rfl
    · exact br_t rfl ⟨ii, br_f p0 (br_t p1 (br_t rfl ⟨ii, rfl, J⟩))⟩
    · exact br_f zq_n10 (br_t rfl ⟨ii, br_f p0 (br_t p1 (br_f zq_n10 (br_t rfl ⟨ii, br_c (fun _ => ⟨ii, rfl, J⟩) (fun z => ⟨((i1 j).2 z).symm, J⟩)⟩)))⟩)
    · exact br_f zq_n20 (br_f zq_n21 (br_t rfl ⟨ii, br_f p0 (br_t p1 (br_f zq_n20 (br_f zq_n21 (br_t rfl ⟨ii, br_c (fun _ => ⟨ii, rfl, J⟩) (fun z => ⟨((i2 j).2 z).symm, J⟩)⟩))))⟩))
    · refine br_f zq_n30 (br_f zq_n31 (br_f zq_n32 (br_t rfl ⟨ii, ?_⟩)))
      by_cases a0 : N j = 0
      · by_cases b0 : M j = 0
        · exact br_t a0 ⟨ii, br_t b0 (br_f p0 (br_t p1 (br_f zq_n30 (br_f zq_n31 (br_f zq_n32 (br_t rfl ⟨ii, br_t a0 ⟨ii, br_t b0 ⟨rfl, J⟩⟩⟩))))))⟩
        · exact br_t a0 ⟨ii, br_f b0 (br_f p0 (br_t p1 (br_f zq_n30 (br_f zq_n31 (br_f zq_n32 (br_t rfl ⟨ii, br_t a0 ⟨ii, br_f b0 ⟨rfl, J⟩⟩⟩))))))⟩
      · by_cases b0 : M j = 0
        · exact br_f a0 ⟨ii, br_t b0 (br_f p0 (br_t p1 (br_f zq_n30 (br_f zq_n31 (br_f zq_n32 (br_t rfl ⟨ii, br_f a0 ⟨ii, br_t b0 ⟨rfl, J⟩⟩⟩))))))⟩
        · exact br_f a0 ⟨ii, br_f b0 (br_f p0 (br_t p1 (br_f zq_n30 (br_f zq_n31 (br_f zq_n32 (br_t rfl ⟨ii, br_f a0 ⟨ii, br_f b0 ⟨rfl, J⟩⟩⟩))))))⟩
theorem i_vc_specField {k : Nat} {u : SX} {v : SY} (I : i_Rel k u v) (hk : k + 5 ≤ 2561) (v1 : Int32) : wpX_specField (fun r => wpY_specField (fun r' => r' = r ∧ i_Rel (k + 5) u v) v v1) u v1 := by
  have J := I
  obtain ⟨C, n, d, nl, md, ex, sk, so, ek, eo, lf, P, O, V, N, M, R, Z, A, F, rfl, rfl, hI⟩ := I
  by_cases c : v1 < 0
  · have d0 : ¬ v1 = 0 := fun z => by rw [z] at c; exact absurd c (by decide)
    have d1 : ¬ v1 = 1 := fun z => by rw [z] at c; exact absurd c (by decide)
    have d2 : ¬ v1 = 2 := fun z => by rw [z] at c; exact absurd c (by decide)
    have d3 : ¬ v1 = 3 := fun z => by rw [z] at c; exact absurd c (by decide)
    have d4 : ¬ v1 = 4 := fun z => by rw [z] at c; exact absurd c (by decide)
    have d5 : ¬ v1 = 5 := fun z => by rw [z] at c; exact absurd c (by decide)
    have d6 : ¬ v1 = 6 := fun z => by rw [z] at c; exact absurd c (by decide)
    have d7 : ¬ v1 = 7 := fun z => by rw [z] at c; exact absurd c (by decide)
    have d8 : ¬ v1 = 8 := fun z => by rw [z] at c; exact absurd c (by decide)
    exact br_t c (br_f d0 (br_f d1 (br_f d2 (br_f d3 (br_f d4 (br_f d5 (br_f d6 (br_f d7 (br_f d8 ⟨rfl, J⟩)))))))))
  by_cases e : 8 < v1
  · have d0 : ¬ v1 = 0 := fun z => by rw [z] at e; exact absurd e (by decide)
    have d1 : ¬ v1 = 1 := fun z => by rw [z] at e; exact absurd e (by decide)
    have d2 : ¬ v1 = 2 := fun z => by rw [z] at e; exact absurd e (by decide)
    have d3 : ¬ v1 = 3 := fun z => by rw [z] at e; exact absurd e (by decide)
    have d4 : ¬ v1 = 4 := fun z => by rw [z] at e; exact absurd e (by decide)
    have d5 : ¬ v1 = 5 := fun z => by rw [z] at e; exact absurd e (by decide)
    have d6 : ¬ v1 = 6 := fun z => by rw [z] at e; exact absurd e (by decide)
    have d7 : ¬ v1 = 7 := fun z => by rw [z] at e; exact absurd e (by decide)
    have d8 : ¬ v1 = 8 := fun z => by rw [z] at e; exact absurd e (by decide)
    exact br_f c (br_t e (br_f d0 (br_f d1 (br_f d2 (br_f d3 (br_f d4 (br_f d5 (br_f d6 (br_f d7 (br_f d8 ⟨rfl, J⟩))))))))))
  refine br_f c (br_f e ?_)
  by_cases d0 : v1 = 0
  · exact br_t d0 (br_t d0 ⟨rfl, J⟩)
  by_cases d1 : v1 = 1
  · exact br_f d0 (br_t d1 (br_f d0 (br_t d1 ⟨rfl, J⟩)))
  by_cases d2 : v1 = 2
  · exact br_f d0 (br_f d1 (br_t d2 (br_f d0 (br_f d1 (br_t d2 ⟨rfl, J⟩)))))
  by_cases d3 : v1 = 3
  · exact br_f d0 (br_f d1 (br_f d2 (br_t d3 (br_f d0 (br_f d1 (br_f d2 (br_t d3 ⟨rfl, J⟩)))))))
  by_cases d4 : v1 = 4
  · exact br_f d0 (br_f d1 (br_f d2 (br_f d3 (br_t d4 (br_f d0 (br_f d1 (br_f d2 (br_f d3 (br_t d4 ⟨rfl, J⟩)))))))))
  by_cases d5 : v1 = 5
  · exact br_f d0 (br_f d1 (br_f d2 (br_f d3 (br_f d4 (br_t d5 (br_f d0 (br_f d1 (br_f d2 (br_f d3 (br_f d4 (br_t d5 ⟨rfl, J⟩)))))))))))
  by_cases d6 : v1 = 6
  · exact br_f d0 (br_f d1 (br_f d2 (br_f d3 (br_f d4 (br_f d5 (br_t d6 (br_f d0 (br_f d1 (br_f d2 (br_f d3 (br_f d4 (br_f d5 (br_t d6 ⟨rfl, J⟩)))))))))))))
  by_cases d7 : v1 = 7
  · exact br_f d0 (br_f d1 (br_f d2 (br_f d3 (br_f d4 (br_f d5 (br_f d6 (br_t d7 (br_f d0 (br_f d1 (br_f d2 (br_f d3 (br_f d4 (br_f d5 (br_f d6 (br_t d7 ⟨rfl, J⟩)))))))))))))))
  by_cases d8 : v1 = 8
  · exact br_f d0 (br_f d1 (br_f d2 (br_f d3 (br_f d4 (br_f d5 (br_f d6 (br_f d7 (br_t d8 (br_f d0 (br_f d1 (br_f d2 (br_f d3 (br_f d4 (br_f d5 (br_f d6 (br_f d7 (br_t d8 ⟨rfl, J⟩)))))))))))))))))
  exfalso
  obtain ⟨j, hj, rfl⟩ := nI_of2 (M := 8) (n := 8) (by decide) c (Int32.not_lt.mp e)
  have h : j = 0 ∨ j = 1 ∨ j = 2 ∨ j = 3 ∨ j = 4 ∨ j = 5 ∨ j = 6 ∨ j = 7 ∨ j = 8 := by omega
  rcases h with rfl | rfl | rfl | rfl | rfl | rfl | rfl | rfl | rfl
  · exact d0 rfl
  · exact d1 rfl
  · exact d2 rfl
  · exact d3 rfl
  · exact d4 rfl
  · exact d5 rfl
  · exact d6 rfl
  · exact d7 rfl
  · exact d8 rfl
end ZQN
end
