section ZQB
/-! the sort order: keys, before, positions -/
def zq_cmp (P O N : Nat → Int32) (d nl : Int32) (a b : Nat) : Int32 :=
  if P a = P b then
    if d = 0 then 0
    else if N a = 0 then
      (if N b = 0 then
        (if O a = O b then 0 else if O a < O b then (if d = 1 then -1 else 1) else (if d = 1 then 1 else -1))
      else (if nl = 1 then 1 else -1))
    else (if N b = 0 then (if nl = 1 then -1 else 1) else 0)
  else if P a < P b then -1 else 1
def zq_kr (O N : Nat → Int32) (d nl : Int32) (a : Nat) : Int :=
  if d = 0 then 0 else if N a = 0 then (if d = 1 then (O a).toInt else -(O a).toInt) else (if nl = 1 then -34359738368 else 34359738368)
variable {P O N : Nat → Int32} {d nl : Int32}
theorem zq_kr_0 {a : Nat} (hd : d = 0) : zq_kr O N d nl a = 0 := by unfold zq_kr; rw [if_pos hd]
theorem zq_kr_n {a : Nat} (hd : ¬ d = 0) (na : N a = 0) (h1 : d = 1) : zq_kr O N d nl a = (O a).toInt := by
  unfold zq_kr; rw [if_neg hd, if_pos na, if_pos h1]
theorem zq_kr_m {a : Nat} (hd : ¬ d = 0) (na : N a = 0) (h1 : ¬ d = 1) : zq_kr O N d nl a = -(O a).toInt := by
  unfold zq_kr; rw [if_neg hd, if_pos na, if_neg h1]
theorem zq_kr_f {a : Nat} (hd : ¬ d = 0) (na : ¬ N a = 0) (h1 : nl = 1) : zq_kr O N d nl a = -34359738368 := by
  unfold zq_kr; rw [if_neg hd, if_neg na, if_pos h1]
theorem zq_kr_l {a : Nat} (hd : ¬ d = 0) (na : ¬ N a = 0) (h1 : ¬ nl = 1) : zq_kr O N d nl a = 34359738368 := by
  unfold zq_kr; rw [if_neg hd, if_neg na, if_neg h1]
theorem zq_kr_b {a : Nat} (hd : ¬ d = 0) (na : N a = 0) : -34359738368 < zq_kr O N d nl a ∧ zq_kr O N d nl a < 34359738368 := by
  have h1 := Int32.le_toInt (O a)
  have h2 := Int32.toInt_lt (O a)
  by_cases h : d = 1
  · rw [zq_kr_n hd na h]; omega
  · rw [zq_kr_m hd na h]; omega
theorem zq_ck (P O N : Nat → Int32) (d nl : Int32) (a b : Nat) :
    (zq_cmp P O N d nl a b = -1 ∧ ((P a).toInt < (P b).toInt ∨ ((P a).toInt = (P b).toInt ∧ zq_kr O N d nl a < zq_kr O N d nl b)))
    ∨ (zq_cmp P O N d nl a b = 0 ∧ (P a).toInt = (P b).toInt ∧ zq_kr O N d nl a = zq_kr O N d nl b)
    ∨ (zq_cmp P O N d nl a b = 1 ∧ ((P b).toInt < (P a).toInt ∨ ((P a).toInt = (P b).toInt ∧ zq_kr O N d nl b < zq_kr O N d nl a))) := by
  by_cases hp : P a = P b
  · have hp' : (P a).toInt = (P b).toInt := by rw [hp]
    by_cases hd : d = 0
    · refine Or.inr (Or.inl ⟨?_, hp', ?_⟩)
      · unfold zq_cmp; rw [if_pos hp, if_pos hd]
      · rw [zq_kr_0 hd, zq_kr_0 hd]
    · by_cases na : N a = 0
      · by_cases nb : N b = 0
        · by_cases ho : O a = O b
          · refine Or.inr (Or.inl ⟨?_, hp', ?_⟩)
            · unfold zq_cmp; rw [if_pos hp, if_neg hd, if_pos na, if_pos nb, if_pos ho]
            · by_cases h1 : d = 1
              · rw [zq_kr_n hd na h1, zq_kr_n hd nb h1, ho]
              · rw [zq_kr_m hd na h1, zq_kr_m hd nb h1, ho]
          · by_cases hl : O a < O b
            · have hl' := Int32.lt_iff_toInt_lt.mp hl
              by_cases h1 : d = 1
              · refine Or.inl ⟨?_, Or.inr ⟨hp', ?_⟩⟩
                · unfold zq_cmp; rw [if_pos hp, if_neg hd, if_pos na, if_pos nb, if_neg ho, if_pos hl, if_pos h1]
                · rw [zq_kr_n hd na h1, zq_kr_n hd nb h1]; exact hl'
              · refine Or.inr (Or.inr ⟨?_, Or.inr ⟨hp', ?_⟩⟩)
                · unfold zq_cmp; rw [if_pos hp, if_neg hd, if_pos na, if_pos nb, if_neg ho, if_pos hl, if_neg h1]
                · rw [zq_kr_m hd na h1, zq_kr_m hd nb h1]; omega
            · have hl' : (O b).toInt < (O a).toInt := by
                have h2 : ¬ (O a).toInt < (O b).toInt := fun z => hl (Int32.lt_iff_toInt_lt.mpr z)
                have h3 : ¬ (O a).toInt = (O b).toInt := fun z => ho (Int32.toInt_inj.mp z)
                omega
              by_cases h1 : d = 1
              · refine Or.inr (Or.inr ⟨?_, Or.inr ⟨hp', ?_⟩⟩)
                · unfold zq_cmp; rw [if_pos hp, if_neg hd, if_pos na, if_pos nb, if_neg ho, if_neg hl, if_pos h1]
                · rw [zq_kr_n hd na h1, zq_kr_n hd nb h1]; exact hl'
              · refine Or.inl ⟨?_, Or.inr ⟨hp', ?_⟩⟩
                · unfold zq_cmp; rw [if_pos hp, if_neg hd, if_pos na, if_pos nb, if_neg ho, if_neg hl, if_neg h1]
                · rw [zq_kr_m hd na h1, zq_kr_m hd nb h1]; omega
        · have hb := zq_kr_b (O := O) (N := N) (nl := nl) hd na
          by_cases h1 : nl = 1
          · refine Or.inr (Or.inr ⟨?_, Or.inr ⟨hp', ?_⟩⟩)
            · unfold zq_cmp; rw [if_pos hp, if_neg hd, if_pos na, if_neg nb, if_pos h1]
            · rw [zq_kr_f hd nb h1]; exact hb.1
          · refine Or.inl ⟨?_, Or.inr ⟨hp', ?_⟩⟩
            · unfold zq_cmp; rw [if_pos hp, if_neg hd, if_pos na, if_neg nb, if_neg h1]
            · rw [zq_kr_l hd nb h1]; exact hb.2
      · by_cases nb : N b = 0
        · have hb := zq_kr_b (O := O) (N := N) (nl := nl) hd nb
          by_cases h1 : nl = 1
          · refine Or.inl ⟨?_, Or.inr ⟨hp', ?_⟩⟩
            · unfold zq_cmp; rw [if_pos hp, if_neg hd, if_neg na, if_pos nb, if_pos h1]
            · rw [zq_kr_f hd na h1]; exact hb.1
          · refine Or.inr (Or.inr ⟨?_, Or.inr ⟨hp', ?_⟩⟩)
            · unfold zq_cmp; rw [if_pos hp, if_neg hd, if_neg na, if_pos nb, if_neg h1]
            · rw [zq_kr_l hd na h1]; exact hb.2
        · refine Or.inr (Or.inl ⟨?_, hp', ?_⟩)
          · unfold zq_cmp; rw [if_pos hp, if_neg hd, if_neg na, if_neg nb]
          · by_cases h1 : nl = 1
            · rw [zq_kr_f hd na h1, zq_kr_f hd nb h1]
            · rw [zq_kr_l hd na h1, zq_kr_l hd nb h1]
  · by_cases hl : P a < P b
    · refine Or.inl ⟨?_, Or.inl (Int32.lt_iff_toInt_lt.mp hl)⟩
      unfold zq_cmp; rw [if_neg hp, if_pos hl]
    · refine Or.inr (Or.inr ⟨?_, Or.inl ?_⟩)
      · unfold zq_cmp; rw [if_neg hp, if_neg hl]
      · have h2 : ¬ (P a).toInt < (P b).toInt := fun z => hl (Int32.lt_iff_toInt_lt.mpr z)
        have h3 : ¬ (P a).toInt = (P b).toInt := fun z => hp (Int32.toInt_inj.mp z)
        omega
theorem zq_m1lt : (-1 : Int32) < 0 := by decide
theorem zq_1lt : ¬ (1 : Int32) < 0 := by decide
theorem zq_m1ne : ¬ (-1 : Int32) = 0 := by decide
def zq_bef (c : Nat → Nat → Int32) (a b : Nat) : Bool := if c a b = 0 then decide (a < b) else decide (c a b < 0)
theorem zq_bef_i (a b : Nat) : zq_bef (zq_cmp P O N d nl) a b = true ↔ ((P a).toInt < (P b).toInt ∨ ((P a).toInt = (P b).toInt ∧ (zq_kr O N d nl a < zq_kr O N d nl b ∨ (zq_kr O N d nl a = zq_kr O N d nl b ∧ a < b)))) := by
  rcases zq_ck P O N d nl a b with ⟨h, g⟩ | ⟨h, g1, g2⟩ | ⟨h, g⟩
  · unfold zq_bef
    rw [h, if_neg zq_m1ne, decide_eq_true_eq]
    exact ⟨fun _ => by omega, fun _ => zq_m1lt⟩
  · unfold zq_bef
    rw [h, if_pos rfl, decide_eq_true_eq]
    omega
  · unfold zq_bef
    rw [h, if_neg zq_n10, decide_eq_true_eq]
    exact ⟨fun z => absurd z zq_1lt, fun z => by omega⟩
/-- what the positions need of the order -/
def zq_Or (c : Nat → Nat → Int32) : Prop := (∀ a, zq_bef c a a = false) ∧ (∀ a b e, zq_bef c a b = true → zq_bef c b e = true → zq_bef c a e = true) ∧ (∀ a b, zq_bef c a b = false → a = b ∨ zq_bef c b a = true)
theorem zq_or : zq_Or (zq_cmp P O N d nl) := by
  refine ⟨fun a => ?_, fun a b e h1 h2 => ?_, fun a b h => ?_⟩
  · apply Bool.eq_false_iff.mpr
    intro h
    have := (zq_bef_i a a).mp h
    omega
  · have g1 := (zq_bef_i a b).mp h1
    have g2 := (zq_bef_i b e).mp h2
    apply (zq_bef_i a e).mpr
    omega
  · have g : ¬ ((P a).toInt < (P b).toInt ∨ ((P a).toInt = (P b).toInt ∧ (zq_kr O N d nl a < zq_kr O N d nl b ∨ (zq_kr O N d nl a = zq_kr O N d nl b ∧ a < b)))) := by
      intro z
      have := (zq_bef_i a b).mpr z
      rw [h] at this
      cases this
    by_cases e : a = b
    · exact Or.inl e
    · refine Or.inr ((zq_bef_i b a).mpr ?_)
      omega
def zq_pp (P : Nat → Int32) (c : Nat → Nat → Int32) (r : Nat) : Nat → Bool := fun s => decide (P s = P r) && zq_bef c s r
def zq_pos (P : Nat → Int32) (c : Nat → Nat → Int32) (n r : Nat) : Nat := zq_cn (zq_pp P c r) n
theorem zq_pos_l {c : Nat → Nat → Int32} (hc : zq_Or c) {n s t : Nat} (hs : s < n) (e : P s = P t) (h : zq_bef c s t = true) : zq_pos P c n s < zq_pos P c n t := by
  refine zq_cn_smono (t := s) ?_ ?_ n ?_ hs
  · simp [zq_pp, hc.1 s]
  · simp [zq_pp, e, h]
  · intro x hx g
    simp only [zq_pp, Bool.and_eq_true, decide_eq_true_eq] at g ⊢
    exact ⟨g.1.trans e, hc.2.1 x s t g.2 h⟩
theorem zq_pos_i {c : Nat → Nat → Int32} (hc : zq_Or c) {n s t : Nat} (hs : s < n) (ht : t < n) (e : P s = P t) : zq_bef c s t = true ↔ zq_pos P c n s < zq_pos P c n t := by
  constructor
  · exact zq_pos_l hc hs e
  · intro h
    cases g : zq_bef c s t
    · rcases hc.2.2 s t g with k | k
      · rw [k] at h; omega
      · have := zq_pos_l hc ht e.symm k
        omega
    · rfl
theorem zq_pos_le (P : Nat → Int32) (c : Nat → Nat → Int32) (n r : Nat) : zq_pos P c n r ≤ n := zq_cn_le _ n
def zq_rb (c : Nat → Nat → Int32) (n r : Nat) : Nat := zq_cn (fun s => zq_bef c s r) n
theorem zq_rb_lt {c : Nat → Nat → Int32} (hc : zq_Or c) {n r : Nat} (h : r < n) : zq_rb c n r < n := zq_cn_lt (p := fun s => zq_bef c s r) (hc.1 r) n h
end ZQB
