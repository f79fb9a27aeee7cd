section ZQD
/-! what a function answers for a row: NULL or not, and the number -/
def zq_q (n : Nat) (P : Nat → Int32) (c : Nat → Nat → Int32) (i : Nat) : Int32 := nI (zq_pos P c n i)
def zq_nv (fr : Nat → Bool) (M : Nat → Int32) : Nat → Bool := fun s => fr s && decide (M s = 0)
def zq_rk (P : Nat → Int32) (c : Nat → Nat → Int32) (r : Nat) : Nat → Bool := fun s => decide (P s = P r) && decide (c s r < 0)
def zq_ld (c : Nat → Nat → Int32) (s : Nat) : Bool := (zq_fd (fun t => decide (c t s = 0)) s).isNone
def zq_dr (P : Nat → Int32) (c : Nat → Nat → Int32) (r : Nat) : Nat → Bool := fun s => zq_rk P c r s && zq_ld c s
def zq_tg (P q : Nat → Int32) (r : Nat) (t : Int64) : Nat → Bool := fun s => decide (P s = P r) && decide ((q s).toInt64 = t)
def zq_one (V M : Nat → Int32) : Option Nat → Bool × Int64
  | none => (true, 0)
  | some b => if M b = 0 then (false, (V b).toInt64) else (true, 0)
theorem zq_one_n {V M : Nat → Int32} : zq_one V M none = (true, 0) := rfl
theorem zq_one_v {V M : Nat → Int32} {b : Nat} (h : M b = 0) : zq_one V M (some b) = (false, (V b).toInt64) := if_pos h
theorem zq_one_w {V M : Nat → Int32} {b : Nat} (h : ¬ M b = 0) : zq_one V M (some b) = (true, 0) := if_neg h
def zq_Z (x : Bool × Int64) : Prop := x.1 = true → x.2 = 0
theorem zq_Zf {v : Int64} : zq_Z (false, v) := fun h => by cases h
theorem zq_Z0 : zq_Z (true, 0) := fun _ => rfl
theorem zq_Zo {V M : Nat → Int32} (x : Option Nat) : zq_Z (zq_one V M x) := by
  cases x with
  | none => exact zq_Z0
  | some b =>
    by_cases h : M b = 0
    · rw [zq_one_v h]; exact zq_Zf
    · rw [zq_one_w h]; exact zq_Z0
def zq_an (n : Nat) (P V M : Nat → Int32) (c : Nat → Nat → Int32) (fr : Nat → Bool) (f arg : Int32) (r : Nat) : Bool × Int64 :=
  if f = 0 then (false, (zq_q n P c r).toInt64 + 1)
  else if f = 1 then (false, lN (zq_cn (zq_rk P c r) n + 1))
  else if f = 2 then (false, lN (zq_cn (zq_dr P c r) n + 1))
  else if f = 3 then zq_one V M (zq_fd (zq_tg P (zq_q n P c) r ((zq_q n P c r).toInt64 - arg.toInt64)) n)
  else if f = 4 then zq_one V M (zq_fd (zq_tg P (zq_q n P c) r ((zq_q n P c r).toInt64 + arg.toInt64)) n)
  else if f = 5 then zq_one V M (zq_ex fr (fun i b => zq_bef c i b) n)
  else if f = 6 then zq_one V M (zq_ex fr (fun i b => zq_bef c b i) n)
  else if f = 7 then (decide (zq_cn (zq_nv fr M) n = 0), if zq_cn (zq_nv fr M) n = 0 then 0 else zq_sm (zq_nv fr M) V n)
  else if f = 8 then (false, lN (zq_cn (zq_nv fr M) n))
  else if f = 9 then (false, lN (zq_cn fr n))
  else if f = 10 then zq_one V M (zq_ex (zq_nv fr M) (fun i b => decide (V i < V b)) n)
  else zq_one V M (zq_ex (zq_nv fr M) (fun i b => decide (V b < V i)) n)
variable {n r : Nat} {P V M : Nat → Int32} {c : Nat → Nat → Int32} {fr : Nat → Bool} {f arg : Int32}
theorem zq_an_0 : zq_an n P V M c fr 0 arg r = (false, (zq_q n P c r).toInt64 + 1) := by unfold zq_an; rw [if_pos rfl]
theorem zq_an_1 : zq_an n P V M c fr 1 arg r = (false, lN (zq_cn (zq_rk P c r) n + 1)) := by unfold zq_an; rw [if_neg (show ¬ (1 : Int32) = 0 by decide), if_pos rfl]
theorem zq_an_2 : zq_an n P V M c fr 2 arg r = (false, lN (zq_cn (zq_dr P c r) n + 1)) := by unfold zq_an; rw [if_neg (show ¬ (2 : Int32) = 0 by decide), if_neg (show ¬ (2 : Int32) = 1 by decide), if_pos rfl]
theorem zq_an_3 : zq_an n P V M c fr 3 arg r = zq_one V M (zq_fd (zq_tg P (zq_q n P c) r ((zq_q n P c r).toInt64 - arg.toInt64)) n) := by unfold zq_an; rw [if_neg (show ¬ (3 : Int32) = 0 by decide), if_neg (show ¬ (3 : Int32) = 1 by decide), if_neg (show ¬ (3 : Int32) = 2 by decide), if_pos rfl]
theorem zq_an_4 : zq_an n P V M c fr 4 arg r = zq_one V M (zq_fd (zq_tg P (zq_q n P c) r ((zq_q n P c r).toInt64 + arg.toInt64)) n) := by unfold zq_an; rw [if_neg (show ¬ (4 : Int32) = 0 by decide), if_neg (show ¬ (4 : Int32) = 1 by decide), if_neg (show ¬ (4 : Int32) = 2 by decide), if_neg (show ¬ (4 : Int32) = 3 by decide), if_pos rfl]
theorem zq_an_5 : zq_an n P V M c fr 5 arg r = zq_one V M (zq_ex fr (fun i b => zq_bef c i b) n) := by unfold zq_an; rw [if_neg (show ¬ (5 : Int32) = 0 by decide), if_neg (show ¬ (5 : Int32) = 1 by decide), if_neg (show ¬ (5 : Int32) = 2 by decide), if_neg (show ¬ (5 : Int32) = 3 by decide), if_neg (show ¬ (5 : Int32) = 4 by decide), if_pos rfl]
theorem zq_an_6 : zq_an n P V M c fr 6 arg r = zq_one V M (zq_ex fr (fun i b => zq_bef c b i) n) := by unfold zq_an; rw [if_neg (show ¬ (6 : Int32) = 0 by decide), if_neg (show ¬ (6 : Int32) = 1 by decide), if_neg (show ¬ (6 : Int32) = 2 by decide), if_neg (show ¬ (6 : Int32) = 3 by decide), if_neg (show ¬ (6 : Int32) = 4 by decide), if_neg (show ¬ (6 : Int32) = 5 by decide), if_pos rfl]
theorem zq_an_7 : zq_an n P V M c fr 7 arg r = (decide (zq_cn (zq_nv fr M) n = 0), if zq_cn (zq_nv fr M) n = 0 then 0 else zq_sm (zq_nv fr M) V n) := by unfold zq_an; rw [if_neg (show ¬ (7 : Int32) = 0 by decide), if_neg (show ¬ (7 : Int32) = 1 by decide), if_neg (show ¬ (7 : Int32) = 2 by decide), if_neg (show ¬ (7 : Int32) = 3 by decide), if_neg (show ¬ (7 : Int32) = 4 by decide), if_neg (show ¬ (7 : Int32) = 5 by decide), if_neg (show ¬ (7 : Int32) = 6 by decide), if_pos rfl]
theorem zq_an_8 : zq_an n P V M c fr 8 arg r = (false, lN (zq_cn (zq_nv fr M) n)) := by unfold zq_an; rw [if_neg (show ¬ (8 : Int32) = 0 by decide), if_neg (show ¬ (8 : Int32) = 1 by decide), if_neg (show ¬ (8 : Int32) = 2 by decide), if_neg (show ¬ (8 : Int32) = 3 by decide), if_neg (show ¬ (8 : Int32) = 4 by decide), if_neg (show ¬ (8 : Int32) = 5 by decide), if_neg (show ¬ (8 : Int32) = 6 by decide), if_neg (show ¬ (8 : Int32) = 7 by decide), if_pos rfl]
theorem zq_an_9 : zq_an n P V M c fr 9 arg r = (false, lN (zq_cn fr n)) := by unfold zq_an; rw [if_neg (show ¬ (9 : Int32) = 0 by decide), if_neg (show ¬ (9 : Int32) = 1 by decide), if_neg (show ¬ (9 : Int32) = 2 by decide), if_neg (show ¬ (9 : Int32) = 3 by decide), if_neg (show ¬ (9 : Int32) = 4 by decide), if_neg (show ¬ (9 : Int32) = 5 by decide), if_neg (show ¬ (9 : Int32) = 6 by decide), if_neg (show ¬ (9 : Int32) = 7 by decide), if_neg (show ¬ (9 : Int32) = 8 by decide), if_pos rfl]
theorem zq_an_10 : zq_an n P V M c fr 10 arg r = zq_one V M (zq_ex (zq_nv fr M) (fun i b => decide (V i < V b)) n) := by unfold zq_an; rw [if_neg (show ¬ (10 : Int32) = 0 by decide), if_neg (show ¬ (10 : Int32) = 1 by decide), if_neg (show ¬ (10 : Int32) = 2 by decide), if_neg (show ¬ (10 : Int32) = 3 by decide), if_neg (show ¬ (10 : Int32) = 4 by decide), if_neg (show ¬ (10 : Int32) = 5 by decide), if_neg (show ¬ (10 : Int32) = 6 by decide), if_neg (show ¬ (10 : Int32) = 7 by decide), if_neg (show ¬ (10 : Int32) = 8 by decide), if_neg (show ¬ (10 : Int32) = 9 by decide), if_pos rfl]
theorem zq_an_11 : zq_an n P V M c fr 11 arg r = zq_one V M (zq_ex (zq_nv fr M) (fun i b => decide (V b < V i)) n) := by unfold zq_an; rw [if_neg (show ¬ (11 : Int32) = 0 by decide), if_neg (show ¬ (11 : Int32) = 1 by decide), if_neg (show ¬ (11 : Int32) = 2 by decide), if_neg (show ¬ (11 : Int32) = 3 by decide), if_neg (show ¬ (11 : Int32) = 4 by decide), if_neg (show ¬ (11 : Int32) = 5 by decide), if_neg (show ¬ (11 : Int32) = 6 by decide), if_neg (show ¬ (11 : Int32) = 7 by decide), if_neg (show ¬ (11 : Int32) = 8 by decide), if_neg (show ¬ (11 : Int32) = 9 by decide), if_neg (show ¬ (11 : Int32) = 10 by decide)]
theorem zq_an_Z : zq_Z (zq_an n P V M c fr f arg r) := by
  unfold zq_an
  by_cases h0 : f = 0
  · rw [if_pos h0]; exact zq_Zf
  rw [if_neg h0]
  by_cases h1 : f = 1
  · rw [if_pos h1]; exact zq_Zf
  rw [if_neg h1]
  by_cases h2 : f = 2
  · rw [if_pos h2]; exact zq_Zf
  rw [if_neg h2]
  by_cases h3 : f = 3
  · rw [if_pos h3]; exact zq_Zo _
  rw [if_neg h3]
  by_cases h4 : f = 4
  · rw [if_pos h4]; exact zq_Zo _
  rw [if_neg h4]
  by_cases h5 : f = 5
  · rw [if_pos h5]; exact zq_Zo _
  rw [if_neg h5]
  by_cases h6 : f = 6
  · rw [if_pos h6]; exact zq_Zo _
  rw [if_neg h6]
  by_cases h7 : f = 7
  · rw [if_pos h7]; intro z; exact if_pos (of_decide_eq_true z)
  rw [if_neg h7]
  by_cases h8 : f = 8
  · rw [if_pos h8]; exact zq_Zf
  rw [if_neg h8]
  by_cases h9 : f = 9
  · rw [if_pos h9]; exact zq_Zf
  rw [if_neg h9]
  by_cases h10 : f = 10
  · rw [if_pos h10]; exact zq_Zo _
  rw [if_neg h10]
  exact zq_Zo _
theorem zq_mmx (k : Int64 → Int64 → Bool) (lt : Nat → Nat → Bool) (hk : ∀ i b, k (V i).toInt64 (V b).toInt64 = lt i b) : (decide (zq_cn (zq_nv fr M) n = 0), if zq_cn (zq_nv fr M) n = 0 then 0 else zq_mm (zq_nv fr M) V k n) = zq_one V M (zq_ex (zq_nv fr M) lt n) := by
  have e : lt = fun i b => k (V i).toInt64 (V b).toInt64 := by
    funext i b
    exact (hk i b).symm
  rw [e]
  have h := zq_mm_ex (f := zq_nv fr M) (V := V) (c := k) n
  cases g : zq_ex (zq_nv fr M) (fun i b => k (V i).toInt64 (V b).toInt64) n with
  | none =>
    rw [if_pos (h.2.mpr g), decide_eq_true (h.2.mpr g)]
    exact zq_one_n.symm
  | some b =>
    have h0 : ¬ zq_cn (zq_nv fr M) n = 0 := fun z => by rw [h.2.mp z] at g; cases g
    have hb := (zq_ex_lt n b g).2
    have hm : M b = 0 := by
      unfold zq_nv at hb
      rw [Bool.and_eq_true, decide_eq_true_eq] at hb
      exact hb.2
    rw [if_neg h0, decide_eq_false h0, h.1, g, zq_one_v hm]
    rfl
theorem zq_lt64 (a b : Int32) : decide (a.toInt64 < b.toInt64) = decide (a < b) := by
  rw [decide_eq_decide]; exact Int32.toInt64_lt
theorem zq_mn10 : (decide (zq_cn (zq_nv fr M) n = 0), if zq_cn (zq_nv fr M) n = 0 then 0 else zq_mm (zq_nv fr M) V (fun x m => decide (x < m)) n) = zq_an n P V M c fr 10 arg r := by
  rw [zq_an_10]
  exact zq_mmx _ _ (fun i b => zq_lt64 (V i) (V b))
theorem zq_mx11 : (decide (zq_cn (zq_nv fr M) n = 0), if zq_cn (zq_nv fr M) n = 0 then 0 else zq_mm (zq_nv fr M) V (fun x m => decide (m < x)) n) = zq_an n P V M c fr 11 arg r := by
  rw [zq_an_11]
  exact zq_mmx _ _ (fun i b => zq_lt64 (V b) (V i))
/-- first and last of the frame: by position, or by the order itself -/
theorem zq_qlt (hn : n < 2 ^ 31) (i b : Nat) : zq_q n P c i < zq_q n P c b ↔ zq_pos P c n i < zq_pos P c n b := by
  have h1 := zq_pos_le P c n i
  have h2 := zq_pos_le P c n b
  exact nI_ltI (by omega) (by omega)
theorem zq_qb (hn : n < 2 ^ 31) (hc : zq_Or c) {i b : Nat} (hi : i < n) (hb : b < n) (e : P i = P b) : decide (zq_q n P c i < zq_q n P c b) = zq_bef c i b := by
  cases g : zq_bef c i b
  · apply decide_eq_false
    intro z
    have := (zq_pos_i hc hi hb e).mpr ((zq_qlt hn i b).mp z)
    rw [g] at this
    cases this
  · apply decide_eq_true
    exact (zq_qlt hn i b).mpr ((zq_pos_i hc hi hb e).mp g)
theorem zq_fst (hn : n < 2 ^ 31) (hc : zq_Or c) (hf : ∀ s, fr s = true → P s = P r) : zq_ex fr (fun i b => decide (zq_q n P c i < zq_q n P c b)) n = zq_ex fr (fun i b => zq_bef c i b) n :=
  zq_ex_c n (fun i b hi hb fi fb => zq_qb hn hc hi hb ((hf i fi).trans (hf b fb).symm))
theorem zq_lst (hn : n < 2 ^ 31) (hc : zq_Or c) (hf : ∀ s, fr s = true → P s = P r) : zq_ex fr (fun i b => decide (zq_q n P c b < zq_q n P c i)) n = zq_ex fr (fun i b => zq_bef c b i) n :=
  zq_ex_c n (fun i b hi hb fi fb => zq_qb hn hc hb hi ((hf b fb).trans (hf i fi).symm))
end ZQD
