section ZQC
/-! longs of ints -/
theorem zq_i_sub (a b : Int32) : (a.toInt64 - b.toInt64).toInt = a.toInt - b.toInt := by
  have h1 := Int32.le_toInt a
  have h2 := Int32.toInt_lt a
  have h3 := Int32.le_toInt b
  have h4 := Int32.toInt_lt b
  rw [Int64.toInt_sub, Int32.toInt_toInt64, Int32.toInt_toInt64]
  exact Int.bmod_eq_of_le (by omega) (by omega)
theorem zq_i_add (a b : Int32) : (a.toInt64 + b.toInt64).toInt = a.toInt + b.toInt := by
  have h1 := Int32.le_toInt a
  have h2 := Int32.toInt_lt a
  have h3 := Int32.le_toInt b
  have h4 := Int32.toInt_lt b
  rw [Int64.toInt_add, Int32.toInt_toInt64, Int32.toInt_toInt64]
  exact Int.bmod_eq_of_le (by omega) (by omega)
theorem zq_i_neg (a : Int32) : (-a.toInt64).toInt = -a.toInt := by
  have h1 := Int32.le_toInt a
  have h2 := Int32.toInt_lt a
  rw [Int64.toInt_neg, Int32.toInt_toInt64]
  exact Int.bmod_eq_of_le (by omega) (by omega)
theorem zq_i_nsub (a b : Int32) : (-(a.toInt64 - b.toInt64)).toInt = b.toInt - a.toInt := by
  have h1 := Int32.le_toInt a
  have h2 := Int32.toInt_lt a
  have h3 := Int32.le_toInt b
  have h4 := Int32.toInt_lt b
  rw [Int64.toInt_neg, zq_i_sub]
  rw [Int.bmod_eq_of_le (by omega) (by omega)]
  omega
/-! the frame, as the reference asks -/
def zq_ys (c : Nat → Nat → Int32) (q O N : Nat → Int32) (d md sk so : Int32) (s r : Nat) : Bool :=
  if sk = 0 then true
  else if md = 0 then
    (if sk = 1 then decide ((q r).toInt64 - so.toInt64 ≤ (q s).toInt64)
    else if sk = 3 then decide ((q r).toInt64 + so.toInt64 ≤ (q s).toInt64)
    else decide ((q r).toInt64 ≤ (q s).toInt64))
  else if sk = 2 then decide (0 ≤ c s r)
  else if N r = 0 then
    (if N s = 0 then
      (if d = 1 then (if sk = 1 then decide ((O r).toInt64 - so.toInt64 ≤ (O s).toInt64) else decide ((O r).toInt64 + so.toInt64 ≤ (O s).toInt64))
      else (if sk = 1 then decide ((O s).toInt64 ≤ (O r).toInt64 + so.toInt64) else decide ((O s).toInt64 ≤ (O r).toInt64 - so.toInt64)))
    else false)
  else decide (0 ≤ c s r)
def zq_ye (c : Nat → Nat → Int32) (q O N : Nat → Int32) (d md ek eo : Int32) (s r : Nat) : Bool :=
  if ek = 4 then true
  else if md = 0 then
    (if ek = 1 then decide ((q s).toInt64 ≤ (q r).toInt64 - eo.toInt64)
    else if ek = 3 then decide ((q s).toInt64 ≤ (q r).toInt64 + eo.toInt64)
    else decide ((q s).toInt64 ≤ (q r).toInt64))
  else if ek = 2 then decide (c s r ≤ 0)
  else if N r = 0 then
    (if N s = 0 then
      (if d = 1 then (if ek = 1 then decide ((O s).toInt64 ≤ (O r).toInt64 - eo.toInt64) else decide ((O s).toInt64 ≤ (O r).toInt64 + eo.toInt64))
      else (if ek = 1 then decide ((O r).toInt64 + eo.toInt64 ≤ (O s).toInt64) else decide ((O r).toInt64 - eo.toInt64 ≤ (O s).toInt64)))
    else false)
  else decide (c s r ≤ 0)
/-! .. and as the class does -/
def zq_to (k : Int32) : Bool := decide (k = 1) || decide (k = 3)
def zq_pe (md k : Int32) (N : Nat → Int32) (r : Nat) : Bool := decide (md = 1) && (!(zq_to k) || !(decide (N r = 0)))
def zq_hd (md : Int32) (N : Nat → Int32) (s : Nat) : Bool := decide (md = 0) || decide (N s = 0)
def zq_di (q O : Nat → Int32) (d md : Int32) (s r : Nat) : Int64 :=
  if md = 0 then (q s).toInt64 - (q r).toInt64 else if d = 2 then -((O s).toInt64 - (O r).toInt64) else (O s).toInt64 - (O r).toInt64
def zq_re (k o : Int32) : Int64 := if k = 1 then -o.toInt64 else o.toInt64
def zq_xs (c : Nat → Nat → Int32) (q O N : Nat → Int32) (d md sk so : Int32) (s r : Nat) : Bool :=
  if sk = 0 then true else if zq_pe md sk N r = true then decide (0 ≤ c s r) else zq_hd md N s && decide (zq_re sk so ≤ zq_di q O d md s r)
def zq_xe (c : Nat → Nat → Int32) (q O N : Nat → Int32) (d md ek eo : Int32) (s r : Nat) : Bool :=
  if ek = 4 then true else if zq_pe md ek N r = true then decide (c s r ≤ 0) else zq_hd md N s && decide (zq_di q O d md s r ≤ zq_re ek eo)
def zq_to' (k : Int32) : Prop := k = 1 ∨ k = 3
/-- the specification's ranges: direction, mode, kinds; CURRENT ROW has offset 0 -/
def zq_Sp (d md sk so ek eo : Int32) : Prop := (d = 0 ∨ d = 1 ∨ d = 2) ∧ (md = 0 ∨ md = 1) ∧ (sk = 0 ∨ sk = 1 ∨ sk = 2 ∨ sk = 3) ∧ (sk = 2 → so = 0) ∧ (ek = 1 ∨ ek = 2 ∨ ek = 3 ∨ ek = 4) ∧ (ek = 2 → eo = 0)
theorem zq_z32 : (0 : Int32).toInt = 0 := by decide
theorem zq_n01 : ¬ (0 : Int32) = 1 := by decide
theorem zq_n21 : ¬ (2 : Int32) = 1 := by decide
theorem zq_n31 : ¬ (3 : Int32) = 1 := by decide
theorem zq_n02 : ¬ (0 : Int32) = 2 := by decide
theorem zq_n12 : ¬ (1 : Int32) = 2 := by decide
theorem zq_n13 : ¬ (1 : Int32) = 3 := by decide
theorem zq_n14 : ¬ (1 : Int32) = 4 := by decide
theorem zq_n20 : ¬ (2 : Int32) = 0 := by decide
theorem zq_n23 : ¬ (2 : Int32) = 3 := by decide
theorem zq_n24 : ¬ (2 : Int32) = 4 := by decide
theorem zq_n30 : ¬ (3 : Int32) = 0 := by decide
theorem zq_n32 : ¬ (3 : Int32) = 2 := by decide
theorem zq_n34 : ¬ (3 : Int32) = 4 := by decide
variable {c : Nat → Nat → Int32} {q O N : Nat → Int32} {d md k o : Int32} {s r : Nat}
theorem zq_pe_0 : zq_pe 0 k N r = false := by simp [zq_pe, zq_n01]
theorem zq_pe_n1 (nr : N r = 0) : zq_pe md 1 N r = false := by simp [zq_pe, zq_to, nr]
theorem zq_pe_n3 (nr : N r = 0) : zq_pe md 3 N r = false := by simp [zq_pe, zq_to, nr]
theorem zq_pe_t (nr : ¬ N r = 0) : zq_pe 1 k N r = true := by simp [zq_pe, nr]
theorem zq_pe_2 : zq_pe 1 2 N r = true := by simp [zq_pe, zq_to, zq_n21, zq_n23]
theorem zq_hd_0 : zq_hd 0 N s = true := by simp [zq_hd]
theorem zq_hd_t (ns : N s = 0) : zq_hd md N s = true := by simp [zq_hd, ns]
theorem zq_hd_f (ns : ¬ N s = 0) : zq_hd 1 N s = false := by simp [zq_hd, ns, zq_n10]
theorem zq_di_0 : zq_di q O d 0 s r = (q s).toInt64 - (q r).toInt64 := by unfold zq_di; rw [if_pos rfl]
theorem zq_di_1 : zq_di q O 1 1 s r = (O s).toInt64 - (O r).toInt64 := by unfold zq_di; rw [if_neg zq_n10, if_neg zq_n12]
theorem zq_di_2 : zq_di q O 2 1 s r = -((O s).toInt64 - (O r).toInt64) := by unfold zq_di; rw [if_neg zq_n10, if_pos rfl]
theorem zq_re_1 : zq_re 1 o = -o.toInt64 := by unfold zq_re; rw [if_pos rfl]
theorem zq_re_2 : zq_re 2 o = o.toInt64 := by unfold zq_re; rw [if_neg zq_n21]
theorem zq_re_3 : zq_re 3 o = o.toInt64 := by unfold zq_re; rw [if_neg zq_n31]
theorem zq_Bft : ¬ (false = true) := by decide
theorem zq_xs_p (h0 : ¬ k = 0) (hp : zq_pe md k N r = true) : zq_xs c q O N d md k o s r = decide (0 ≤ c s r) := by unfold zq_xs; rw [if_neg h0, if_pos hp]
theorem zq_xs_d (h0 : ¬ k = 0) (hp : zq_pe md k N r = false) (hh : zq_hd md N s = true) : zq_xs c q O N d md k o s r = decide (zq_re k o ≤ zq_di q O d md s r) := by unfold zq_xs; rw [if_neg h0, hp, if_neg zq_Bft, hh, Bool.true_and]
theorem zq_xs_f (h0 : ¬ k = 0) (hp : zq_pe md k N r = false) (hh : zq_hd md N s = false) : zq_xs c q O N d md k o s r = false := by unfold zq_xs; rw [if_neg h0, hp, if_neg zq_Bft, hh, Bool.false_and]
theorem zq_ys_01 : zq_ys c q O N d 0 1 o s r = decide ((q r).toInt64 - o.toInt64 ≤ (q s).toInt64) := by unfold zq_ys; rw [if_neg zq_n10, if_pos rfl, if_pos rfl]
theorem zq_ys_03 : zq_ys c q O N d 0 3 o s r = decide ((q r).toInt64 + o.toInt64 ≤ (q s).toInt64) := by unfold zq_ys; rw [if_neg zq_n30, if_pos rfl, if_neg zq_n31, if_pos rfl]
theorem zq_ys_02 : zq_ys c q O N d 0 2 o s r = decide ((q r).toInt64 ≤ (q s).toInt64) := by unfold zq_ys; rw [if_neg zq_n20, if_pos rfl, if_neg zq_n21, if_neg zq_n23]
theorem zq_ys_12 : zq_ys c q O N d 1 2 o s r = decide (0 ≤ c s r) := by unfold zq_ys; rw [if_neg zq_n20, if_neg zq_n10, if_pos rfl]
theorem zq_ys_11n (nr : ¬ N r = 0) : zq_ys c q O N d 1 1 o s r = decide (0 ≤ c s r) := by unfold zq_ys; rw [if_neg zq_n10, if_neg zq_n10, if_neg zq_n12, if_neg nr]
theorem zq_ys_11f (nr : N r = 0) (ns : ¬ N s = 0) : zq_ys c q O N d 1 1 o s r = false := by unfold zq_ys; rw [if_neg zq_n10, if_neg zq_n10, if_neg zq_n12, if_pos nr, if_neg ns]
theorem zq_ys_111 (nr : N r = 0) (ns : N s = 0) : zq_ys c q O N 1 1 1 o s r = decide ((O r).toInt64 - o.toInt64 ≤ (O s).toInt64) := by unfold zq_ys; rw [if_neg zq_n10, if_neg zq_n10, if_neg zq_n12, if_pos nr, if_pos ns, if_pos rfl, if_pos rfl]
theorem zq_ys_112 (nr : N r = 0) (ns : N s = 0) : zq_ys c q O N 2 1 1 o s r = decide ((O s).toInt64 ≤ (O r).toInt64 + o.toInt64) := by unfold zq_ys; rw [if_neg zq_n10, if_neg zq_n10, if_neg zq_n12, if_pos nr, if_pos ns, if_neg zq_n21, if_pos rfl]
theorem zq_ys_13n (nr : ¬ N r = 0) : zq_ys c q O N d 1 3 o s r = decide (0 ≤ c s r) := by unfold zq_ys; rw [if_neg zq_n30, if_neg zq_n10, if_neg zq_n32, if_neg nr]
theorem zq_ys_13f (nr : N r = 0) (ns : ¬ N s = 0) : zq_ys c q O N d 1 3 o s r = false := by unfold zq_ys; rw [if_neg zq_n30, if_neg zq_n10, if_neg zq_n32, if_pos nr, if_neg ns]
theorem zq_ys_131 (nr : N r = 0) (ns : N s = 0) : zq_ys c q O N 1 1 3 o s r = decide ((O r).toInt64 + o.toInt64 ≤ (O s).toInt64) := by unfold zq_ys; rw [if_neg zq_n30, if_neg zq_n10, if_neg zq_n32, if_pos nr, if_pos ns, if_pos rfl, if_neg zq_n31]
theorem zq_ys_132 (nr : N r = 0) (ns : N s = 0) : zq_ys c q O N 2 1 3 o s r = decide ((O s).toInt64 ≤ (O r).toInt64 - o.toInt64) := by unfold zq_ys; rw [if_neg zq_n30, if_neg zq_n10, if_neg zq_n32, if_pos nr, if_pos ns, if_neg zq_n21, if_neg zq_n31]
theorem zq_xs_y (hd : d = 0 ∨ d = 1 ∨ d = 2) (hm : md = 0 ∨ md = 1) (hk : k = 0 ∨ k = 1 ∨ k = 2 ∨ k = 3) (h2 : k = 2 → o = 0) (hn : md = 1 → d = 0 → ¬ k = 1 ∧ ¬ k = 3) (s r : Nat) : zq_xs c q O N d md k o s r = zq_ys c q O N d md k o s r := by
  rcases hk with rfl | rfl | rfl | rfl
  · unfold zq_xs zq_ys; rw [if_pos rfl, if_pos rfl]
  · rcases hm with rfl | rfl
    · rw [zq_xs_d zq_n10 zq_pe_0 zq_hd_0, zq_ys_01, zq_re_1, zq_di_0, decide_eq_decide]
      simp only [Int64.le_iff_toInt_le, zq_i_neg, zq_i_nsub, zq_i_sub, zq_i_add, Int32.toInt_toInt64, zq_z32]
      omega
    · by_cases nr : N r = 0
      · by_cases ns : N s = 0
        · rcases hd with rfl | rfl | rfl
          · exact absurd rfl (hn rfl rfl).1
          · rw [zq_xs_d zq_n10 (zq_pe_n1 nr) (zq_hd_t ns), zq_ys_111 nr ns, zq_re_1, zq_di_1, decide_eq_decide]
            simp only [Int64.le_iff_toInt_le, zq_i_neg, zq_i_nsub, zq_i_sub, zq_i_add, Int32.toInt_toInt64, zq_z32]
            omega
          · rw [zq_xs_d zq_n10 (zq_pe_n1 nr) (zq_hd_t ns), zq_ys_112 nr ns, zq_re_1, zq_di_2, decide_eq_decide]
            simp only [Int64.le_iff_toInt_le, zq_i_neg, zq_i_nsub, zq_i_sub, zq_i_add, Int32.toInt_toInt64, zq_z32]
            omega
        · rw [zq_xs_f zq_n10 (zq_pe_n1 nr) (zq_hd_f ns), zq_ys_11f nr ns]
      · rw [zq_xs_p zq_n10 (zq_pe_t nr), zq_ys_11n nr]
  · rcases hm with rfl | rfl
    · cases h2 rfl
      rw [zq_xs_d zq_n20 zq_pe_0 zq_hd_0, zq_ys_02, zq_re_2, zq_di_0, decide_eq_decide]
      simp only [Int64.le_iff_toInt_le, zq_i_neg, zq_i_nsub, zq_i_sub, zq_i_add, Int32.toInt_toInt64, zq_z32]
      omega
    · rw [zq_xs_p zq_n20 zq_pe_2, zq_ys_12]
  · rcases hm with rfl | rfl
    · rw [zq_xs_d zq_n30 zq_pe_0 zq_hd_0, zq_ys_03, zq_re_3, zq_di_0, decide_eq_decide]
      simp only [Int64.le_iff_toInt_le, zq_i_neg, zq_i_nsub, zq_i_sub, zq_i_add, Int32.toInt_toInt64, zq_z32]
      omega
    · by_cases nr : N r = 0
      · by_cases ns : N s = 0
        · rcases hd with rfl | rfl | rfl
          · exact absurd rfl (hn rfl rfl).2
          · rw [zq_xs_d zq_n30 (zq_pe_n3 nr) (zq_hd_t ns), zq_ys_131 nr ns, zq_re_3, zq_di_1, decide_eq_decide]
            simp only [Int64.le_iff_toInt_le, zq_i_neg, zq_i_nsub, zq_i_sub, zq_i_add, Int32.toInt_toInt64, zq_z32]
            omega
          · rw [zq_xs_d zq_n30 (zq_pe_n3 nr) (zq_hd_t ns), zq_ys_132 nr ns, zq_re_3, zq_di_2, decide_eq_decide]
            simp only [Int64.le_iff_toInt_le, zq_i_neg, zq_i_nsub, zq_i_sub, zq_i_add, Int32.toInt_toInt64, zq_z32]
            omega
        · rw [zq_xs_f zq_n30 (zq_pe_n3 nr) (zq_hd_f ns), zq_ys_13f nr ns]
      · rw [zq_xs_p zq_n30 (zq_pe_t nr), zq_ys_13n nr]
theorem zq_xe_p (h0 : ¬ k = 4) (hp : zq_pe md k N r = true) : zq_xe c q O N d md k o s r = decide (c s r ≤ 0) := by unfold zq_xe; rw [if_neg h0, if_pos hp]
theorem zq_xe_d (h0 : ¬ k = 4) (hp : zq_pe md k N r = false) (hh : zq_hd md N s = true) : zq_xe c q O N d md k o s r = decide (zq_di q O d md s r ≤ zq_re k o) := by unfold zq_xe; rw [if_neg h0, hp, if_neg zq_Bft, hh, Bool.true_and]
theorem zq_xe_f (h0 : ¬ k = 4) (hp : zq_pe md k N r = false) (hh : zq_hd md N s = false) : zq_xe c q O N d md k o s r = false := by unfold zq_xe; rw [if_neg h0, hp, if_neg zq_Bft, hh, Bool.false_and]
theorem zq_ye_01 : zq_ye c q O N d 0 1 o s r = decide ((q s).toInt64 ≤ (q r).toInt64 - o.toInt64) := by unfold zq_ye; rw [if_neg zq_n14, if_pos rfl, if_pos rfl]
theorem zq_ye_03 : zq_ye c q O N d 0 3 o s r = decide ((q s).toInt64 ≤ (q r).toInt64 + o.toInt64) := by unfold zq_ye; rw [if_neg zq_n34, if_pos rfl, if_neg zq_n31, if_pos rfl]
theorem zq_ye_02 : zq_ye c q O N d 0 2 o s r = decide ((q s).toInt64 ≤ (q r).toInt64) := by unfold zq_ye; rw [if_neg zq_n24, if_pos rfl, if_neg zq_n21, if_neg zq_n23]
theorem zq_ye_12 : zq_ye c q O N d 1 2 o s r = decide (c s r ≤ 0) := by unfold zq_ye; rw [if_neg zq_n24, if_neg zq_n10, if_pos rfl]
theorem zq_ye_11n (nr : ¬ N r = 0) : zq_ye c q O N d 1 1 o s r = decide (c s r ≤ 0) := by unfold zq_ye; rw [if_neg zq_n14, if_neg zq_n10, if_neg zq_n12, if_neg nr]
theorem zq_ye_11f (nr : N r = 0) (ns : ¬ N s = 0) : zq_ye c q O N d 1 1 o s r = false := by unfold zq_ye; rw [if_neg zq_n14, if_neg zq_n10, if_neg zq_n12, if_pos nr, if_neg ns]
theorem zq_ye_111 (nr : N r = 0) (ns : N s = 0) : zq_ye c q O N 1 1 1 o s r = decide ((O s).toInt64 ≤ (O r).toInt64 - o.toInt64) := by unfold zq_ye; rw [if_neg zq_n14, if_neg zq_n10, if_neg zq_n12, if_pos nr, if_pos ns, if_pos rfl, if_pos rfl]
theorem zq_ye_112 (nr : N r = 0) (ns : N s = 0) : zq_ye c q O N 2 1 1 o s r = decide ((O r).toInt64 + o.toInt64 ≤ (O s).toInt64) := by unfold zq_ye; rw [if_neg zq_n14, if_neg zq_n10, if_neg zq_n12, if_pos nr, if_pos ns, if_neg zq_n21, if_pos rfl]
theorem zq_ye_13n (nr : ¬ N r = 0) : zq_ye c q O N d 1 3 o s r = decide (c s r ≤ 0) := by unfold zq_ye; rw [if_neg zq_n34, if_neg zq_n10, if_neg zq_n32, if_neg nr]
theorem zq_ye_13f (nr : N r = 0) (ns : ¬ N s = 0) : zq_ye c q O N d 1 3 o s r = false := by unfold zq_ye; rw [if_neg zq_n34, if_neg zq_n10, if_neg zq_n32, if_pos nr, if_neg ns]
theorem zq_ye_131 (nr : N r = 0) (ns : N s = 0) : zq_ye c q O N 1 1 3 o s r = decide ((O s).toInt64 ≤ (O r).toInt64 + o.toInt64) := by unfold zq_ye; rw [if_neg zq_n34, if_neg zq_n10, if_neg zq_n32, if_pos nr, if_pos ns, if_pos rfl, if_neg zq_n31]
theorem zq_ye_132 (nr : N r = 0) (ns : N s = 0) : zq_ye c q O N 2 1 3 o s r = decide ((O r).toInt64 - o.toInt64 ≤ (O s).toInt64) := by unfold zq_ye; rw [if_neg zq_n34, if_neg zq_n10, if_neg zq_n32, if_pos nr, if_pos ns, if_neg zq_n21, if_neg zq_n31]
theorem zq_xe_y (hd : d = 0 ∨ d = 1 ∨ d = 2) (hm : md = 0 ∨ md = 1) (hk : k = 4 ∨ k = 1 ∨ k = 2 ∨ k = 3) (h2 : k = 2 → o = 0) (hn : md = 1 → d = 0 → ¬ k = 1 ∧ ¬ k = 3) (s r : Nat) : zq_xe c q O N d md k o s r = zq_ye c q O N d md k o s r := by
  rcases hk with rfl | rfl | rfl | rfl
  · unfold zq_xe zq_ye; rw [if_pos rfl, if_pos rfl]
  · rcases hm with rfl | rfl
    · rw [zq_xe_d zq_n14 zq_pe_0 zq_hd_0, zq_ye_01, zq_re_1, zq_di_0, decide_eq_decide]
      simp only [Int64.le_iff_toInt_le, zq_i_neg, zq_i_nsub, zq_i_sub, zq_i_add, Int32.toInt_toInt64, zq_z32]
      omega
    · by_cases nr : N r = 0
      · by_cases ns : N s = 0
        · rcases hd with rfl | rfl | rfl
          · exact absurd rfl (hn rfl rfl).1
          · rw [zq_xe_d zq_n14 (zq_pe_n1 nr) (zq_hd_t ns), zq_ye_111 nr ns, zq_re_1, zq_di_1, decide_eq_decide]
            simp only [Int64.le_iff_toInt_le, zq_i_neg, zq_i_nsub, zq_i_sub, zq_i_add, Int32.toInt_toInt64, zq_z32]
            omega
          · rw [zq_xe_d zq_n14 (zq_pe_n1 nr) (zq_hd_t ns), zq_ye_112 nr ns, zq_re_1, zq_di_2, decide_eq_decide]
            simp only [Int64.le_iff_toInt_le, zq_i_neg, zq_i_nsub, zq_i_sub, zq_i_add, Int32.toInt_toInt64, zq_z32]
            omega
        · rw [zq_xe_f zq_n14 (zq_pe_n1 nr) (zq_hd_f ns), zq_ye_11f nr ns]
      · rw [zq_xe_p zq_n14 (zq_pe_t nr), zq_ye_11n nr]
  · rcases hm with rfl | rfl
    · cases h2 rfl
      rw [zq_xe_d zq_n24 zq_pe_0 zq_hd_0, zq_ye_02, zq_re_2, zq_di_0, decide_eq_decide]
      simp only [Int64.le_iff_toInt_le, zq_i_neg, zq_i_nsub, zq_i_sub, zq_i_add, Int32.toInt_toInt64, zq_z32]
      omega
    · rw [zq_xe_p zq_n24 zq_pe_2, zq_ye_12]
  · rcases hm with rfl | rfl
    · rw [zq_xe_d zq_n34 zq_pe_0 zq_hd_0, zq_ye_03, zq_re_3, zq_di_0, decide_eq_decide]
      simp only [Int64.le_iff_toInt_le, zq_i_neg, zq_i_nsub, zq_i_sub, zq_i_add, Int32.toInt_toInt64, zq_z32]
      omega
    · by_cases nr : N r = 0
      · by_cases ns : N s = 0
        · rcases hd with rfl | rfl | rfl
          · exact absurd rfl (hn rfl rfl).2
          · rw [zq_xe_d zq_n34 (zq_pe_n3 nr) (zq_hd_t ns), zq_ye_131 nr ns, zq_re_3, zq_di_1, decide_eq_decide]
            simp only [Int64.le_iff_toInt_le, zq_i_neg, zq_i_nsub, zq_i_sub, zq_i_add, Int32.toInt_toInt64, zq_z32]
            omega
          · rw [zq_xe_d zq_n34 (zq_pe_n3 nr) (zq_hd_t ns), zq_ye_132 nr ns, zq_re_3, zq_di_2, decide_eq_decide]
            simp only [Int64.le_iff_toInt_le, zq_i_neg, zq_i_nsub, zq_i_sub, zq_i_add, Int32.toInt_toInt64, zq_z32]
            omega
        · rw [zq_xe_f zq_n34 (zq_pe_n3 nr) (zq_hd_f ns), zq_ye_13f nr ns]
      · rw [zq_xe_p zq_n34 (zq_pe_t nr), zq_ye_13n nr]
/-! exclusion and the frame -/
def zq_xx (ex : Int32) (c : Nat → Nat → Int32) (s r : Nat) : Bool :=
  if ex = 1 then decide (s = r) else if ex = 2 then decide (c s r = 0) else if ex = 3 then (!(decide (s = r)) && decide (c s r = 0)) else false
def zq_xf (P : Nat → Int32) (c : Nat → Nat → Int32) (q O N : Nat → Int32) (d md ex sk so ek eo : Int32) (r s : Nat) : Bool :=
  decide (P s = P r) && (zq_xs c q O N d md sk so s r && (zq_xe c q O N d md ek eo s r && !(zq_xx ex c s r)))
def zq_yf (P : Nat → Int32) (c : Nat → Nat → Int32) (q O N : Nat → Int32) (d md ex sk so ek eo : Int32) (r s : Nat) : Bool :=
  decide (P s = P r) && (zq_ys c q O N d md sk so s r && (zq_ye c q O N d md ek eo s r && !(zq_xx ex c s r)))
theorem zq_xf_y {P : Nat → Int32} {ex sk so ek eo : Int32} (h : zq_Sp d md sk so ek eo) (hn : md = 1 → d = 0 → (¬ sk = 1 ∧ ¬ sk = 3) ∧ (¬ ek = 1 ∧ ¬ ek = 3)) (r : Nat) :
    zq_xf P c q O N d md ex sk so ek eo r = zq_yf P c q O N d md ex sk so ek eo r := by
  obtain ⟨h1, h2, h3, h4, h5, h6⟩ := h
  funext s
  unfold zq_xf zq_yf
  rw [zq_xs_y h1 h2 h3 h4 (fun a b => (hn a b).1), zq_xe_y h1 h2 (by rcases h5 with z | z | z | z <;> simp [z]) h6 (fun a b => (hn a b).2)]
theorem zq_yf_P {P : Nat → Int32} {ex sk so ek eo : Int32} {r s : Nat} (h : zq_yf P c q O N d md ex sk so ek eo r s = true) : P s = P r := by
  unfold zq_yf at h
  rw [Bool.and_eq_true, decide_eq_true_eq] at h
  exact h.1
end ZQC
