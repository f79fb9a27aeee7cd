section ZQL
/-! addRow, isRow, small ranges -/
variable {cp d nl md ex sk so ek eo lf f arg : Int32} {P O V N M Z A F : Nat → Int32} {R : Nat → Int64} {n a b r s i : Nat}
theorem zq_us {g : Nat → Int32} {k : Nat} {x : Int32} : upd g k x k = x := if_pos rfl
theorem zq_us1 {g : Nat → Int32} {k : Nat} : ¬ upd g k 1 k = 0 := by rw [zq_us]; exact zq_n10
theorem zx_add {post : Int32 → SX → Prop} {p o v q b1 b2 o' v' : Int32} {C : Nat} (hC : C ≤ 32) (hn : n < C) (h1 : ((q &&& 1) = 0 ∧ b1 = 0 ∧ o' = o) ∨ (¬ (q &&& 1) = 0 ∧ b1 = 1 ∧ o' = 0)) (h2 : ((q &&& 2) = 0 ∧ b2 = 0 ∧ v' = v) ∨ (¬ (q &&& 2) = 0 ∧ b2 = 1 ∧ v' = 0)) (hp : post (nI n) (nI C, nI (n + 1), d, nl, md, ex, sk, so, ek, eo, lf, upd P n p, upd O n o', upd V n v', upd N n b1, upd M n b2, vp_updL R n 0, upd Z n 1, A, F)) : wpX_addRow post (nI C, nI n, d, nl, md, ex, sk, so, ek, eo, lf, P, O, V, N, M, R, Z, A, F) p o v q := by
  have hn' : n < 32 := by omega
  have ii := zq_in hn'
  unfold wpX_addRow wX_addRow_45 wX_addRow_67 wX_addRow_86 wX_addRow_108
  dsimp only
  rw [zq_cl hn', zq_nb0, zq_nb1]
  refine br_t (nI_lt hn (by omega)) ⟨ii, nm_e ?_⟩
  rcases h1 with ⟨g1, rfl, rfl⟩ | ⟨g1, rfl, rfl⟩
  · refine br_t g1 ⟨ii, nm_e ⟨ii, br_t zq_us ⟨ii, nm_e ?_⟩⟩⟩
    rcases h2 with ⟨g2, rfl, rfl⟩ | ⟨g2, rfl, rfl⟩
    · exact br_t g2 ⟨ii, nm_e ⟨ii, br_t zq_us ⟨ii, nm_e (zx_null hn' (nm_r (nI_1 n) hp))⟩⟩⟩
    · exact br_f g2 ⟨ii, nm_e ⟨ii, br_f zq_us1 ⟨ii, nm_e (zx_null hn' (nm_r (nI_1 n) hp))⟩⟩⟩
  · refine br_f g1 ⟨ii, nm_e ⟨ii, br_f zq_us1 ⟨ii, nm_e ?_⟩⟩⟩
    rcases h2 with ⟨g2, rfl, rfl⟩ | ⟨g2, rfl, rfl⟩
    · exact br_t g2 ⟨ii, nm_e ⟨ii, br_t zq_us ⟨ii, nm_e (zx_null hn' (nm_r (nI_1 n) hp))⟩⟩⟩
    · exact br_f g2 ⟨ii, nm_e ⟨ii, br_f zq_us1 ⟨ii, nm_e (zx_null hn' (nm_r (nI_1 n) hp))⟩⟩⟩
theorem zy_add {post : Int32 → SY → Prop} {p o v q b1 b2 o' v' : Int32} {C : Nat} (hC : C ≤ 32) (hn : n < C) (h1 : ((q &&& 1) = 0 ∧ b1 = 0 ∧ o' = o) ∨ (¬ (q &&& 1) = 0 ∧ b1 = 1 ∧ o' = 0)) (h2 : ((q &&& 2) = 0 ∧ b2 = 0 ∧ v' = v) ∨ (¬ (q &&& 2) = 0 ∧ b2 = 1 ∧ v' = 0)) (hp : post (nI n) (nI C, nI (n + 1), d, nl, md, ex, sk, so, ek, eo, lf, upd P n p, upd O n o', upd V n v', upd N n b1, upd M n b2, vp_updL R n 0, upd Z n 1)) : wpY_addRow post (nI C, nI n, d, nl, md, ex, sk, so, ek, eo, lf, P, O, V, N, M, R, Z) p o v q := by
  have hn' : n < 32 := by omega
  have ii := zq_in hn'
  have hq : post (nI (n + 1) - 1) (nI C, nI (n + 1), d, nl, md, ex, sk, so, ek, eo, lf, upd P n p, upd O n o', upd V n v', upd N n b1, upd M n b2, vp_updL R n 0, upd Z n 1) := by rw [nI_pred]; exact hp
  unfold wpY_addRow wY_addRow_52 wY_addRow_78 wY_addRow_99 wY_addRow_125
  dsimp only
  rw [zq_cl hn', zq_nb0, zq_nb1]
  refine br_f (nI_ge hn (by omega)) (br_t (nI_lt (b := 32) hn' (by omega)) ⟨ii, nm_e ?_⟩)
  rcases h1 with ⟨g1, rfl, rfl⟩ | ⟨g1, rfl, rfl⟩
  · refine br_t g1 ⟨ii, nm_e ⟨ii, br_t zq_us ⟨ii, nm_e ?_⟩⟩⟩
    rcases h2 with ⟨g2, rfl, rfl⟩ | ⟨g2, rfl, rfl⟩
    · exact br_t g2 ⟨ii, nm_e ⟨ii, br_t zq_us ⟨ii, nm_e ⟨ii, nm_e ⟨ii, nm_e (nm_r (nI_1 n) hq)⟩⟩⟩⟩⟩
    · exact br_f g2 ⟨ii, nm_e ⟨ii, br_f zq_us1 ⟨ii, nm_e ⟨ii, nm_e ⟨ii, nm_e (nm_r (nI_1 n) hq)⟩⟩⟩⟩⟩
  · refine br_f g1 ⟨ii, nm_e ⟨ii, br_f zq_us1 ⟨ii, nm_e ?_⟩⟩⟩
    rcases h2 with ⟨g2, rfl, rfl⟩ | ⟨g2, rfl, rfl⟩
    · exact br_t g2 ⟨ii, nm_e ⟨ii, br_t zq_us ⟨ii, nm_e ⟨ii, nm_e ⟨ii, nm_e (nm_r (nI_1 n) hq)⟩⟩⟩⟩⟩
    · exact br_f g2 ⟨ii, nm_e ⟨ii, br_f zq_us1 ⟨ii, nm_e ⟨ii, nm_e ⟨ii, nm_e (nm_r (nI_1 n) hq)⟩⟩⟩⟩⟩
theorem zq_r1 (h0 : ¬ f < 0) (h1 : f ≤ 1) : f = 0 ∨ f = 1 := by
  obtain ⟨j, hj, rfl⟩ := nI_of2 (M := 1) (n := 1) (by decide) h0 h1
  have h : j = 0 ∨ j = 1 := by omega
  rcases h with rfl | rfl <;> decide
theorem zq_r2 (h0 : ¬ f < 0) (h1 : f ≤ 2) : f = 0 ∨ f = 1 ∨ f = 2 := by
  obtain ⟨j, hj, rfl⟩ := nI_of2 (M := 2) (n := 2) (by decide) h0 h1
  have h : j = 0 ∨ j = 1 ∨ j = 2 := by omega
  rcases h with rfl | rfl | rfl <;> decide
theorem zq_r3 (h0 : ¬ f < 0) (h1 : f ≤ 3) : f = 0 ∨ f = 1 ∨ f = 2 ∨ f = 3 := by
  obtain ⟨j, hj, rfl⟩ := nI_of2 (M := 3) (n := 3) (by decide) h0 h1
  have h : j = 0 ∨ j = 1 ∨ j = 2 ∨ j = 3 := by omega
  rcases h with rfl | rfl | rfl | rfl <;> decide
theorem zq_r4 (h0 : ¬ f < 1) (h1 : f ≤ 4) : f = 1 ∨ f = 2 ∨ f = 3 ∨ f = 4 := by
  have h0' : ¬ f < 0 := fun z => h0 (Int32.lt_of_lt_of_le z (by decide))
  obtain ⟨j, hj, rfl⟩ := nI_of2 (M := 4) (n := 4) (by decide) h0' h1
  have h : j = 0 ∨ j = 1 ∨ j = 2 ∨ j = 3 ∨ j = 4 := by omega
  rcases h with rfl | rfl | rfl | rfl | rfl
  · exact absurd (by decide) h0
  · decide
  · decide
  · decide
  · decide
theorem zq_ix (x : Int32) (hn : n ≤ 32) : x < 0 ∨ (¬ x < 0 ∧ nI n ≤ x ∧ ¬ x < nI n) ∨ ∃ j : Nat, j < n ∧ x = nI j := by
  by_cases h : x < 0
  · exact Or.inl h
  · obtain ⟨j, hj, rfl⟩ := nI_of h
    by_cases g : j < n
    · exact Or.inr (Or.inr ⟨j, g, rfl⟩)
    · exact Or.inr (Or.inl ⟨h, nI_le (by omega) hj, nI_nlt (by omega) hj⟩)
theorem zq_brf {x : Bool} {B D : Prop} (h : x = false) (b : B) : (zq_b x = 0 → B) ∧ (¬ zq_b x = 0 → D) := zq_br (fun _ => b) (fun g => by rw [h] at g; cases g)
theorem zq_brt {x : Bool} {B D : Prop} (h : x = true) (b : D) : (zq_b x = 0 → B) ∧ (¬ zq_b x = 0 → D) := zq_br (fun g => by rw [h] at g; cases g) (fun _ => b)
theorem zx_is0 {post : Int32 → Prop} {x : Int32} (h : x < 0 ∨ (¬ x < 0 ∧ nI n ≤ x ∧ ¬ x < nI n)) (hp : post 0) : wpX_isRow post (cp, nI n, d, nl, md, ex, sk, so, ek, eo, lf, P, O, V, N, M, R, Z, A, F) x := by
  rcases h with h | h
  · exact br_t h hp
  · exact br_f h.1 (br_t h.2.1 hp)
theorem zx_is1 {post : Int32 → Prop} {j : Nat} (hn : n ≤ 32) (hj : j < n) (hp : post 1) : wpX_isRow post (cp, nI n, d, nl, md, ex, sk, so, ek, eo, lf, P, O, V, N, M, R, Z, A, F) (nI j) := br_f (nI_pos (by omega)) (br_f (nI_ge hj (by omega)) hp)
theorem zq_to_f {k : Int32} (h : zq_to k = false) : ¬ k = 1 ∧ ¬ k = 3 := by
  unfold zq_to at h
  rw [Bool.or_eq_false_iff, decide_eq_false_iff_not, decide_eq_false_iff_not] at h
  exact h
theorem zq_to_t {k : Int32} (h : zq_to k = true) : k = 1 ∨ k = 3 := by
  unfold zq_to at h
  rw [Bool.or_eq_true, decide_eq_true_eq, decide_eq_true_eq] at h
  exact h
end ZQL
