section ZQH
/-! the reference's compute and rowAt -/
variable {cp d nl md ex sk so ek eo lf f arg : Int32} {P O V N M Z A F : Nat → Int32} {R : Nat → Int64} {n a b r s i : Nat}
theorem zq_f12 (h0 : ¬ f < 0) (h1 : f ≤ 11) : f = 0 ∨ f = 1 ∨ f = 2 ∨ f = 3 ∨ f = 4 ∨ f = 5 ∨ f = 6 ∨ f = 7 ∨ f = 8 ∨ f = 9 ∨ f = 10 ∨ f = 11 := by
  obtain ⟨j, hj, rfl⟩ := nI_of2 (M := 11) (n := 11) (by decide) h0 h1
  have h : j = 0 ∨ j = 1 ∨ j = 2 ∨ j = 3 ∨ j = 4 ∨ j = 5 ∨ j = 6 ∨ j = 7 ∨ j = 8 ∨ j = 9 ∨ j = 10 ∨ j = 11 := by omega
  rcases h with rfl | rfl | rfl | rfl | rfl | rfl | rfl | rfl | rfl | rfl | rfl | rfl <;> decide
theorem zy_ev {post : SY → Prop} (hf : f = 0 ∨ f = 1 ∨ f = 2 ∨ f = 3 ∨ f = 4 ∨ f = 5 ∨ f = 6 ∨ f = 7 ∨ f = 8 ∨ f = 9 ∨ f = 10 ∨ f = 11) (hn : n ≤ 32) (hr : r < 32) (hM : ∀ i, M i = 0 ∨ M i = 1) (hp : post (cp, nI n, d, nl, md, ex, sk, so, ek, eo, lf, P, O, V, N, M, vp_updL R r ((zq_an n P V M (zq_cmp P O N d nl) (zq_yf P (zq_cmp P O N d nl) (zq_q n P (zq_cmp P O N d nl)) O N d md ex sk so ek eo r) f arg r)).2, upd Z r (zq_b ((zq_an n P V M (zq_cmp P O N d nl) (zq_yf P (zq_cmp P O N d nl) (zq_q n P (zq_cmp P O N d nl)) O N d md ex sk so ek eo r) f arg r)).1))) : wpY_evalRow post (cp, nI n, d, nl, md, ex, sk, so, ek, eo, lf, P, O, V, N, M, R, Z) (nI r) f arg := by
  rcases hf with rfl | rfl | rfl | rfl | rfl | rfl | rfl | rfl | rfl | rfl | rfl | rfl
  · exact zy_ev0 hn hr hp
  · exact zy_ev1 hn hr hp
  · exact zy_ev2 hn hr hp
  · exact zy_ev3 hn hr hM hp
  · exact zy_ev4 hn hr hM hp
  · exact zy_ev5 hn hr hM hp
  · exact zy_ev6 hn hr hM hp
  · exact zy_ev7 hn hr hM hp
  · exact zy_ev8 hn hr hM hp
  · exact zy_ev9 hn hr hM hp
  · exact zy_ev10 hn hr hM hp
  · exact zy_ev11 hn hr hM hp
theorem zy_loop {post : Int32 → SY → Prop} (hf : f = 0 ∨ f = 1 ∨ f = 2 ∨ f = 3 ∨ f = 4 ∨ f = 5 ∨ f = 6 ∨ f = 7 ∨ f = 8 ∨ f = 9 ∨ f = 10 ∨ f = 11) (hn : n ≤ 32) (hM : ∀ i, M i = 0 ∨ M i = 1) (hp : post 1 (cp, nI n, d, nl, md, ex, sk, so, ek, eo, f, P, O, V, N, M, zq_mkL (fun r => (zq_an n P V M (zq_cmp P O N d nl) (zq_yf P (zq_cmp P O N d nl) (zq_q n P (zq_cmp P O N d nl)) O N d md ex sk so ek eo r) f arg r).2) R n, zq_mk (fun r => zq_b (zq_an n P V M (zq_cmp P O N d nl) (zq_yf P (zq_cmp P O N d nl) (zq_q n P (zq_cmp P O N d nl)) O N d md ex sk so ek eo r) f arg r).1) Z n)) : ∃ m, wY_compute_102 post f arg m 0 cp (nI n) d nl md ex sk so ek eo lf P O V N M R Z := by
  refine zq_lp (W := fun m i => wY_compute_102 post f arg m (nI i) cp (nI n) d nl md ex sk so ek eo lf P O V N M (zq_mkL (fun r => (zq_an n P V M (zq_cmp P O N d nl) (zq_yf P (zq_cmp P O N d nl) (zq_q n P (zq_cmp P O N d nl)) O N d md ex sk so ek eo r) f arg r).2) R i) (zq_mk (fun r => zq_b (zq_an n P V M (zq_cmp P O N d nl) (zq_yf P (zq_cmp P O N d nl) (zq_q n P (zq_cmp P O N d nl)) O N d md ex sk so ek eo r) f arg r).1) Z i)) n (fun m => ?_) (fun m i hi ih => ?_)
  · exact br_t (nI_le (Nat.le_refl n) (by omega)) hp
  · exact br_f (nI_ge hi (by omega)) (zy_ev hf hn (by omega) hM (nm_r (nI_1 i) ih))
theorem zy_28 {post : Int32 → SY → Prop} (hf : f = 0 ∨ f = 1 ∨ f = 2 ∨ f = 3 ∨ f = 4 ∨ f = 5 ∨ f = 6 ∨ f = 7 ∨ f = 8 ∨ f = 9 ∨ f = 10 ∨ f = 11) (hn : n ≤ 32) (hM : ∀ i, M i = 0 ∨ M i = 1)
    (h1 : md = 1 ∧ d = 0 ∧ (zq_to sk = true ∨ zq_to ek = true) → post 0 (cp, nI n, d, nl, md, ex, sk, so, ek, eo, lf, P, O, V, N, M, R, Z))
    (h2 : ¬ (md = 1 ∧ d = 0 ∧ (zq_to sk = true ∨ zq_to ek = true)) → post 1 (cp, nI n, d, nl, md, ex, sk, so, ek, eo, f, P, O, V, N, M, zq_mkL (fun r => (zq_an n P V M (zq_cmp P O N d nl) (zq_yf P (zq_cmp P O N d nl) (zq_q n P (zq_cmp P O N d nl)) O N d md ex sk so ek eo r) f arg r).2) R n, zq_mk (fun r => zq_b (zq_an n P V M (zq_cmp P O N d nl) (zq_yf P (zq_cmp P O N d nl) (zq_q n P (zq_cmp P O N d nl)) O N d md ex sk so ek eo r) f arg r).1) Z n)) : wY_compute_28 post f arg cp (nI n) d nl md ex sk so ek eo lf P O V N M R Z := by
  have t1 : ∀ k : Int32, k = 1 → zq_to k = true := fun k e => by rw [e]; decide
  have t3 : ∀ k : Int32, k = 3 → zq_to k = true := fun k e => by rw [e]; decide
  have t0 : ∀ k : Int32, ¬ k = 1 → ¬ k = 3 → ¬ zq_to k = true := fun k a b z => by
    unfold zq_to at z
    rw [decide_eq_false a, decide_eq_false b] at z
    exact absurd z (by decide)
  have L : ∀ x3 z0 : Int32, (x3 = 0 ↔ ¬ zq_to sk = true) → (z0 = 0 ↔ ¬ zq_to ek = true) → wY_compute_71 post f arg x3 z0 cp (nI n) d nl md ex sk so ek eo lf P O V N M R Z := by
    intro x3 z0 hx hz
    refine br_c (fun m1 => br_c (fun d0 => br_c (fun x0 => br_c (fun q0 => zy_loop hf hn hM (h2 ?_)) (fun q0 => h1 ⟨m1, d0, Or.inr ?_⟩)) (fun x0 => h1 ⟨m1, d0, Or.inl ?_⟩)) (fun d0 => zy_loop hf hn hM (h2 (fun z => d0 z.2.1)))) (fun m1 => zy_loop hf hn hM (h2 (fun z => m1 z.1)))
    · intro z
      rcases z.2.2 with w | w
      · exact hx.mp x0 w
      · exact hz.mp q0 w
    · exact Decidable.byContradiction (fun w => q0 (hz.mpr w))
    · exact Decidable.byContradiction (fun w => x0 (hx.mpr w))
  have K : ∀ x3 : Int32, (x3 = 0 ↔ ¬ zq_to sk = true) → wY_compute_49 post f arg x3 cp (nI n) d nl md ex sk so ek eo lf P O V N M R Z := by
    intro x3 hx
    exact br_c (fun g => L x3 1 hx ⟨fun z => absurd z zq_n10, fun z => absurd (t1 _ g) z⟩) (fun g => br_c (fun g3 => L x3 1 hx ⟨fun z => absurd z zq_n10, fun z => absurd (t3 _ g3) z⟩) (fun g3 => L x3 0 hx ⟨fun _ => t0 _ g g3, fun _ => rfl⟩))
  exact br_c (fun g => K 1 ⟨fun z => absurd z zq_n10, fun z => absurd (t1 _ g) z⟩) (fun g => br_c (fun g3 => K 1 ⟨fun z => absurd z zq_n10, fun z => absurd (t3 _ g3) z⟩) (fun g3 => K 0 ⟨fun _ => t0 _ g g3, fun _ => rfl⟩))
def zq_ra (c : Nat → Nat → Int32) (n : Nat) (p : Int32) : Nat → Bool := fun j => decide (nI (zq_rb c n j) = p)
theorem zy_ra_in {post J : Int32 → Prop} {p : Int32} (hn : n ≤ 32) (hr : r < 32) (h1 : zq_ra (zq_cmp P O N d nl) n p r = true → post (nI r)) (h2 : zq_ra (zq_cmp P O N d nl) n p r = false → J (nI (r + 1))) : ∃ m, wY_rowAt_29 post J p (nI r) cp (nI n) d nl md ex sk so ek eo lf P O V N M R Z m 0 0 := by
  refine zq_lp (W := fun m i => wY_rowAt_29 post J p (nI r) cp (nI n) d nl md ex sk so ek eo lf P O V N M R Z m (nI (zq_cn (fun s => zq_bef (zq_cmp P O N d nl) s r) i)) (nI i)) n (fun m => ?_) (fun m i hi ih => ?_)
  · exact br_t (nI_le (Nat.le_refl n) (by omega)) (br_c (fun g => h1 (decide_eq_true g)) (fun g => nm_r (nI_1 r) (h2 (decide_eq_false g))))
  · refine br_f (nI_ge hi (by omega)) (zy_before (by omega) hr (zq_br (fun g => nm_r (nI_1 i) ?_) (fun g => nm_r (nI_1 _) (nm_r (nI_1 i) ?_))))
    · rw [zq_cn_f (p := fun s => zq_bef (zq_cmp P O N d nl) s r) g] at ih; exact ih
    · rw [zq_cn_t (p := fun s => zq_bef (zq_cmp P O N d nl) s r) g] at ih; exact ih
theorem zy_rowAt {post : Int32 → Prop} {p : Int32} (hn : n ≤ 32) (hp : post (zq_o (zq_fd (zq_ra (zq_cmp P O N d nl) n p) n))) : wpY_rowAt post (cp, nI n, d, nl, md, ex, sk, so, ek, eo, lf, P, O, V, N, M, R, Z) p := by
  have hlt : ∀ j, j < n → zq_rb (zq_cmp P O N d nl) n j < n := fun j hj => zq_rb_lt zq_or hj
  unfold wpY_rowAt
  dsimp only
  refine br_c (fun g => zq_p hp ?_) (fun g => br_c (fun g2 => ?_) (fun g2 => zq_p hp ?_))
  · have hz : ∀ j, j < n → zq_ra (zq_cmp P O N d nl) n p j = false := fun j hj => decide_eq_false (fun e => by
      have := hlt j hj
      rw [← e] at g
      exact nI_pos (by omega) g)
    rw [zq_fd_n n hz]
    rfl
  · obtain ⟨m, hm⟩ := zq_lp (W := fun m i => (∀ j, j < i → zq_ra (zq_cmp P O N d nl) n p j = false) → wY_rowAt_16 post p cp (nI n) d nl md ex sk so ek eo lf P O V N M R Z m (nI i)) n (fun m hj => br_t (nI_le (Nat.le_refl n) (by omega)) (zq_p hp (by rw [zq_fd_n n hj]; rfl))) (fun m i hi ih hj => br_f (nI_ge hi (by omega)) (zy_ra_in hn (by omega) (fun h => zq_p hp (by rw [zq_fd_s hj h n hi]; rfl)) (fun h => ih (fun j hj' => by
      by_cases e : j = i
      · rw [e]; exact h
      · exact hj j (by omega)))))
    exact ⟨m, hm (fun j hj => absurd hj (Nat.not_lt_zero j))⟩
  · have hz : ∀ j, j < n → zq_ra (zq_cmp P O N d nl) n p j = false := fun j hj => decide_eq_false (fun e => by
      have := hlt j hj
      rw [← e] at g2
      exact g2 (nI_lt this (by omega)))
    rw [zq_fd_n n hz]
    rfl
end ZQH
