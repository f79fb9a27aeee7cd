section ZQK
/-! the class's storeResult and compute -/
variable {cp d nl md ex sk so ek eo lf f arg : Int32} {P O V N M Z A F : Nat → Int32} {R : Nat → Int64} {n a b r s i : Nat}
theorem zq_xf_A (hs : A s = (zq_q n P (zq_cmp P O N d nl)) s) (hr : A r = (zq_q n P (zq_cmp P O N d nl)) r) : zq_xf P (zq_cmp P O N d nl) A O N d md ex sk so ek eo r s = zq_xf P (zq_cmp P O N d nl) (zq_q n P (zq_cmp P O N d nl)) O N d md ex sk so ek eo r s := by
  unfold zq_xf zq_xs zq_xe zq_di
  rw [hs, hr]
theorem zx_sr {post : SX → Prop} (hf : f = 0 ∨ f = 1 ∨ f = 2 ∨ f = 3 ∨ f = 4 ∨ f = 5 ∨ f = 6 ∨ f = 7 ∨ f = 8 ∨ f = 9 ∨ f = 10 ∨ f = 11) (hn : n ≤ 32) (hN : ∀ i, N i = 0 ∨ N i = 1) (hA : ∀ j, j < n → A j = (zq_q n P (zq_cmp P O N d nl)) j) (hS : zq_Sp d md sk so ek eo) (hm : md = 1 → d = 0 → (¬ sk = 1 ∧ ¬ sk = 3) ∧ (¬ ek = 1 ∧ ¬ ek = 3)) (hrn : r < n) (hp : ∀ F' : Nat → Int32, post (cp, nI n, d, nl, md, ex, sk, so, ek, eo, lf, P, O, V, N, M, vp_updL R r (zq_an n P V M (zq_cmp P O N d nl) (zq_yf P (zq_cmp P O N d nl) (zq_q n P (zq_cmp P O N d nl)) O N d md ex sk so ek eo r) f arg r).2, upd Z r (zq_b (zq_an n P V M (zq_cmp P O N d nl) (zq_yf P (zq_cmp P O N d nl) (zq_q n P (zq_cmp P O N d nl)) O N d md ex sk so ek eo r) f arg r).1), A, F')) : wpX_storeResult post (cp, nI n, d, nl, md, ex, sk, so, ek, eo, lf, P, O, V, N, M, R, Z, A, F) (nI r) f arg := by
  have hr : r < 32 := by omega
  have hF : ∀ j, j < n → zq_mk (fun s => zq_b (zq_xf P (zq_cmp P O N d nl) A O N d md ex sk so ek eo r s)) F n j = zq_b ((zq_yf P (zq_cmp P O N d nl) (zq_q n P (zq_cmp P O N d nl)) O N d md ex sk so ek eo r) j) := by
    intro j hj
    rw [zq_mk_lt n hj, zq_xf_A (hA j hj) (hA r hrn), zq_xf_y hS hm]
  unfold wpX_storeResult
  dsimp only
  rcases hf with rfl | rfl | rfl | rfl | rfl | rfl | rfl | rfl | rfl | rfl | rfl | rfl
  · exact br_t (show (0 : Int32) < 5 by decide) (zx_ten0 hn hrn hN hA (hp F))
  · exact br_t (show (1 : Int32) < 5 by decide) (zx_ten1 hn hrn hN hA (hp F))
  · exact br_t (show (2 : Int32) < 5 by decide) (zx_ten2 hn hrn hN hA (hp F))
  · exact br_t (show (3 : Int32) < 5 by decide) (zx_ten3 hn hrn hN hA (hp F))
  · exact br_t (show (4 : Int32) < 5 by decide) (zx_ten4 hn hrn hN hA (hp F))
  · exact br_f (show ¬ (5 : Int32) < 5 by decide) (zx_frame hN hn hr (zx_ten5 hn hrn hN hA hF (fun s h => zq_yf_P h) (hp _)))
  · exact br_f (show ¬ (6 : Int32) < 5 by decide) (zx_frame hN hn hr (zx_ten6 hn hrn hN hA hF (fun s h => zq_yf_P h) (hp _)))
  · exact br_f (show ¬ (7 : Int32) < 5 by decide) (zx_frame hN hn hr (zx_ten7 hn hrn hN hA hF (hp _)))
  · exact br_f (show ¬ (8 : Int32) < 5 by decide) (zx_frame hN hn hr (zx_ten8 hn hrn hN hA hF (hp _)))
  · exact br_f (show ¬ (9 : Int32) < 5 by decide) (zx_frame hN hn hr (zx_ten9 hn hrn hN hA hF (hp _)))
  · exact br_f (show ¬ (10 : Int32) < 5 by decide) (zx_frame hN hn hr (zx_ten10 hn hrn hN hA hF (hp _)))
  · exact br_f (show ¬ (11 : Int32) < 5 by decide) (zx_frame hN hn hr (zx_ten11 hn hrn hN hA hF (hp _)))
theorem zx_loop {post : Int32 → SX → Prop} (hf : f = 0 ∨ f = 1 ∨ f = 2 ∨ f = 3 ∨ f = 4 ∨ f = 5 ∨ f = 6 ∨ f = 7 ∨ f = 8 ∨ f = 9 ∨ f = 10 ∨ f = 11) (hn : n ≤ 32) (hN : ∀ i, N i = 0 ∨ N i = 1) (hA : ∀ j, j < n → A j = (zq_q n P (zq_cmp P O N d nl)) j) (hS : zq_Sp d md sk so ek eo) (hm : md = 1 → d = 0 → (¬ sk = 1 ∧ ¬ sk = 3) ∧ (¬ ek = 1 ∧ ¬ ek = 3)) (hp : ∀ F' : Nat → Int32, post 1 (cp, nI n, d, nl, md, ex, sk, so, ek, eo, f, P, O, V, N, M, zq_mkL (fun r => (zq_an n P V M (zq_cmp P O N d nl) (zq_yf P (zq_cmp P O N d nl) (zq_q n P (zq_cmp P O N d nl)) O N d md ex sk so ek eo r) f arg r).2) R n, zq_mk (fun r => zq_b (zq_an n P V M (zq_cmp P O N d nl) (zq_yf P (zq_cmp P O N d nl) (zq_q n P (zq_cmp P O N d nl)) O N d md ex sk so ek eo r) f arg r).1) Z n, A, F')) : ∃ m, wX_compute_43 post f arg m 0 cp (nI n) d nl md ex sk so ek eo lf P O V N M R Z A F := by
  obtain ⟨m, hm'⟩ := zq_lp (W := fun m i => ∀ F' : Nat → Int32, wX_compute_43 post f arg m (nI i) cp (nI n) d nl md ex sk so ek eo lf P O V N M (zq_mkL (fun r => (zq_an n P V M (zq_cmp P O N d nl) (zq_yf P (zq_cmp P O N d nl) (zq_q n P (zq_cmp P O N d nl)) O N d md ex sk so ek eo r) f arg r).2) R i) (zq_mk (fun r => zq_b (zq_an n P V M (zq_cmp P O N d nl) (zq_yf P (zq_cmp P O N d nl) (zq_q n P (zq_cmp P O N d nl)) O N d md ex sk so ek eo r) f arg r).1) Z i) A F') n (fun m F' => br_t (nI_le (Nat.le_refl n) (by omega)) (hp F')) (fun m i hi ih F' => br_f (nI_ge hi (by omega)) (zx_sr hf hn hN hA hS hm hi (fun F2 => nm_r (nI_1 i) (ih F2))))
  exact ⟨m, hm' F⟩
theorem zq_ms_f (h : zq_ms d md sk ek = false) : md = 1 → d = 0 → (¬ sk = 1 ∧ ¬ sk = 3) ∧ (¬ ek = 1 ∧ ¬ ek = 3) := by
  intro h1 h2
  unfold zq_ms zq_to at h
  rw [decide_eq_true h1, decide_eq_true h2, Bool.true_and, Bool.true_and, Bool.or_eq_false_iff, Bool.or_eq_false_iff, Bool.or_eq_false_iff, decide_eq_false_iff_not, decide_eq_false_iff_not, decide_eq_false_iff_not, decide_eq_false_iff_not] at h
  exact h
theorem zq_ms_t : zq_ms d md sk ek = true ↔ (md = 1 ∧ d = 0 ∧ (zq_to sk = true ∨ zq_to ek = true)) := by
  unfold zq_ms
  rw [Bool.and_eq_true, Bool.and_eq_true, Bool.or_eq_true, decide_eq_true_eq, decide_eq_true_eq]
theorem zx_28 {post : Int32 → SX → Prop} (hf : f = 0 ∨ f = 1 ∨ f = 2 ∨ f = 3 ∨ f = 4 ∨ f = 5 ∨ f = 6 ∨ f = 7 ∨ f = 8 ∨ f = 9 ∨ f = 10 ∨ f = 11) (hn : n ≤ 32) (hN : ∀ i, N i = 0 ∨ N i = 1) (hS : zq_Sp d md sk so ek eo)
    (h1 : zq_ms d md sk ek = true → post 0 (cp, nI n, d, nl, md, ex, sk, so, ek, eo, lf, P, O, V, N, M, R, Z, A, F))
    (h2 : zq_ms d md sk ek = false → ∀ A' F' : Nat → Int32, post 1 (cp, nI n, d, nl, md, ex, sk, so, ek, eo, f, P, O, V, N, M, zq_mkL (fun r => (zq_an n P V M (zq_cmp P O N d nl) (zq_yf P (zq_cmp P O N d nl) (zq_q n P (zq_cmp P O N d nl)) O N d md ex sk so ek eo r) f arg r).2) R n, zq_mk (fun r => zq_b (zq_an n P V M (zq_cmp P O N d nl) (zq_yf P (zq_cmp P O N d nl) (zq_q n P (zq_cmp P O N d nl)) O N d md ex sk so ek eo r) f arg r).1) Z n, A', F')) : wX_compute_28 post f arg cp (nI n) d nl md ex sk so ek eo lf P O V N M R Z A F := by
  unfold wX_compute_28
  refine zx_miss (zq_br (fun g => zx_mark hN hn (zx_loop hf hn hN ?_ hS (zq_ms_f g) (fun F' => h2 g _ F'))) (fun g => h1 g))
  intro j hj
  exact zq_mk_lt n hj
end ZQK
