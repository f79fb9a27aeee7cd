section ZQI
/-! the class's private methods that read -/
variable {cp d nl md ex sk so ek eo lf f arg : Int32} {P O V N M Z A F : Nat → Int32} {R : Nat → Int64} {n a b r s i : Nat}
variable {fr : Nat → Bool} {k o : Int32}
theorem zx_cmp {post : Int32 → Prop} (hN : ∀ i, N i = 0 ∨ N i = 1) (ha : a < 32) (hb : b < 32) (hp : post (zq_cmp P O N d nl a b)) : wpX_compareKeys post (cp, nI n, d, nl, md, ex, sk, so, ek, eo, lf, P, O, V, N, M, R, Z, A, F) (nI a) (nI b) := by
  have ia := zq_in ha
  have ib := zq_in hb
  unfold wpX_compareKeys wX_compareKeys_134 wX_compareKeys_147 wX_compareKeys_79
  dsimp only
  rw [zq_cl ha, zq_cl hb]
  unfold zq_cmp at hp
  refine ⟨ia, ib, br_c (fun h1 => br_c (fun h2 => zq_p hp ?_) (fun h2 => ⟨ia, ib, br_c (fun h3 => ⟨ia, br_c (fun h4 => ⟨ia, ib, br_c (fun h5 => zq_p hp ?_) (fun h5 => ⟨ia, ib, br_c (fun h6 => br_c (fun h7 => br_f zq_n01 (zq_p hp ?_)) (fun h7 => br_t rfl (zq_p hp ?_))) (fun h6 => br_c (fun h7 => br_t rfl (zq_p hp ?_)) (fun h7 => br_f zq_n10 (zq_p hp ?_)))⟩)⟩) (fun h4 => zq_p hp ?_)⟩) (fun h3 => ⟨ia, br_c (fun h4 => br_c (fun h5 => zq_p hp ?_) (fun h5 => zq_p hp ?_)) (fun h4 => br_c (fun h5 => zq_p hp ?_) (fun h5 => zq_p hp ?_))⟩)⟩)) (fun h1 => ⟨ia, ib, br_c (fun h2 => zq_p hp ?_) (fun h2 => zq_p hp ?_)⟩)⟩
  · rw [if_pos h1, if_pos h2]
  · rw [if_pos h1, if_neg h2, if_pos h4, if_pos (h3.symm.trans h4), if_pos h5]
  · rw [if_pos h1, if_neg h2, if_pos h4, if_pos (h3.symm.trans h4), if_neg h5, if_neg (Int32.not_lt.mpr h6), if_pos h7]
  · rw [if_pos h1, if_neg h2, if_pos h4, if_pos (h3.symm.trans h4), if_neg h5, if_neg (Int32.not_lt.mpr h6), if_neg h7]
  · rw [if_pos h1, if_neg h2, if_pos h4, if_pos (h3.symm.trans h4), if_neg h5, if_pos (Int32.not_le.mp h6), if_pos h7]
  · rw [if_pos h1, if_neg h2, if_pos h4, if_pos (h3.symm.trans h4), if_neg h5, if_pos (Int32.not_le.mp h6), if_neg h7]
  · rw [if_pos h1, if_neg h2, if_neg h4, if_neg (fun z => h4 (h3.trans z))]
  · have na : ¬ N a = 0 := by rw [h5]; exact zq_n10
    have nb : N b = 0 := (hN b).resolve_right (fun z => h3 (h5.trans z.symm))
    rw [if_pos h1, if_neg h2, if_neg na, if_pos nb, if_pos h4]
  · have na : N a = 0 := (hN a).resolve_right h5
    have nb : ¬ N b = 0 := fun z => h3 (na.trans z.symm)
    rw [if_pos h1, if_neg h2, if_pos na, if_neg nb, if_pos h4]
  · have nb : ¬ N b = 0 := fun z => h3 (h5.trans z.symm)
    rw [if_pos h1, if_neg h2, if_pos h5, if_neg nb, if_neg h4]
  · have n1 : N a = 1 := (hN a).resolve_left h5
    have nb : N b = 0 := (hN b).resolve_right (fun z => h3 (n1.trans z.symm))
    rw [if_pos h1, if_neg h2, if_neg h5, if_pos nb, if_neg h4]
  · rw [if_neg h1, if_neg (Int32.not_lt.mpr h2)]
  · rw [if_neg h1, if_pos (Int32.not_le.mp h2)]
theorem zx_before {post : Int32 → Prop} (hN : ∀ i, N i = 0 ∨ N i = 1) (ha : a < 32) (hb : b < 32) (hp : post (zq_b (zq_bef (zq_cmp P O N d nl) a b))) : wpX_comesBefore post (cp, nI n, d, nl, md, ex, sk, so, ek, eo, lf, P, O, V, N, M, R, Z, A, F) (nI a) (nI b) := by
  unfold wpX_comesBefore
  dsimp only
  refine zx_cmp hN ha hb ?_
  unfold zq_bef at hp
  refine br_c (fun h => zq_p hp ?_) (fun h => br_c (fun h0 => br_c (fun g => zq_p hp ?_) (fun g => zq_p hp ?_)) (fun h0 => zq_p hp ?_))
  · rw [if_neg (fun z => by rw [z] at h; exact absurd h (by decide)), decide_eq_true h, zq_bt]
  · have g' := (nI_leI (a := b) (b := a) (by omega) (by omega)).mp g
    rw [if_pos h0, decide_eq_false (by omega), zq_bf]
  · have g' : ¬ b ≤ a := fun z => g ((nI_leI (a := b) (b := a) (by omega) (by omega)).mpr z)
    rw [if_pos h0, decide_eq_true (by omega), zq_bt]
  · rw [if_neg h0, decide_eq_false h, zq_bf]
theorem zx_key {post : Int32 → Prop} (hN : ∀ i, N i = 0 ∨ N i = 1) (hs : s < 32) (hr : r < 32) (hp : post (zq_b (zq_rk P (zq_cmp P O N d nl) r s))) : wpX_isKeyBefore post (cp, nI n, d, nl, md, ex, sk, so, ek, eo, lf, P, O, V, N, M, R, Z, A, F) (nI s) (nI r) := by
  unfold wpX_isKeyBefore
  dsimp only
  rw [zq_cl hs, zq_cl hr]
  refine ⟨zq_in hs, zq_in hr, br_c (fun h => zx_cmp hN hs hr (br_c (fun g => zq_p hp ?_) (fun g => zq_p hp ?_))) (fun h => zq_p hp ?_)⟩
  · unfold zq_rk; rw [decide_eq_false (Int32.not_lt.mpr g), Bool.and_false, zq_bf]
  · unfold zq_rk; rw [decide_eq_true h, decide_eq_true (Int32.not_le.mp g)]; rfl
  · unfold zq_rk; rw [decide_eq_false h, Bool.false_and, zq_bf]
theorem zx_pos {post : Int32 → Prop} (hN : ∀ i, N i = 0 ∨ N i = 1) (hn : n ≤ 32) (hr : r < 32) (hp : post ((zq_q n P (zq_cmp P O N d nl)) r)) : wpX_partitionRowsBefore post (cp, nI n, d, nl, md, ex, sk, so, ek, eo, lf, P, O, V, N, M, R, Z, A, F) (nI r) := by
  unfold wpX_partitionRowsBefore
  dsimp only
  refine zq_lp (W := fun m i => wX_partitionRowsBefore_4 post (nI r) cp (nI n) d nl md ex sk so ek eo lf P O V N M R Z A F m (nI (zq_cn (zq_pp P (zq_cmp P O N d nl) r) i)) (nI i)) n (fun m => ?_) (fun m i hi ih => ?_)
  · exact br_t (nI_le (Nat.le_refl n) (by omega)) hp
  · rw [wX_partitionRowsBefore_4]
    dsimp only
    rw [zq_cl hr, zq_cl (show i < 32 by omega)]
    refine br_f (nI_ge hi (by omega)) ⟨zq_in (by omega), zq_in hr, br_c (fun h => zx_before hN (by omega) hr (zq_br (fun g => nm_r (nI_1 i) ?_) (fun g => nm_r (nI_1 _) (nm_r (nI_1 i) ?_)))) (fun h => nm_r (nI_1 i) ?_)⟩
    · rw [zq_cn_f (show zq_pp P (zq_cmp P O N d nl) r i = false by simp [zq_pp, g])] at ih; exact ih
    · rw [zq_cn_t (show zq_pp P (zq_cmp P O N d nl) r i = true by simp [zq_pp, h, g])] at ih; exact ih
    · rw [zq_cn_f (show zq_pp P (zq_cmp P O N d nl) r i = false by simp [zq_pp, h])] at ih; exact ih
theorem zx_rb {post : Int32 → Prop} (hN : ∀ i, N i = 0 ∨ N i = 1) (hn : n ≤ 32) (hr : r < 32) (hp : post (nI (zq_rb (zq_cmp P O N d nl) n r))) : wpX_rowsBefore post (cp, nI n, d, nl, md, ex, sk, so, ek, eo, lf, P, O, V, N, M, R, Z, A, F) (nI r) := by
  unfold wpX_rowsBefore
  dsimp only
  refine zq_lp (W := fun m i => wX_rowsBefore_4 post (nI r) cp (nI n) d nl md ex sk so ek eo lf P O V N M R Z A F m (nI (zq_cn (fun s => zq_bef (zq_cmp P O N d nl) s r) i)) (nI i)) n (fun m => ?_) (fun m i hi ih => ?_)
  · exact br_t (nI_le (Nat.le_refl n) (by omega)) hp
  · refine br_f (nI_ge hi (by omega)) (zx_before hN (by omega) hr (zq_br (fun g => nm_r (nI_1 i) ?_) (fun g => nm_r (nI_1 _) (nm_r (nI_1 i) ?_))))
    · rw [zq_cn_f (p := fun s => zq_bef (zq_cmp P O N d nl) s r) g] at ih; exact ih
    · rw [zq_cn_t (p := fun s => zq_bef (zq_cmp P O N d nl) s r) g] at ih; exact ih
theorem zx_rowAt {post : Int32 → Prop} {p : Int32} (hN : ∀ i, N i = 0 ∨ N i = 1) (hn : n ≤ 32) (hp : post (zq_o (zq_fd (zq_ra (zq_cmp P O N d nl) n p) n))) : wpX_rowAt post (cp, nI n, d, nl, md, ex, sk, so, ek, eo, lf, P, O, V, N, M, R, Z, A, F) p := by
  unfold wpX_rowAt
  dsimp only
  obtain ⟨m, hm⟩ := zq_lp (W := fun m i => (∀ j, j < i → zq_ra (zq_cmp P O N d nl) n p j = false) → wX_rowAt_2 post p cp (nI n) d nl md ex sk so ek eo lf P O V N M R Z A F m (nI i)) n (fun m hj => br_t (nI_le (Nat.le_refl n) (by omega)) (zq_p hp (by rw [zq_fd_n n hj]; rfl))) (fun m i hi ih hj => br_f (nI_ge hi (by omega)) (zx_rb hN hn (by omega) (br_c (fun g => zq_p hp (by rw [zq_fd_s hj (show zq_ra (zq_cmp P O N d nl) n p i = true from decide_eq_true g) n hi]; rfl)) (fun g => nm_r (nI_1 i) (ih (fun j hj' => by
      by_cases e : j = i
      · rw [e]; exact decide_eq_false g
      · exact hj j (by omega)))))))
  exact ⟨m, hm (fun j hj => absurd hj (Nat.not_lt_zero j))⟩
theorem zx_mark {post : SX → Prop} (hN : ∀ i, N i = 0 ∨ N i = 1) (hn : n ≤ 32) (hp : post (cp, nI n, d, nl, md, ex, sk, so, ek, eo, lf, P, O, V, N, M, R, Z, zq_mk (zq_q n P (zq_cmp P O N d nl)) A n, F)) : wpX_markPositions post (cp, nI n, d, nl, md, ex, sk, so, ek, eo, lf, P, O, V, N, M, R, Z, A, F) := by
  unfold wpX_markPositions
  dsimp only
  refine zq_lp (W := fun m i => wX_markPositions_2 post cp (nI n) d nl md ex sk so ek eo lf m (nI i) P O V N M R Z (zq_mk (zq_q n P (zq_cmp P O N d nl)) A i) F) n (fun m => ?_) (fun m i hi ih => ?_)
  · exact br_t (nI_le (Nat.le_refl n) (by omega)) hp
  · rw [wX_markPositions_2]
    dsimp only
    rw [zq_cl (show i < 32 by omega)]
    exact br_f (nI_ge hi (by omega)) (zx_pos hN hn (by omega) ⟨zq_in (by omega), nm_e (nm_r (nI_1 i) ih)⟩)
theorem zx_to {post : Int32 → Prop} (hp : post (zq_b (zq_to k))) : wpX_takesOffset post k := by
  unfold zq_to at hp
  refine br_c (fun h => zq_p hp ?_) (fun h => br_c (fun g => zq_p hp ?_) (fun g => zq_p hp ?_))
  · rw [decide_eq_true h, Bool.true_or, zq_bt]
  · rw [decide_eq_true g, Bool.or_true, zq_bt]
  · rw [decide_eq_false h, decide_eq_false g]; rfl
def zq_ms (d md sk ek : Int32) : Bool := decide (md = 1) && (decide (d = 0) && (zq_to sk || zq_to ek))
theorem zx_miss {post : Int32 → Prop} (hp : post (zq_b (zq_ms d md sk ek))) : wpX_needsMissingOrder post (cp, nI n, d, nl, md, ex, sk, so, ek, eo, lf, P, O, V, N, M, R, Z, A, F) := by
  unfold wpX_needsMissingOrder
  dsimp only
  unfold zq_ms at hp
  refine br_c (fun h => br_c (fun g => zx_to (zq_br (fun t => zx_to (zq_br (fun t2 => zq_p hp ?_) (fun t2 => zq_p hp ?_))) (fun t => zq_p hp ?_))) (fun g => zq_p hp ?_)) (fun h => zq_p hp ?_)
  · rw [t, t2, Bool.or_false, Bool.and_false, Bool.and_false, zq_bf]
  · rw [decide_eq_true h, decide_eq_true g, t, t2]; rfl
  · rw [decide_eq_true h, decide_eq_true g, t]; rfl
  · rw [decide_eq_false g, Bool.false_and, Bool.and_false, zq_bf]
  · rw [decide_eq_false h, Bool.false_and, zq_bf]
theorem zx_pe {post : Int32 → Prop} (hr : r < 32) (hp : post (zq_b (zq_pe md k N r))) : wpX_isBoundByPeers post (cp, nI n, d, nl, md, ex, sk, so, ek, eo, lf, P, O, V, N, M, R, Z, A, F) k (nI r) := by
  unfold wpX_isBoundByPeers
  dsimp only
  rw [zq_cl hr]
  unfold zq_pe at hp
  refine br_c (fun h => zx_to (zq_br (fun t => zq_p hp ?_) (fun t => ⟨zq_in hr, br_c (fun g => zq_p hp ?_) (fun g => zq_p hp ?_)⟩))) (fun h => zq_p hp ?_)
  · rw [decide_eq_true h, t]; rfl
  · rw [decide_eq_true h, t, decide_eq_true g]; rfl
  · rw [decide_eq_true h, t, decide_eq_false g]; rfl
  · rw [decide_eq_false h, Bool.false_and, zq_bf]
theorem zx_hd {post : Int32 → Prop} (hs : s < 32) (hp : post (zq_b (zq_hd md N s))) : wpX_hasDistance post (cp, nI n, d, nl, md, ex, sk, so, ek, eo, lf, P, O, V, N, M, R, Z, A, F) (nI s) := by
  unfold wpX_hasDistance
  dsimp only
  rw [zq_cl hs]
  unfold zq_hd at hp
  refine br_c (fun h => zq_p hp ?_) (fun h => ⟨zq_in hs, br_c (fun g => zq_p hp ?_) (fun g => zq_p hp ?_)⟩)
  · rw [decide_eq_true h, Bool.true_or, zq_bt]
  · rw [decide_eq_true g, Bool.or_true, zq_bt]
  · rw [decide_eq_false h, decide_eq_false g]; rfl
theorem zx_di {post : Int64 → Prop} (hs : s < 32) (hr : r < 32) (hp : post (zq_di A O d md s r)) : wpX_distance post (cp, nI n, d, nl, md, ex, sk, so, ek, eo, lf, P, O, V, N, M, R, Z, A, F) (nI s) (nI r) := by
  unfold wpX_distance
  dsimp only
  rw [zq_cl hs, zq_cl hr]
  unfold zq_di at hp
  refine br_c (fun h => ⟨zq_in hs, zq_in hr, zq_p hp ?_⟩) (fun h => ⟨zq_in hs, zq_in hr, nm_e (br_c (fun g => zq_p hp ?_) (fun g => zq_p hp ?_))⟩)
  · rw [if_pos h]
  · rw [if_neg h, if_pos g]
  · rw [if_neg h, if_neg g]
theorem zx_re {post : Int64 → Prop} (hp : post (zq_re k o)) : wpX_reach post k o := by
  unfold zq_re at hp
  refine br_c (fun h => zq_p hp ?_) (fun h => zq_p hp ?_)
  · rw [if_pos h]
  · rw [if_neg h]
theorem zx_passesStart {post : Int32 → Prop} (hN : ∀ i, N i = 0 ∨ N i = 1) (hs : s < 32) (hr : r < 32) (hp : post (zq_b (zq_xs (zq_cmp P O N d nl) A O N d md sk so s r))) : wpX_passesStart post (cp, nI n, d, nl, md, ex, sk, so, ek, eo, lf, P, O, V, N, M, R, Z, A, F) (nI s) (nI r) := by
  unfold wpX_passesStart
  dsimp only
  unfold zq_xs at hp
  refine br_c (fun h => zq_p hp ?_) (fun h => zx_pe hr (zq_br (fun t => zx_hd hs (zq_br (fun u => zq_p hp ?_) (fun u => zx_di hs hr (zx_re (br_c (fun g => zq_p hp ?_) (fun g => zq_p hp ?_)))))) (fun t => zx_cmp hN hs hr (br_c (fun g => zq_p hp ?_) (fun g => zq_p hp ?_)))))
  · rw [if_pos h, zq_bt]
  · rw [if_neg h, t, if_neg zq_Bft, u, Bool.false_and, zq_bf]
  · rw [if_neg h, t, if_neg zq_Bft, decide_eq_false (Int64.not_le.mpr g), Bool.and_false, zq_bf]
  · rw [if_neg h, t, if_neg zq_Bft, u, decide_eq_true (Int64.not_lt.mp g)]; rfl
  · rw [if_neg h, t, if_pos rfl, decide_eq_false (Int32.not_le.mpr g), zq_bf]
  · rw [if_neg h, t, if_pos rfl, decide_eq_true (Int32.not_lt.mp g), zq_bt]
theorem zx_passesEnd {post : Int32 → Prop} (hN : ∀ i, N i = 0 ∨ N i = 1) (hs : s < 32) (hr : r < 32) (hp : post (zq_b (zq_xe (zq_cmp P O N d nl) A O N d md ek eo s r))) : wpX_passesEnd post (cp, nI n, d, nl, md, ex, sk, so, ek, eo, lf, P, O, V, N, M, R, Z, A, F) (nI s) (nI r) := by
  unfold wpX_passesEnd
  dsimp only
  unfold zq_xe at hp
  refine br_c (fun h => zq_p hp ?_) (fun h => zx_pe hr (zq_br (fun t => zx_hd hs (zq_br (fun u => zq_p hp ?_) (fun u => zx_di hs hr (zx_re (br_c (fun g => zq_p hp ?_) (fun g => zq_p hp ?_)))))) (fun t => zx_cmp hN hs hr (br_c (fun g => zq_p hp ?_) (fun g => zq_p hp ?_)))))
  · rw [if_pos h, zq_bt]
  · rw [if_neg h, t, if_neg zq_Bft, u, Bool.false_and, zq_bf]
  · rw [if_neg h, t, if_neg zq_Bft, decide_eq_false (Int64.not_le.mpr g), Bool.and_false, zq_bf]
  · rw [if_neg h, t, if_neg zq_Bft, u, decide_eq_true (Int64.not_lt.mp g)]; rfl
  · rw [if_neg h, t, if_pos rfl, decide_eq_false (Int32.not_le.mpr g), zq_bf]
  · rw [if_neg h, t, if_pos rfl, decide_eq_true (Int32.not_lt.mp g), zq_bt]
theorem zx_ex {post : Int32 → Prop} (hN : ∀ i, N i = 0 ∨ N i = 1) (hs : s < 32) (hr : r < 32) (hp : post (zq_b (zq_xx ex (zq_cmp P O N d nl) s r))) : wpX_isExcluded post (cp, nI n, d, nl, md, ex, sk, so, ek, eo, lf, P, O, V, N, M, R, Z, A, F) (nI s) (nI r) := by
  have e0 : nI s = nI r ↔ s = r := nI_eq (by omega) (by omega)
  have o1 : ex < 1 → ¬ ex = 1 := fun h z => by rw [z] at h; exact absurd h (by decide)
  have o2 : ex < 1 → ¬ ex = 2 := fun h z => by rw [z] at h; exact absurd h (by decide)
  have o3 : ex < 1 → ¬ ex = 3 := fun h z => by rw [z] at h; exact absurd h (by decide)
  have p1 : 3 < ex → ¬ ex = 1 := fun h z => by rw [z] at h; exact absurd h (by decide)
  have p2 : 3 < ex → ¬ ex = 2 := fun h z => by rw [z] at h; exact absurd h (by decide)
  have p3 : 3 < ex → ¬ ex = 3 := fun h z => by rw [z] at h; exact absurd h (by decide)
  unfold wpX_isExcluded
  dsimp only
  unfold zq_xx at hp
  refine br_c (fun h => zq_p hp ?_) (fun h => br_c (fun g => zq_p hp ?_) (fun g => br_c (fun e1 => br_c (fun k => zq_p hp ?_) (fun k => zq_p hp ?_)) (fun e1 => br_c (fun e2 => zx_cmp hN hs hr (br_c (fun k => zq_p hp ?_) (fun k => zq_p hp ?_))) (fun e2 => br_c (fun e3 => br_c (fun k => zq_p hp ?_) (fun k => zx_cmp hN hs hr (br_c (fun l => zq_p hp ?_) (fun l => zq_p hp ?_)))) (fun _ => trivial)))))
  · rw [if_neg (o1 h), if_neg (o2 h), if_neg (o3 h), zq_bf]
  · rw [if_neg (p1 g), if_neg (p2 g), if_neg (p3 g), zq_bf]
  · rw [if_pos e1, decide_eq_true (e0.mp k), zq_bt]
  · rw [if_pos e1, decide_eq_false (fun z => k (e0.mpr z)), zq_bf]
  · rw [if_neg e1, if_pos e2, decide_eq_true k, zq_bt]
  · rw [if_neg e1, if_pos e2, decide_eq_false k, zq_bf]
  · rw [if_neg e1, if_neg e2, if_pos e3, decide_eq_true (e0.mp k)]; rfl
  · rw [if_neg e1, if_neg e2, if_pos e3, decide_eq_false (fun z => k (e0.mpr z)), decide_eq_true l]; rfl
  · rw [if_neg e1, if_neg e2, if_pos e3, decide_eq_false l, Bool.and_false, zq_bf]
theorem zx_frame {post : SX → Prop} (hN : ∀ i, N i = 0 ∨ N i = 1) (hn : n ≤ 32) (hr : r < 32) (hp : post (cp, nI n, d, nl, md, ex, sk, so, ek, eo, lf, P, O, V, N, M, R, Z, A, zq_mk (fun s => zq_b (zq_xf P (zq_cmp P O N d nl) A O N d md ex sk so ek eo r s)) F n)) : wpX_markFrame post (cp, nI n, d, nl, md, ex, sk, so, ek, eo, lf, P, O, V, N, M, R, Z, A, F) (nI r) := by
  unfold wpX_markFrame
  dsimp only
  refine zq_lp (W := fun m i => wX_markFrame_2 post (nI r) cp (nI n) d nl md ex sk so ek eo lf m (nI i) P O V N M R Z A (zq_mk (fun s => zq_b (zq_xf P (zq_cmp P O N d nl) A O N d md ex sk so ek eo r s)) F i)) n (fun m => ?_) (fun m i hi ih => ?_)
  · exact br_t (nI_le (Nat.le_refl n) (by omega)) hp
  · have hi' : i < 32 := by omega
    have ii := zq_in hi'
    have h0 : zq_xf P (zq_cmp P O N d nl) A O N d md ex sk so ek eo r i = false → wX_markFrame_2 post (nI r) cp (nI n) d nl md ex sk so ek eo lf m (nI (i + 1)) P O V N M R Z A (upd (zq_mk (fun s => zq_b (zq_xf P (zq_cmp P O N d nl) A O N d md ex sk so ek eo r s)) F i) i 0) := by
      intro e
      have e' : zq_b (zq_xf P (zq_cmp P O N d nl) A O N d md ex sk so ek eo r i) = 0 := by rw [e, zq_bf]
      rw [← e']
      exact ih
    have h1 : zq_xf P (zq_cmp P O N d nl) A O N d md ex sk so ek eo r i = true → wX_markFrame_2 post (nI r) cp (nI n) d nl md ex sk so ek eo lf m (nI (i + 1)) P O V N M R Z A (upd (zq_mk (fun s => zq_b (zq_xf P (zq_cmp P O N d nl) A O N d md ex sk so ek eo r s)) F i) i 1) := by
      intro e
      have e' : zq_b (zq_xf P (zq_cmp P O N d nl) A O N d md ex sk so ek eo r i) = 1 := by rw [e, zq_bt]
      rw [← e']
      exact ih
    rw [wX_markFrame_2]
    dsimp only
    rw [zq_cl hr, zq_cl hi', zq_nb0, zq_nb1]
    refine br_f (nI_ge hi (by omega)) ⟨ii, zq_in hr, br_c (fun hP => zx_passesStart hN hi' hr (zq_br (fun g1 => ⟨ii, nm_e (nm_r (nI_1 i) (h0 ?_))⟩) (fun g1 => zx_passesEnd hN hi' hr (zq_br (fun g2 => ⟨ii, nm_e (nm_r (nI_1 i) (h0 ?_))⟩) (fun g2 => zx_ex hN hi' hr (zq_br (fun g3 => ⟨ii, nm_e (nm_r (nI_1 i) (h1 ?_))⟩) (fun g3 => ⟨ii, nm_e (nm_r (nI_1 i) (h0 ?_))⟩))))))) (fun hP => ⟨ii, nm_e (nm_r (nI_1 i) (h0 ?_))⟩)⟩
    · unfold zq_xf; rw [g1, Bool.false_and, Bool.and_false]
    · unfold zq_xf; rw [g2, Bool.false_and, Bool.and_false, Bool.and_false]
    · unfold zq_xf; rw [decide_eq_true hP, g1, g2, g3]; rfl
    · unfold zq_xf; rw [g3]; simp
    · unfold zq_xf; rw [decide_eq_false hP, Bool.false_and]
theorem zx_peers {post : Int32 → Prop} (hN : ∀ i, N i = 0 ∨ N i = 1) (hs : s < 32) (hp : post (zq_b (zq_ld (zq_cmp P O N d nl) s))) : wpX_isFirstOfItsPeers post (cp, nI n, d, nl, md, ex, sk, so, ek, eo, lf, P, O, V, N, M, R, Z, A, F) (nI s) := by
  unfold wpX_isFirstOfItsPeers
  dsimp only
  obtain ⟨m, hm⟩ := zq_lp (W := fun m i => (∀ j, j < i → (fun t => decide (zq_cmp P O N d nl t s = 0)) j = false) → wX_isFirstOfItsPeers_2 post (nI s) cp (nI n) d nl md ex sk so ek eo lf P O V N M R Z A F m (nI i)) s (fun m hj => br_t (nI_le (Nat.le_refl s) (by omega)) (zq_p hp (by unfold zq_ld; rw [zq_fd_n s hj]; rfl))) (fun m i hi ih hj => by
    refine br_f (nI_ge hi (by omega)) (zx_cmp hN (by omega) hs (br_c (fun g => zq_p hp ?_) (fun g => nm_r (nI_1 i) (ih ?_))))
    · unfold zq_ld
      rw [zq_fd_s hj (decide_eq_true g) s hi]; rfl
    · intro j hj'
      by_cases e : j = i
      · rw [e]; exact decide_eq_false g
      · exact hj j (by omega))
  exact ⟨m, hm (fun j hj => absurd hj (Nat.not_lt_zero j))⟩
theorem zx_rank {post : Int32 → Prop} (hN : ∀ i, N i = 0 ∨ N i = 1) (hn : n ≤ 32) (hr : r < 32) (hp : post (nI (zq_cn (zq_rk P (zq_cmp P O N d nl) r) n + 1))) : wpX_rank post (cp, nI n, d, nl, md, ex, sk, so, ek, eo, lf, P, O, V, N, M, R, Z, A, F) (nI r) := by
  unfold wpX_rank
  dsimp only
  refine zq_lp (W := fun m i => wX_rank_4 post (nI r) cp (nI n) d nl md ex sk so ek eo lf P O V N M R Z A F m (nI (zq_cn (zq_rk P (zq_cmp P O N d nl) r) i + 1)) (nI i)) n (fun m => ?_) (fun m i hi ih => ?_)
  · exact br_t (nI_le (Nat.le_refl n) (by omega)) hp
  · refine br_f (nI_ge hi (by omega)) (zx_key hN (by omega) hr (zq_br (fun g => nm_r (nI_1 i) ?_) (fun g => nm_r (nI_1 _) (nm_r (nI_1 i) ?_))))
    · rw [zq_cn_f g] at ih; exact ih
    · rw [zq_cn_t g] at ih; exact ih
theorem zx_denseRank {post : Int32 → Prop} (hN : ∀ i, N i = 0 ∨ N i = 1) (hn : n ≤ 32) (hr : r < 32) (hp : post (nI (zq_cn (zq_dr P (zq_cmp P O N d nl) r) n + 1))) : wpX_denseRank post (cp, nI n, d, nl, md, ex, sk, so, ek, eo, lf, P, O, V, N, M, R, Z, A, F) (nI r) := by
  unfold wpX_denseRank
  dsimp only
  refine zq_lp (W := fun m i => wX_denseRank_4 post (nI r) cp (nI n) d nl md ex sk so ek eo lf P O V N M R Z A F m (nI (zq_cn (zq_dr P (zq_cmp P O N d nl) r) i + 1)) (nI i)) n (fun m => ?_) (fun m i hi ih => ?_)
  · exact br_t (nI_le (Nat.le_refl n) (by omega)) hp
  · refine br_f (nI_ge hi (by omega)) (zx_key hN (by omega) hr (zq_br (fun g => nm_r (nI_1 i) ?_) (fun g => zx_peers hN (by omega) (zq_br (fun l => nm_r (nI_1 i) ?_) (fun l => nm_r (nI_1 _) (nm_r (nI_1 i) ?_))))))
    · rw [zq_cn_f (show zq_dr P (zq_cmp P O N d nl) r i = false by simp only [zq_dr, g, Bool.false_and])] at ih; exact ih
    · rw [zq_cn_f (show zq_dr P (zq_cmp P O N d nl) r i = false by simp only [zq_dr, l, Bool.and_false])] at ih; exact ih
    · rw [zq_cn_t (show zq_dr P (zq_cmp P O N d nl) r i = true by simp only [zq_dr, g, l, Bool.and_true])] at ih; exact ih
end ZQI
