section ZQE
/-! the reference's private methods -/
variable {cp d nl md ex sk so ek eo lf f arg : Int32} {P O V N M Z A F : Nat → Int32} {R : Nat → Int64} {n a b r s i : Nat}
theorem zq_in (h : a < 32) : vp_in (nI a) 32 := vp_in_nI h (by omega)
theorem zq_cl (h : a < 32) : (nI a).toNatClampNeg = a := nI_clamp (by omega)
theorem zy_cmp {post : Int32 → Prop} (ha : a < 32) (hb : b < 32) (hp : post (zq_cmp P O N d nl a b)) : wpY_cmp post (cp, nI n, d, nl, md, ex, sk, so, ek, eo, lf, P, O, V, N, M, R, Z) (nI a) (nI b) := by
  have ia := zq_in ha
  have ib := zq_in hb
  unfold wpY_cmp wY_cmp_65 wY_cmp_148
  dsimp only
  rw [zq_cl ha, zq_cl hb]
  unfold zq_cmp at hp
  refine ⟨ia, ib, br_c (fun h1 => br_c (fun h2 => zq_p hp ?_) (fun h2 => ⟨ia, br_c (fun h3 => ⟨ia, br_c (fun h4 => ⟨ib, br_c (fun h5 => ⟨ia, ib, br_c (fun h6 => zq_p hp ?_) (fun h6 => ⟨ia, ib, br_c (fun h7 => br_c (fun h8 => br_c (fun h9 => zq_p hp ?_) (fun h9 => absurd rfl h9)) (fun h8 => br_c (fun h9 => zq_p hp ?_) (fun h9 => absurd rfl h9))) (fun h7 => br_c (fun h8 => br_c (fun h9 => absurd h9 zq_n10) (fun h9 => zq_p hp ?_)) (fun h8 => br_c (fun h9 => absurd h9 zq_n10) (fun h9 => zq_p hp ?_)))⟩)⟩) (fun h5 => br_c (fun h6 => zq_p hp ?_) (fun h6 => zq_p hp ?_))⟩) (fun h4 => absurd h3 h4)⟩) (fun h3 => ⟨ib, br_c (fun h4 => ⟨ia, br_c (fun h5 => absurd h5 h3) (fun h5 => br_c (fun h6 => zq_p hp ?_) (fun h6 => zq_p hp ?_))⟩) (fun h4 => zq_p hp ?_)⟩)⟩)) (fun h1 => ⟨ia, ib, br_c (fun h2 => zq_p hp ?_) (fun h2 => zq_p hp ?_)⟩)⟩
  · rw [if_pos h1, if_pos h2]
  · rw [if_pos h1, if_neg h2, if_pos h3, if_pos h5, if_pos h6]
  · rw [if_pos h1, if_neg h2, if_pos h3, if_pos h5, if_neg h6, if_neg (Int32.not_lt.mpr h7), if_pos h8]
  · rw [if_pos h1, if_neg h2, if_pos h3, if_pos h5, if_neg h6, if_neg (Int32.not_lt.mpr h7), if_neg h8]
  · rw [if_pos h1, if_neg h2, if_pos h3, if_pos h5, if_neg h6, if_pos (Int32.not_le.mp h7), if_pos h8]
  · rw [if_pos h1, if_neg h2, if_pos h3, if_pos h5, if_neg h6, if_pos (Int32.not_le.mp h7), if_neg h8]
  · rw [if_pos h1, if_neg h2, if_pos h3, if_neg h5, if_pos h6]
  · rw [if_pos h1, if_neg h2, if_pos h3, if_neg h5, if_neg h6]
  · rw [if_pos h1, if_neg h2, if_neg h3, if_pos h4, if_pos h6]
  · rw [if_pos h1, if_neg h2, if_neg h3, if_pos h4, if_neg h6]
  · rw [if_pos h1, if_neg h2, if_neg h3, if_neg h4]
  · rw [if_neg h1, if_neg (Int32.not_lt.mpr h2)]
  · rw [if_neg h1, if_pos (Int32.not_le.mp h2)]
theorem zy_before {post : Int32 → Prop} (ha : a < 32) (hb : b < 32) (hp : post (zq_b (zq_bef (zq_cmp P O N d nl) a b))) : wpY_before post (cp, nI n, d, nl, md, ex, sk, so, ek, eo, lf, P, O, V, N, M, R, Z) (nI a) (nI b) := by
  unfold wpY_before
  dsimp only
  refine zy_cmp ha hb ?_
  unfold zq_bef at hp
  refine br_c (fun h => br_c (fun g => zq_p hp ?_) (fun g => zq_p hp ?_)) (fun h => br_c (fun g => zq_p hp ?_) (fun g => zq_p hp ?_))
  · have g' := (nI_leI (a := b) (b := a) (by omega) (by omega)).mp g
    rw [if_pos h, decide_eq_false (by omega), zq_bf]
  · have g' : ¬ b ≤ a := fun z => g ((nI_leI (a := b) (b := a) (by omega) (by omega)).mpr z)
    rw [if_pos h, decide_eq_true (by omega), zq_bt]
  · rw [if_neg h, decide_eq_false (Int32.not_lt.mpr g), zq_bf]
  · rw [if_neg h, decide_eq_true (Int32.not_le.mp g), zq_bt]
theorem zy_pos {post : Int32 → Prop} (hn : n ≤ 32) (hr : r < 32) (hp : post ((zq_q n P (zq_cmp P O N d nl)) r)) : wpY_pos post (cp, nI n, d, nl, md, ex, sk, so, ek, eo, lf, P, O, V, N, M, R, Z) (nI r) := by
  unfold wpY_pos
  dsimp only
  refine zq_lp (W := fun m i => wY_pos_4 post (nI r) cp (nI n) d nl md ex sk so ek eo lf P O V N M R Z m (nI (zq_cn (zq_pp P (zq_cmp P O N d nl) r) i)) (nI i)) n (fun m => ?_) (fun m i hi ih => ?_)
  · exact br_t (nI_le (Nat.le_refl n) (by omega)) hp
  · rw [wY_pos_4]
    dsimp only
    rw [zq_cl hr, zq_cl (show i < 32 by omega)]
    refine br_f (nI_ge hi (by omega)) ⟨zq_in (by omega), zq_in hr, br_c (fun h => zy_before (by omega) hr (zq_br (fun g => nm_r (nI_1 i) ?_) (fun g => nm_r (nI_1 _) (nm_r (nI_1 i) ?_)))) (fun h => nm_r (nI_1 i) ?_)⟩
    · rw [zq_cn_f (show zq_pp P (zq_cmp P O N d nl) r i = false by simp [zq_pp, g])] at ih; exact ih
    · rw [zq_cn_t (show zq_pp P (zq_cmp P O N d nl) r i = true by simp [zq_pp, h, g])] at ih; exact ih
    · rw [zq_cn_f (show zq_pp P (zq_cmp P O N d nl) r i = false by simp [zq_pp, h])] at ih; exact ih
theorem zy_startOk {post : Int32 → Prop} (hn : n ≤ 32) (hs : s < 32) (hr : r < 32) (hp : post (zq_b (zq_ys (zq_cmp P O N d nl) (zq_q n P (zq_cmp P O N d nl)) O N d md sk so s r))) : wpY_startOk post (cp, nI n, d, nl, md, ex, sk, so, ek, eo, lf, P, O, V, N, M, R, Z) (nI s) (nI r) := by
  have is := zq_in hs
  have ir := zq_in hr
  unfold wpY_startOk wY_startOk_115
  dsimp only
  rw [zq_cl hs, zq_cl hr]
  unfold zq_ys at hp
  refine br_c (fun h0 => zq_p hp ?_) (fun h0 => br_c (fun hm => zy_pos hn hs (zy_pos hn hr (br_c (fun k1 => br_c (fun g => zq_p hp ?_) (fun g => zq_p hp ?_)) (fun k1 => br_c (fun k3 => br_c (fun g => zq_p hp ?_) (fun g => zq_p hp ?_)) (fun k3 => br_c (fun g => zq_p hp ?_) (fun g => zq_p hp ?_)))))) (fun hm => br_c (fun k2 => zy_cmp hs hr (br_c (fun g => zq_p hp ?_) (fun g => zq_p hp ?_))) (fun k2 => ⟨ir, br_c (fun nr => ⟨is, br_c (fun ns => ⟨ir, nm_e ⟨is, nm_e (br_c (fun d1 => br_c (fun k1 => br_c (fun g => zq_p hp ?_) (fun g => zq_p hp ?_)) (fun k1 => br_c (fun g => zq_p hp ?_) (fun g => zq_p hp ?_))) (fun d1 => br_c (fun k1 => br_c (fun g => zq_p hp ?_) (fun g => zq_p hp ?_)) (fun k1 => br_c (fun g => zq_p hp ?_) (fun g => zq_p hp ?_))))⟩⟩) (fun ns => zq_p hp ?_)⟩) (fun nr => zy_cmp hs hr (br_c (fun g => zq_p hp ?_) (fun g => zq_p hp ?_)))⟩)))
  · rw [if_pos h0, zq_bt]
  · rw [if_neg h0, if_pos hm, if_pos k1, decide_eq_false (Int64.not_le.mpr g), zq_bf]
  · rw [if_neg h0, if_pos hm, if_pos k1, decide_eq_true (Int64.not_lt.mp g), zq_bt]
  · rw [if_neg h0, if_pos hm, if_neg k1, if_pos k3, decide_eq_false (Int64.not_le.mpr g), zq_bf]
  · rw [if_neg h0, if_pos hm, if_neg k1, if_pos k3, decide_eq_true (Int64.not_lt.mp g), zq_bt]
  · rw [if_neg h0, if_pos hm, if_neg k1, if_neg k3, decide_eq_false (Int64.not_le.mpr g), zq_bf]
  · rw [if_neg h0, if_pos hm, if_neg k1, if_neg k3, decide_eq_true (Int64.not_lt.mp g), zq_bt]
  · rw [if_neg h0, if_neg hm, if_pos k2, decide_eq_false (Int32.not_le.mpr g), zq_bf]
  · rw [if_neg h0, if_neg hm, if_pos k2, decide_eq_true (Int32.not_lt.mp g), zq_bt]
  · rw [if_neg h0, if_neg hm, if_neg k2, if_pos nr, if_pos ns, if_pos d1, if_pos k1, decide_eq_false (Int64.not_le.mpr g), zq_bf]
  · rw [if_neg h0, if_neg hm, if_neg k2, if_pos nr, if_pos ns, if_pos d1, if_pos k1, decide_eq_true (Int64.not_lt.mp g), zq_bt]
  · rw [if_neg h0, if_neg hm, if_neg k2, if_pos nr, if_pos ns, if_pos d1, if_neg k1, decide_eq_false (Int64.not_le.mpr g), zq_bf]
  · rw [if_neg h0, if_neg hm, if_neg k2, if_pos nr, if_pos ns, if_pos d1, if_neg k1, decide_eq_true (Int64.not_lt.mp g), zq_bt]
  · rw [if_neg h0, if_neg hm, if_neg k2, if_pos nr, if_pos ns, if_neg d1, if_pos k1, decide_eq_false (Int64.not_le.mpr g), zq_bf]
  · rw [if_neg h0, if_neg hm, if_neg k2, if_pos nr, if_pos ns, if_neg d1, if_pos k1, decide_eq_true (Int64.not_lt.mp g), zq_bt]
  · rw [if_neg h0, if_neg hm, if_neg k2, if_pos nr, if_pos ns, if_neg d1, if_neg k1, decide_eq_false (Int64.not_le.mpr g), zq_bf]
  · rw [if_neg h0, if_neg hm, if_neg k2, if_pos nr, if_pos ns, if_neg d1, if_neg k1, decide_eq_true (Int64.not_lt.mp g), zq_bt]
  · rw [if_neg h0, if_neg hm, if_neg k2, if_pos nr, if_neg ns, zq_bf]
  · rw [if_neg h0, if_neg hm, if_neg k2, if_neg nr, decide_eq_false (Int32.not_le.mpr g), zq_bf]
  · rw [if_neg h0, if_neg hm, if_neg k2, if_neg nr, decide_eq_true (Int32.not_lt.mp g), zq_bt]
theorem zy_endOk {post : Int32 → Prop} (hn : n ≤ 32) (hs : s < 32) (hr : r < 32) (hp : post (zq_b (zq_ye (zq_cmp P O N d nl) (zq_q n P (zq_cmp P O N d nl)) O N d md ek eo s r))) : wpY_endOk post (cp, nI n, d, nl, md, ex, sk, so, ek, eo, lf, P, O, V, N, M, R, Z) (nI s) (nI r) := by
  have is := zq_in hs
  have ir := zq_in hr
  unfold wpY_endOk wY_endOk_116
  dsimp only
  rw [zq_cl hs, zq_cl hr]
  unfold zq_ye at hp
  refine br_c (fun h0 => zq_p hp ?_) (fun h0 => br_c (fun hm => zy_pos hn hs (zy_pos hn hr (br_c (fun k1 => br_c (fun g => zq_p hp ?_) (fun g => zq_p hp ?_)) (fun k1 => br_c (fun k3 => br_c (fun g => zq_p hp ?_) (fun g => zq_p hp ?_)) (fun k3 => br_c (fun g => zq_p hp ?_) (fun g => zq_p hp ?_)))))) (fun hm => br_c (fun k2 => zy_cmp hs hr (br_c (fun g => zq_p hp ?_) (fun g => zq_p hp ?_))) (fun k2 => ⟨ir, br_c (fun nr => ⟨is, br_c (fun ns => ⟨ir, nm_e ⟨is, nm_e (br_c (fun d1 => br_c (fun k1 => br_c (fun g => zq_p hp ?_) (fun g => zq_p hp ?_)) (fun k1 => br_c (fun g => zq_p hp ?_) (fun g => zq_p hp ?_))) (fun d1 => br_c (fun k1 => br_c (fun g => zq_p hp ?_) (fun g => zq_p hp ?_)) (fun k1 => br_c (fun g => zq_p hp ?_) (fun g => zq_p hp ?_))))⟩⟩) (fun ns => zq_p hp ?_)⟩) (fun nr => zy_cmp hs hr (br_c (fun g => zq_p hp ?_) (fun g => zq_p hp ?_)))⟩)))
  · rw [if_pos h0, zq_bt]
  · rw [if_neg h0, if_pos hm, if_pos k1, decide_eq_false (Int64.not_le.mpr g), zq_bf]
  · rw [if_neg h0, if_pos hm, if_pos k1, decide_eq_true (Int64.not_lt.mp g), zq_bt]
  · rw [if_neg h0, if_pos hm, if_neg k1, if_pos k3, decide_eq_false (Int64.not_le.mpr g), zq_bf]
  · rw [if_neg h0, if_pos hm, if_neg k1, if_pos k3, decide_eq_true (Int64.not_lt.mp g), zq_bt]
  · rw [if_neg h0, if_pos hm, if_neg k1, if_neg k3, decide_eq_false (Int64.not_le.mpr g), zq_bf]
  · rw [if_neg h0, if_pos hm, if_neg k1, if_neg k3, decide_eq_true (Int64.not_lt.mp g), zq_bt]
  · rw [if_neg h0, if_neg hm, if_pos k2, decide_eq_false (Int32.not_le.mpr g), zq_bf]
  · rw [if_neg h0, if_neg hm, if_pos k2, decide_eq_true (Int32.not_lt.mp g), zq_bt]
  · rw [if_neg h0, if_neg hm, if_neg k2, if_pos nr, if_pos ns, if_pos d1, if_pos k1, decide_eq_false (Int64.not_le.mpr g), zq_bf]
  · rw [if_neg h0, if_neg hm, if_neg k2, if_pos nr, if_pos ns, if_pos d1, if_pos k1, decide_eq_true (Int64.not_lt.mp g), zq_bt]
  · rw [if_neg h0, if_neg hm, if_neg k2, if_pos nr, if_pos ns, if_pos d1, if_neg k1, decide_eq_false (Int64.not_le.mpr g), zq_bf]
  · rw [if_neg h0, if_neg hm, if_neg k2, if_pos nr, if_pos ns, if_pos d1, if_neg k1, decide_eq_true (Int64.not_lt.mp g), zq_bt]
  · rw [if_neg h0, if_neg hm, if_neg k2, if_pos nr, if_pos ns, if_neg d1, if_pos k1, decide_eq_false (Int64.not_le.mpr g), zq_bf]
  · rw [if_neg h0, if_neg hm, if_neg k2, if_pos nr, if_pos ns, if_neg d1, if_pos k1, decide_eq_true (Int64.not_lt.mp g), zq_bt]
  · rw [if_neg h0, if_neg hm, if_neg k2, if_pos nr, if_pos ns, if_neg d1, if_neg k1, decide_eq_false (Int64.not_le.mpr g), zq_bf]
  · rw [if_neg h0, if_neg hm, if_neg k2, if_pos nr, if_pos ns, if_neg d1, if_neg k1, decide_eq_true (Int64.not_lt.mp g), zq_bt]
  · rw [if_neg h0, if_neg hm, if_neg k2, if_pos nr, if_neg ns, zq_bf]
  · rw [if_neg h0, if_neg hm, if_neg k2, if_neg nr, decide_eq_false (Int32.not_le.mpr g), zq_bf]
  · rw [if_neg h0, if_neg hm, if_neg k2, if_neg nr, decide_eq_true (Int32.not_lt.mp g), zq_bt]
theorem zy_inFrame {post : Int32 → Prop} (hn : n ≤ 32) (hs : s < 32) (hr : r < 32) (hp : post (zq_b (zq_yf P (zq_cmp P O N d nl) (zq_q n P (zq_cmp P O N d nl)) O N d md ex sk so ek eo r s))) : wpY_inFrame post (cp, nI n, d, nl, md, ex, sk, so, ek, eo, lf, P, O, V, N, M, R, Z) (nI s) (nI r) := by
  unfold wpY_inFrame wY_inFrame_52 wY_inFrame_71
  dsimp only
  rw [zq_cl hs, zq_cl hr]
  refine ⟨zq_in hs, zq_in hr, br_c (fun hP => zy_startOk hn hs hr (zq_br (fun g1 => zq_p hp ?_) (fun g1 => zy_endOk hn hs hr (zq_br (fun g2 => zq_p hp ?_) (fun g2 => ?_))))) (fun hP => zq_p hp ?_)⟩
  · unfold zq_yf; rw [g1, Bool.false_and, Bool.and_false, zq_bf]
  · unfold zq_yf; rw [g2, Bool.false_and, Bool.and_false, Bool.and_false, zq_bf]
  · have hq : post (zq_b (!(zq_xx ex (zq_cmp P O N d nl) s r))) := zq_p hp (by unfold zq_yf; rw [decide_eq_true hP, g1, g2, Bool.true_and, Bool.true_and, Bool.true_and])
    clear hp
    have e0 : nI s = nI r ↔ s = r := nI_eq (by omega) (by omega)
    unfold zq_xx at hq
    by_cases e1 : ex = 1
    · have n2 : ¬ ex = 2 := by rw [e1]; decide
      have n3 : ¬ ex = 3 := by rw [e1]; decide
      refine br_t e1 (br_c (fun g => zq_p hq ?_) (fun g => br_f n2 (br_f n3 (zq_p hq ?_))))
      · rw [if_pos e1, decide_eq_true (e0.mp g)]; rfl
      · rw [if_pos e1, decide_eq_false (fun z => g (e0.mpr z))]; rfl
    · refine br_f e1 ?_
      by_cases e2 : ex = 2
      · have n3 : ¬ ex = 3 := by rw [e2]; decide
        refine br_t e2 (zy_cmp hs hr (br_c (fun g => zq_p hq ?_) (fun g => br_f n3 (zq_p hq ?_))))
        · rw [if_neg e1, if_pos e2, decide_eq_true g]; rfl
        · rw [if_neg e1, if_pos e2, decide_eq_false g]; rfl
      · refine br_f e2 ?_
        by_cases e3 : ex = 3
        · refine br_t e3 (zy_cmp hs hr (br_c (fun g => br_c (fun k => zq_p hq ?_) (fun k => zq_p hq ?_)) (fun g => zq_p hq ?_)))
          · rw [if_neg e1, if_neg e2, if_pos e3, decide_eq_true (e0.mp k)]; rfl
          · rw [if_neg e1, if_neg e2, if_pos e3, decide_eq_false (fun z => k (e0.mpr z)), decide_eq_true g]; rfl
          · rw [if_neg e1, if_neg e2, if_pos e3, decide_eq_false g, Bool.and_false]; rfl
        · refine br_f e3 (zq_p hq ?_)
          rw [if_neg e1, if_neg e2, if_neg e3]; rfl
  · unfold zq_yf; rw [decide_eq_false hP, Bool.false_and, zq_bf]
theorem zy_leader {post : Int32 → Prop} (hs : s < 32) (hp : post (zq_b (zq_ld (zq_cmp P O N d nl) s))) : wpY_leader post (cp, nI n, d, nl, md, ex, sk, so, ek, eo, lf, P, O, V, N, M, R, Z) (nI s) := by
  unfold wpY_leader
  dsimp only
  obtain ⟨m, hm⟩ := zq_lp (W := fun m i => (∀ j, j < i → (fun t => decide (zq_cmp P O N d nl t s = 0)) j = false) → wY_leader_2 post (nI s) cp (nI n) d nl md ex sk so ek eo lf P O V N M R Z m (nI i)) s (fun m hj => br_t (nI_le (Nat.le_refl s) (by omega)) (zq_p hp (by unfold zq_ld; rw [zq_fd_n s hj]; rfl))) (fun m i hi ih hj => by
    refine br_f (nI_ge hi (by omega)) (zy_cmp (by omega) hs (br_c (fun g => zq_p hp ?_) (fun g => nm_r (nI_1 i) (ih ?_))))
    · unfold zq_ld
      rw [zq_fd_s hj (decide_eq_true g) s hi]; rfl
    · intro j hj'
      by_cases e : j = i
      · rw [e]; exact decide_eq_false g
      · exact hj j (by omega))
  exact ⟨m, hm (fun j hj => absurd hj (Nat.not_lt_zero j))⟩
theorem zq_nb0 : vp_nar .boolean 0 = 0 := by decide
theorem zq_nb1 : vp_nar .boolean 1 = 1 := by decide
theorem zy_set0 {post : SY → Prop} {v : Int64} (hr : r < 32) (hp : post (cp, nI n, d, nl, md, ex, sk, so, ek, eo, lf, P, O, V, N, M, vp_updL R r v, upd Z r 0)) : wpY_setRes post (cp, nI n, d, nl, md, ex, sk, so, ek, eo, lf, P, O, V, N, M, R, Z) (nI r) 0 v := by
  unfold wpY_setRes
  dsimp only
  rw [zq_cl hr, zq_nb0]
  exact ⟨zq_in hr, nm_e (br_t rfl ⟨zq_in hr, nm_e hp⟩)⟩
theorem zy_set1 {post : SY → Prop} {v : Int64} (hr : r < 32) (hp : post (cp, nI n, d, nl, md, ex, sk, so, ek, eo, lf, P, O, V, N, M, vp_updL R r 0, upd Z r 1)) : wpY_setRes post (cp, nI n, d, nl, md, ex, sk, so, ek, eo, lf, P, O, V, N, M, R, Z) (nI r) 1 v := by
  unfold wpY_setRes
  dsimp only
  rw [zq_cl hr, zq_nb1]
  exact ⟨zq_in hr, nm_e (br_f zq_n10 ⟨zq_in hr, nm_e hp⟩)⟩
end ZQE
