section ZQF
/-! the reference's evalRow -/
variable {cp d nl md ex sk so ek eo lf f arg : Int32} {P O V N M Z A F : Nat → Int32} {R : Nat → Int64} {n a b r s i : Nat}
theorem zy_fin0 {post : SY → Prop} {x : Bool × Int64} {v : Int64} (e : x = (false, v)) (hp : post (cp, nI n, d, nl, md, ex, sk, so, ek, eo, lf, P, O, V, N, M, vp_updL R r (x).2, upd Z r (zq_b (x).1))) : post (cp, nI n, d, nl, md, ex, sk, so, ek, eo, lf, P, O, V, N, M, vp_updL R r v, upd Z r 0) := by
  rw [e] at hp
  exact hp
theorem zy_fin1 {post : SY → Prop} {x : Bool × Int64} (e : x = (true, 0)) (hp : post (cp, nI n, d, nl, md, ex, sk, so, ek, eo, lf, P, O, V, N, M, vp_updL R r (x).2, upd Z r (zq_b (x).1))) : post (cp, nI n, d, nl, md, ex, sk, so, ek, eo, lf, P, O, V, N, M, vp_updL R r 0, upd Z r 1) := by
  rw [e] at hp
  exact hp
theorem zy_one {post : SY → Prop} (hr : r < 32) (hM : M s = 0 ∨ M s = 1) (hp : post (cp, nI n, d, nl, md, ex, sk, so, ek, eo, lf, P, O, V, N, M, vp_updL R r (zq_one V M (some s)).2, upd Z r (zq_b (zq_one V M (some s)).1))) : wpY_setRes post (cp, nI n, d, nl, md, ex, sk, so, ek, eo, lf, P, O, V, N, M, R, Z) (nI r) (M s) ((V s).toInt64) := by
  rcases hM with h | h
  · rw [h]
    exact zy_set0 hr (zy_fin0 (zq_one_v h) hp)
  · have h' : ¬ M s = 0 := by rw [h]; exact zq_n10
    rw [h]
    exact zy_set1 hr (zy_fin1 (zq_one_w h') hp)
theorem zy_ev0 {post : SY → Prop} (hn : n ≤ 32) (hr : r < 32) (hp : post (cp, nI n, d, nl, md, ex, sk, so, ek, eo, lf, P, O, V, N, M, vp_updL R r ((zq_an n P V M (zq_cmp P O N d nl) (zq_yf P (zq_cmp P O N d nl) (zq_q n P (zq_cmp P O N d nl)) O N d md ex sk so ek eo r) 0 arg r)).2, upd Z r (zq_b ((zq_an n P V M (zq_cmp P O N d nl) (zq_yf P (zq_cmp P O N d nl) (zq_q n P (zq_cmp P O N d nl)) O N d md ex sk so ek eo r) 0 arg r)).1))) : wpY_evalRow post (cp, nI n, d, nl, md, ex, sk, so, ek, eo, lf, P, O, V, N, M, R, Z) (nI r) 0 arg := by
  unfold wpY_evalRow
  dsimp only
  exact br_t rfl (zy_pos hn hr (zy_set0 hr (zy_fin0 zq_an_0 hp)))
theorem zy_ev1 {post : SY → Prop} (hn : n ≤ 32) (hr : r < 32) (hp : post (cp, nI n, d, nl, md, ex, sk, so, ek, eo, lf, P, O, V, N, M, vp_updL R r ((zq_an n P V M (zq_cmp P O N d nl) (zq_yf P (zq_cmp P O N d nl) (zq_q n P (zq_cmp P O N d nl)) O N d md ex sk so ek eo r) 1 arg r)).2, upd Z r (zq_b ((zq_an n P V M (zq_cmp P O N d nl) (zq_yf P (zq_cmp P O N d nl) (zq_q n P (zq_cmp P O N d nl)) O N d md ex sk so ek eo r) 1 arg r)).1))) : wpY_evalRow post (cp, nI n, d, nl, md, ex, sk, so, ek, eo, lf, P, O, V, N, M, R, Z) (nI r) 1 arg := by
  have L : ∃ m, wY_evalRow_35 post (nI r) 1 cp (nI n) d nl md ex sk so ek eo lf P O V N M R Z m (lN (zq_cn (zq_rk P (zq_cmp P O N d nl) r) 0 + 1)) (nI 0) := by
    refine zq_lp (W := fun m i => wY_evalRow_35 post (nI r) 1 cp (nI n) d nl md ex sk so ek eo lf P O V N M R Z m (lN (zq_cn (zq_rk P (zq_cmp P O N d nl) r) i + 1)) (nI i)) n (fun m => ?_) (fun m i hi ih => ?_)
    · exact br_t (nI_le (Nat.le_refl n) (by omega)) (zy_set0 hr (zy_fin0 zq_an_1 hp))
    · rw [wY_evalRow_35]
      dsimp only
      rw [zq_cl hr, zq_cl (show i < 32 by omega)]
      refine br_f (nI_ge hi (by omega)) ⟨zq_in (by omega), zq_in hr, br_c (fun h => zy_cmp (by omega) hr (br_c (fun g => nm_r (nI_1 i) ?_) (fun g => br_t rfl (nm_r (lN_1 _) (nm_r (nI_1 i) ?_))))) (fun h => nm_r (nI_1 i) ?_)⟩
      · rw [zq_cn_f (show zq_rk P (zq_cmp P O N d nl) r i = false by simp only [zq_rk, decide_eq_false (Int32.not_lt.mpr g), Bool.and_false])] at ih; exact ih
      · rw [zq_cn_t (show zq_rk P (zq_cmp P O N d nl) r i = true by simp only [zq_rk, decide_eq_true h, decide_eq_true (Int32.not_le.mp g), Bool.and_true])] at ih; exact ih
      · rw [zq_cn_f (show zq_rk P (zq_cmp P O N d nl) r i = false by simp only [zq_rk, decide_eq_false h, Bool.false_and])] at ih; exact ih
  unfold wpY_evalRow
  dsimp only
  exact br_f zq_n10 (br_t rfl L)
theorem zy_ev2 {post : SY → Prop} (hn : n ≤ 32) (hr : r < 32) (hp : post (cp, nI n, d, nl, md, ex, sk, so, ek, eo, lf, P, O, V, N, M, vp_updL R r ((zq_an n P V M (zq_cmp P O N d nl) (zq_yf P (zq_cmp P O N d nl) (zq_q n P (zq_cmp P O N d nl)) O N d md ex sk so ek eo r) 2 arg r)).2, upd Z r (zq_b ((zq_an n P V M (zq_cmp P O N d nl) (zq_yf P (zq_cmp P O N d nl) (zq_q n P (zq_cmp P O N d nl)) O N d md ex sk so ek eo r) 2 arg r)).1))) : wpY_evalRow post (cp, nI n, d, nl, md, ex, sk, so, ek, eo, lf, P, O, V, N, M, R, Z) (nI r) 2 arg := by
  have L : ∃ m, wY_evalRow_35 post (nI r) 2 cp (nI n) d nl md ex sk so ek eo lf P O V N M R Z m (lN (zq_cn (zq_dr P (zq_cmp P O N d nl) r) 0 + 1)) (nI 0) := by
    refine zq_lp (W := fun m i => wY_evalRow_35 post (nI r) 2 cp (nI n) d nl md ex sk so ek eo lf P O V N M R Z m (lN (zq_cn (zq_dr P (zq_cmp P O N d nl) r) i + 1)) (nI i)) n (fun m => ?_) (fun m i hi ih => ?_)
    · exact br_t (nI_le (Nat.le_refl n) (by omega)) (zy_set0 hr (zy_fin0 zq_an_2 hp))
    · rw [wY_evalRow_35]
      dsimp only
      rw [zq_cl hr, zq_cl (show i < 32 by omega)]
      refine br_f (nI_ge hi (by omega)) ⟨zq_in (by omega), zq_in hr, br_c (fun h => zy_cmp (by omega) hr (br_c (fun g => nm_r (nI_1 i) ?_) (fun g => br_f zq_n21 (zy_leader (by omega) (zq_br (fun l => nm_r (nI_1 i) ?_) (fun l => nm_r (lN_1 _) (nm_r (nI_1 i) ?_))))))) (fun h => nm_r (nI_1 i) ?_)⟩
      · rw [zq_cn_f (show zq_dr P (zq_cmp P O N d nl) r i = false by simp only [zq_dr, zq_rk, decide_eq_false (Int32.not_lt.mpr g), Bool.and_false, Bool.false_and])] at ih; exact ih
      · rw [zq_cn_f (show zq_dr P (zq_cmp P O N d nl) r i = false by simp only [zq_dr, l, Bool.and_false])] at ih; exact ih
      · rw [zq_cn_t (show zq_dr P (zq_cmp P O N d nl) r i = true by simp only [zq_dr, zq_rk, l, decide_eq_true h, decide_eq_true (Int32.not_le.mp g), Bool.and_true])] at ih; exact ih
      · rw [zq_cn_f (show zq_dr P (zq_cmp P O N d nl) r i = false by simp only [zq_dr, zq_rk, decide_eq_false h, Bool.false_and])] at ih; exact ih
  unfold wpY_evalRow
  dsimp only
  exact br_f zq_n20 (br_f zq_n21 (br_t rfl L))
theorem zy_lag {post : SY → Prop} {t : Int64} (hn : n ≤ 32) (hr : r < 32) (hM : ∀ i, M i = 0 ∨ M i = 1) (hp : post (cp, nI n, d, nl, md, ex, sk, so, ek, eo, lf, P, O, V, N, M, vp_updL R r (zq_one V M (zq_fd (zq_tg P (zq_q n P (zq_cmp P O N d nl)) r t) n)).2, upd Z r (zq_b (zq_one V M (zq_fd (zq_tg P (zq_q n P (zq_cmp P O N d nl)) r t) n)).1))) : ∃ m, wY_evalRow_146 post (nI r) t cp (nI n) d nl md ex sk so ek eo lf P O V N M R Z m 0 := by
  obtain ⟨m, hm⟩ := zq_lp (W := fun m i => (∀ j, j < i → zq_tg P (zq_q n P (zq_cmp P O N d nl)) r t j = false) → wY_evalRow_146 post (nI r) t cp (nI n) d nl md ex sk so ek eo lf P O V N M R Z m (nI i)) n (fun m hj => br_t (nI_le (Nat.le_refl n) (by omega)) (zy_set1 hr (zy_fin1 (by rw [zq_fd_n n hj]; rfl) hp))) (fun m i hi ih hj => by
    have hx : zq_tg P (zq_q n P (zq_cmp P O N d nl)) r t i = false → ∀ j, j < i + 1 → zq_tg P (zq_q n P (zq_cmp P O N d nl)) r t j = false := by
      intro h j hj'
      by_cases e : j = i
      · rw [e]; exact h
      · exact hj j (by omega)
    rw [wY_evalRow_146]
    dsimp only
    rw [zq_cl hr, zq_cl (show i < 32 by omega)]
    refine br_f (nI_ge hi (by omega)) ⟨zq_in (by omega), zq_in hr, br_c (fun h => zy_pos hn (by omega) (br_c (fun g => ⟨zq_in (by omega), zq_in (by omega), zy_one hr (hM i) ?_⟩) (fun g => nm_r (nI_1 i) (ih (hx ?_))))) (fun h => nm_r (nI_1 i) (ih (hx ?_)))⟩
    · rw [zq_fd_s hj (show zq_tg P (zq_q n P (zq_cmp P O N d nl)) r t i = true by simp only [zq_tg, decide_eq_true h, decide_eq_true g, Bool.and_true]) n hi] at hp
      exact hp
    · simp only [zq_tg, decide_eq_false g, Bool.and_false]
    · simp only [zq_tg, decide_eq_false h, Bool.false_and])
  exact ⟨m, hm (fun j hj => absurd hj (Nat.not_lt_zero j))⟩
theorem zy_ev3 {post : SY → Prop} (hn : n ≤ 32) (hr : r < 32) (hM : ∀ i, M i = 0 ∨ M i = 1) (hp : post (cp, nI n, d, nl, md, ex, sk, so, ek, eo, lf, P, O, V, N, M, vp_updL R r ((zq_an n P V M (zq_cmp P O N d nl) (zq_yf P (zq_cmp P O N d nl) (zq_q n P (zq_cmp P O N d nl)) O N d md ex sk so ek eo r) 3 arg r)).2, upd Z r (zq_b ((zq_an n P V M (zq_cmp P O N d nl) (zq_yf P (zq_cmp P O N d nl) (zq_q n P (zq_cmp P O N d nl)) O N d md ex sk so ek eo r) 3 arg r)).1))) : wpY_evalRow post (cp, nI n, d, nl, md, ex, sk, so, ek, eo, lf, P, O, V, N, M, R, Z) (nI r) 3 arg := by
  rw [zq_an_3] at hp
  unfold wpY_evalRow wY_evalRow_115
  dsimp only
  exact br_f zq_n30 (br_f zq_n31 (br_f zq_n32 (br_t rfl (br_t rfl (zy_pos hn hr (nm_e (zy_lag hn hr hM hp)))))))
theorem zq_n40 : ¬ (4 : Int32) = 0 := by decide
theorem zq_n41 : ¬ (4 : Int32) = 1 := by decide
theorem zq_n42 : ¬ (4 : Int32) = 2 := by decide
theorem zq_n43 : ¬ (4 : Int32) = 3 := by decide
theorem zy_ev4 {post : SY → Prop} (hn : n ≤ 32) (hr : r < 32) (hM : ∀ i, M i = 0 ∨ M i = 1) (hp : post (cp, nI n, d, nl, md, ex, sk, so, ek, eo, lf, P, O, V, N, M, vp_updL R r ((zq_an n P V M (zq_cmp P O N d nl) (zq_yf P (zq_cmp P O N d nl) (zq_q n P (zq_cmp P O N d nl)) O N d md ex sk so ek eo r) 4 arg r)).2, upd Z r (zq_b ((zq_an n P V M (zq_cmp P O N d nl) (zq_yf P (zq_cmp P O N d nl) (zq_q n P (zq_cmp P O N d nl)) O N d md ex sk so ek eo r) 4 arg r)).1))) : wpY_evalRow post (cp, nI n, d, nl, md, ex, sk, so, ek, eo, lf, P, O, V, N, M, R, Z) (nI r) 4 arg := by
  rw [zq_an_4] at hp
  unfold wpY_evalRow wY_evalRow_115
  dsimp only
  exact br_f zq_n40 (br_f zq_n41 (br_f zq_n42 (br_f zq_n43 (br_t rfl (br_f zq_n43 (zy_pos hn hr (nm_e (zy_lag hn hr hM hp))))))))
/-! the loop over the frame -/
def zq_bs (f : Int32) (c : Nat → Nat → Int32) (fr : Nat → Bool) (i : Nat) : Int32 :=
  if f = 5 then zq_o (zq_ex fr (fun i b => zq_bef c i b) i) else if f = 6 then zq_o (zq_ex fr (fun i b => zq_bef c b i) i) else -1
theorem zq_o_neg : (-1 : Int32) < 0 := by decide
theorem zq_o_pos (h : b < 32) : ¬ nI b < 0 := nI_pos (by omega)
theorem zq_lN0 {k : Nat} (h : k ≤ 32) : lN k = 0 ↔ k = 0 := lN_eq (a := k) (b := 0) (by omega) (by omega)
abbrev zqJ : Type := Int32 → Int64 → Int64 → Int64 → Int64 → Int64 → Int32 → Prop
def zq_m1 (k : Nat) (v m : Int64) : Int64 := if k = 0 then v else if decide (v < m) = true then v else m
def zq_m2 (k : Nat) (v m : Int64) : Int64 := if k = 0 then v else if decide (m < v) = true then v else m
theorem zy_394 {post : SY → Prop} {J : zqJ} {x2 x4 : Int32} {x5 x7 x9 x11 x13 : Int64} (hi : i < 32) (h : J x4 (x5 + (V i).toInt64) (x7 + 1) x9 x11 x13 (nI (i + 1))) : wY_evalRow_394 post J (nI r) x2 x4 x5 x7 x9 x11 x13 (nI i) cp (nI n) d nl md ex sk so ek eo lf P O V N M R Z := by
  unfold wY_evalRow_394
  rw [zq_cl hi]
  exact nm_e ⟨zq_in hi, nm_e (nm_r (nI_1 i) h)⟩
theorem zy_363 {post : SY → Prop} {J : zqJ} {x2 x4 : Int32} {k : Nat} {x5 x9 x11 x13 : Int64} (hi : i < 32) (hk : k ≤ 32) (h : J x4 (x5 + (V i).toInt64) (lN k + 1) x9 x11 (zq_m2 k (V i).toInt64 x13) (nI (i + 1))) : wY_evalRow_363 post J (nI r) x2 x4 x5 (lN k) x9 x11 x13 (nI i) cp (nI n) d nl md ex sk so ek eo lf P O V N M R Z := by
  unfold wY_evalRow_363 wY_evalRow_384
  rw [zq_cl hi]
  refine br_c (fun g => ⟨zq_in hi, nm_e (zy_394 hi ?_)⟩) (fun g => ⟨zq_in hi, br_c (fun l => zy_394 hi ?_) (fun l => ⟨zq_in hi, nm_e (zy_394 hi ?_)⟩)⟩)
  · unfold zq_m2 at h; rw [if_pos ((zq_lN0 hk).mp g)] at h; exact h
  · unfold zq_m2 at h; rw [if_neg (fun z => g ((zq_lN0 hk).mpr z)), decide_eq_false (Int64.not_lt.mpr l), if_neg zq_Bft] at h; exact h
  · unfold zq_m2 at h; rw [if_neg (fun z => g ((zq_lN0 hk).mpr z)), decide_eq_true (Int64.not_le.mp l), if_pos rfl] at h; exact h
theorem zy_319 {post : SY → Prop} {J : zqJ} {x2 x4 : Int32} {fr : Nat → Bool} {x9 : Int64} (hi : i < 32) (hf : fr i = true)
    (h : J x4 (zq_sm (zq_nv fr M) V (i + 1)) (lN (zq_cn (zq_nv fr M) (i + 1))) x9 (zq_mm (zq_nv fr M) V (fun x m => decide (x < m)) (i + 1)) (zq_mm (zq_nv fr M) V (fun x m => decide (m < x)) (i + 1)) (nI (i + 1))) :
    wY_evalRow_319 post J (nI r) x2 x4 (zq_sm (zq_nv fr M) V i) (lN (zq_cn (zq_nv fr M) i)) x9 (zq_mm (zq_nv fr M) V (fun x m => decide (x < m)) i) (zq_mm (zq_nv fr M) V (fun x m => decide (m < x)) i) (nI i) cp (nI n) d nl md ex sk so ek eo lf P O V N M R Z := by
  have hk : zq_cn (zq_nv fr M) i ≤ 32 := Nat.le_trans (zq_cn_le _ i) (by omega)
  unfold wY_evalRow_319
  rw [zq_cl hi]
  refine ⟨zq_in hi, br_c (fun m0 => ?_) (fun m0 => nm_r (nI_1 i) ?_)⟩
  · have hv : zq_nv fr M i = true := by simp only [zq_nv, hf, decide_eq_true m0, Bool.and_true]
    have h' : J x4 (zq_sm (zq_nv fr M) V i + (V i).toInt64) (lN (zq_cn (zq_nv fr M) i) + 1) x9 (zq_m1 (zq_cn (zq_nv fr M) i) (V i).toInt64 (zq_mm (zq_nv fr M) V (fun x m => decide (x < m)) i)) (zq_m2 (zq_cn (zq_nv fr M) i) (V i).toInt64 (zq_mm (zq_nv fr M) V (fun x m => decide (m < x)) i)) (nI (i + 1)) := by
      rw [zq_sm_t hv, zq_cn_t hv, ← lN_1] at h
      have e1 : zq_mm (zq_nv fr M) V (fun x m => decide (x < m)) (i + 1) = zq_m1 (zq_cn (zq_nv fr M) i) (V i).toInt64 (zq_mm (zq_nv fr M) V (fun x m => decide (x < m)) i) := if_pos hv
      have e2 : zq_mm (zq_nv fr M) V (fun x m => decide (m < x)) (i + 1) = zq_m2 (zq_cn (zq_nv fr M) i) (V i).toInt64 (zq_mm (zq_nv fr M) V (fun x m => decide (m < x)) i) := if_pos hv
      rw [e1, e2] at h
      exact h
    unfold wY_evalRow_353
    rw [zq_cl hi]
    refine br_c (fun g => ⟨zq_in hi, nm_e (zy_363 hi hk ?_)⟩) (fun g => ⟨zq_in hi, br_c (fun l => zy_363 hi hk ?_) (fun l => ⟨zq_in hi, nm_e (zy_363 hi hk ?_)⟩)⟩)
    · have e : zq_m1 (zq_cn (zq_nv fr M) i) (V i).toInt64 (zq_mm (zq_nv fr M) V (fun x m => decide (x < m)) i) = (V i).toInt64 := if_pos ((zq_lN0 hk).mp g)
      rw [e] at h'; exact h'
    · have e : zq_m1 (zq_cn (zq_nv fr M) i) (V i).toInt64 (zq_mm (zq_nv fr M) V (fun x m => decide (x < m)) i) = zq_mm (zq_nv fr M) V (fun x m => decide (x < m)) i := by
        unfold zq_m1; rw [if_neg (fun z => g ((zq_lN0 hk).mpr z)), decide_eq_false (Int64.not_lt.mpr l), if_neg zq_Bft]
      rw [e] at h'; exact h'
    · have e : zq_m1 (zq_cn (zq_nv fr M) i) (V i).toInt64 (zq_mm (zq_nv fr M) V (fun x m => decide (x < m)) i) = (V i).toInt64 := by
        unfold zq_m1; rw [if_neg (fun z => g ((zq_lN0 hk).mpr z)), decide_eq_true (Int64.not_le.mp l), if_pos rfl]
      rw [e] at h'; exact h'
  · have hv : zq_nv fr M i = false := by simp only [zq_nv, decide_eq_false m0, Bool.and_false]
    rw [zq_sm_f hv, zq_cn_f hv, zq_mm_f hv, zq_mm_f hv] at h
    exact h
end ZQF
